theorem dL_setHardness_0 : decode cL_setHardness 0 = .ok (.aload 4, 2) := by decide +kernel
theorem dL_setHardness_2 : decode cL_setHardness 2 = .ok (.iconst 0, 1) := by decide +kernel
theorem dL_setHardness_3 : decode cL_setHardness 3 = .ok (.aload_n 0, 1) := by decide +kernel
theorem dL_setHardness_4 : decode cL_setHardness 4 = .ok (.iload_n 1, 1) := by decide +kernel
theorem dL_setHardness_5 : decode cL_setHardness 5 = .ok (.iload_n 2, 1) := by decide +kernel
theorem dL_setHardness_6 : decode cL_setHardness 6 = .ok (.iload_n 3, 1) := by decide +kernel
theorem dL_setHardness_7 : decode cL_setHardness 7 = .ok (.invokevirtual 7, 3) := by decide +kernel
theorem dL_setHardness_10 : decode cL_setHardness 10 = .ok (.i2l, 1) := by decide +kernel
theorem dL_setHardness_11 : decode cL_setHardness 11 = .ok (.lastore, 1) := by decide +kernel
theorem dL_setHardness_12 : decode cL_setHardness 12 = .ok (.goto 11, 3) := by decide +kernel
theorem dL_setHardness_15 : decode cL_setHardness 15 = .ok (.astore 5, 2) := by decide +kernel
theorem dL_setHardness_17 : decode cL_setHardness 17 = .ok (.iconst 1, 1) := by decide +kernel
theorem dL_setHardness_18 : decode cL_setHardness 18 = .ok (.ireturn, 1) := by decide +kernel
theorem dL_setHardness_19 : decode cL_setHardness 19 = .ok (.astore 5, 2) := by decide +kernel
theorem dL_setHardness_21 : decode cL_setHardness 21 = .ok (.iconst 2, 1) := by decide +kernel
theorem dL_setHardness_22 : decode cL_setHardness 22 = .ok (.ireturn, 1) := by decide +kernel
theorem dL_setHardness_23 : decode cL_setHardness 23 = .ok (.iconst 0, 1) := by decide +kernel
theorem dL_setHardness_24 : decode cL_setHardness 24 = .ok (.ireturn, 1) := by decide +kernel
theorem dL_dig_0 : decode cL_dig 0 = .ok (.aload_n 3, 1) := by decide +kernel
theorem dL_dig_1 : decode cL_dig 1 = .ok (.iconst 0, 1) := by decide +kernel
theorem dL_dig_2 : decode cL_dig 2 = .ok (.aload_n 0, 1) := by decide +kernel
theorem dL_dig_3 : decode cL_dig 3 = .ok (.iload_n 1, 1) := by decide +kernel
theorem dL_dig_4 : decode cL_dig 4 = .ok (.iload_n 2, 1) := by decide +kernel
theorem dL_dig_5 : decode cL_dig 5 = .ok (.invokevirtual 17, 3) := by decide +kernel
theorem dL_dig_8 : decode cL_dig 8 = .ok (.lastore, 1) := by decide +kernel
theorem dL_dig_9 : decode cL_dig 9 = .ok (.goto 15, 3) := by decide +kernel
theorem dL_dig_12 : decode cL_dig 12 = .ok (.astore 4, 2) := by decide +kernel
theorem dL_dig_14 : decode cL_dig 14 = .ok (.iconst 1, 1) := by decide +kernel
theorem dL_dig_15 : decode cL_dig 15 = .ok (.ireturn, 1) := by decide +kernel
theorem dL_dig_16 : decode cL_dig 16 = .ok (.astore 4, 2) := by decide +kernel
theorem dL_dig_18 : decode cL_dig 18 = .ok (.iconst 2, 1) := by decide +kernel
theorem dL_dig_19 : decode cL_dig 19 = .ok (.ireturn, 1) := by decide +kernel
theorem dL_dig_20 : decode cL_dig 20 = .ok (.astore 4, 2) := by decide +kernel
theorem dL_dig_22 : decode cL_dig 22 = .ok (.iconst 3, 1) := by decide +kernel
theorem dL_dig_23 : decode cL_dig 23 = .ok (.ireturn, 1) := by decide +kernel
theorem dL_dig_24 : decode cL_dig 24 = .ok (.iconst 0, 1) := by decide +kernel
theorem dL_dig_25 : decode cL_dig 25 = .ok (.ireturn, 1) := by decide +kernel
theorem dL_hardnessOf_0 : decode cL_hardnessOf 0 = .ok (.aload_n 3, 1) := by decide +kernel
theorem dL_hardnessOf_1 : decode cL_hardnessOf 1 = .ok (.iconst 0, 1) := by decide +kernel
theorem dL_hardnessOf_2 : decode cL_hardnessOf 2 = .ok (.aload_n 0, 1) := by decide +kernel
theorem dL_hardnessOf_3 : decode cL_hardnessOf 3 = .ok (.iload_n 1, 1) := by decide +kernel
theorem dL_hardnessOf_4 : decode cL_hardnessOf 4 = .ok (.iload_n 2, 1) := by decide +kernel
theorem dL_hardnessOf_5 : decode cL_hardnessOf 5 = .ok (.invokevirtual 23, 3) := by decide +kernel
theorem dL_hardnessOf_8 : decode cL_hardnessOf 8 = .ok (.i2l, 1) := by decide +kernel
theorem dL_hardnessOf_9 : decode cL_hardnessOf 9 = .ok (.lastore, 1) := by decide +kernel
theorem dL_hardnessOf_10 : decode cL_hardnessOf 10 = .ok (.goto 11, 3) := by decide +kernel
theorem dL_hardnessOf_13 : decode cL_hardnessOf 13 = .ok (.astore 4, 2) := by decide +kernel
theorem dL_hardnessOf_15 : decode cL_hardnessOf 15 = .ok (.iconst 1, 1) := by decide +kernel
theorem dL_hardnessOf_16 : decode cL_hardnessOf 16 = .ok (.ireturn, 1) := by decide +kernel
theorem dL_hardnessOf_17 : decode cL_hardnessOf 17 = .ok (.astore 4, 2) := by decide +kernel
theorem dL_hardnessOf_19 : decode cL_hardnessOf 19 = .ok (.iconst 2, 1) := by decide +kernel
theorem dL_hardnessOf_20 : decode cL_hardnessOf 20 = .ok (.ireturn, 1) := by decide +kernel
theorem dL_hardnessOf_21 : decode cL_hardnessOf 21 = .ok (.iconst 0, 1) := by decide +kernel
theorem dL_hardnessOf_22 : decode cL_hardnessOf 22 = .ok (.ireturn, 1) := by decide +kernel
theorem dL_isOpen_0 : decode cL_isOpen 0 = .ok (.aload_n 3, 1) := by decide +kernel
theorem dL_isOpen_1 : decode cL_isOpen 1 = .ok (.iconst 0, 1) := by decide +kernel
theorem dL_isOpen_2 : decode cL_isOpen 2 = .ok (.aload_n 0, 1) := by decide +kernel
theorem dL_isOpen_3 : decode cL_isOpen 3 = .ok (.iload_n 1, 1) := by decide +kernel
theorem dL_isOpen_4 : decode cL_isOpen 4 = .ok (.iload_n 2, 1) := by decide +kernel
theorem dL_isOpen_5 : decode cL_isOpen 5 = .ok (.invokevirtual 27, 3) := by decide +kernel
theorem dL_isOpen_8 : decode cL_isOpen 8 = .ok (.ifCond .eq 7, 3) := by decide +kernel
theorem dL_isOpen_11 : decode cL_isOpen 11 = .ok (.lconst 1, 1) := by decide +kernel
theorem dL_isOpen_12 : decode cL_isOpen 12 = .ok (.goto 4, 3) := by decide +kernel
theorem dL_isOpen_15 : decode cL_isOpen 15 = .ok (.lconst 0, 1) := by decide +kernel
theorem dL_isOpen_16 : decode cL_isOpen 16 = .ok (.lastore, 1) := by decide +kernel
theorem dL_isOpen_17 : decode cL_isOpen 17 = .ok (.goto 7, 3) := by decide +kernel
theorem dL_isOpen_20 : decode cL_isOpen 20 = .ok (.astore 4, 2) := by decide +kernel
theorem dL_isOpen_22 : decode cL_isOpen 22 = .ok (.iconst 1, 1) := by decide +kernel
theorem dL_isOpen_23 : decode cL_isOpen 23 = .ok (.ireturn, 1) := by decide +kernel
theorem dL_isOpen_24 : decode cL_isOpen 24 = .ok (.iconst 0, 1) := by decide +kernel
theorem dL_isOpen_25 : decode cL_isOpen 25 = .ok (.ireturn, 1) := by decide +kernel
theorem dL_veinCount_0 : decode cL_veinCount 0 = .ok (.aload_n 2, 1) := by decide +kernel
theorem dL_veinCount_1 : decode cL_veinCount 1 = .ok (.iconst 0, 1) := by decide +kernel
theorem dL_veinCount_2 : decode cL_veinCount 2 = .ok (.aload_n 0, 1) := by decide +kernel
theorem dL_veinCount_3 : decode cL_veinCount 3 = .ok (.iload_n 1, 1) := by decide +kernel
theorem dL_veinCount_4 : decode cL_veinCount 4 = .ok (.invokevirtual 31, 3) := by decide +kernel
theorem dL_veinCount_7 : decode cL_veinCount 7 = .ok (.i2l, 1) := by decide +kernel
theorem dL_veinCount_8 : decode cL_veinCount 8 = .ok (.lastore, 1) := by decide +kernel
theorem dL_veinCount_9 : decode cL_veinCount 9 = .ok (.goto 6, 3) := by decide +kernel
theorem dL_veinCount_12 : decode cL_veinCount 12 = .ok (.astore_n 3, 1) := by decide +kernel
theorem dL_veinCount_13 : decode cL_veinCount 13 = .ok (.iconst 1, 1) := by decide +kernel
theorem dL_veinCount_14 : decode cL_veinCount 14 = .ok (.ireturn, 1) := by decide +kernel
theorem dL_veinCount_15 : decode cL_veinCount 15 = .ok (.iconst 0, 1) := by decide +kernel
theorem dL_veinCount_16 : decode cL_veinCount 16 = .ok (.ireturn, 1) := by decide +kernel
theorem dL_veinSize_0 : decode cL_veinSize 0 = .ok (.aload_n 3, 1) := by decide +kernel
theorem dL_veinSize_1 : decode cL_veinSize 1 = .ok (.iconst 0, 1) := by decide +kernel
theorem dL_veinSize_2 : decode cL_veinSize 2 = .ok (.aload_n 0, 1) := by decide +kernel
theorem dL_veinSize_3 : decode cL_veinSize 3 = .ok (.iload_n 1, 1) := by decide +kernel
theorem dL_veinSize_4 : decode cL_veinSize 4 = .ok (.iload_n 2, 1) := by decide +kernel
theorem dL_veinSize_5 : decode cL_veinSize 5 = .ok (.invokevirtual 35, 3) := by decide +kernel
theorem dL_veinSize_8 : decode cL_veinSize 8 = .ok (.i2l, 1) := by decide +kernel
theorem dL_veinSize_9 : decode cL_veinSize 9 = .ok (.lastore, 1) := by decide +kernel
theorem dL_veinSize_10 : decode cL_veinSize 10 = .ok (.goto 11, 3) := by decide +kernel
theorem dL_veinSize_13 : decode cL_veinSize 13 = .ok (.astore 4, 2) := by decide +kernel
theorem dL_veinSize_15 : decode cL_veinSize 15 = .ok (.iconst 1, 1) := by decide +kernel
theorem dL_veinSize_16 : decode cL_veinSize 16 = .ok (.ireturn, 1) := by decide +kernel
theorem dL_veinSize_17 : decode cL_veinSize 17 = .ok (.astore 4, 2) := by decide +kernel
theorem dL_veinSize_19 : decode cL_veinSize 19 = .ok (.iconst 2, 1) := by decide +kernel
theorem dL_veinSize_20 : decode cL_veinSize 20 = .ok (.ireturn, 1) := by decide +kernel
theorem dL_veinSize_21 : decode cL_veinSize 21 = .ok (.iconst 0, 1) := by decide +kernel
theorem dL_veinSize_22 : decode cL_veinSize 22 = .ok (.ireturn, 1) := by decide +kernel
theorem dL_addCharge_0 : decode cL_addCharge 0 = .ok (.aload 4, 2) := by decide +kernel
theorem dL_addCharge_2 : decode cL_addCharge 2 = .ok (.iconst 0, 1) := by decide +kernel
theorem dL_addCharge_3 : decode cL_addCharge 3 = .ok (.aload_n 0, 1) := by decide +kernel
theorem dL_addCharge_4 : decode cL_addCharge 4 = .ok (.iload_n 1, 1) := by decide +kernel
theorem dL_addCharge_5 : decode cL_addCharge 5 = .ok (.iload_n 2, 1) := by decide +kernel
theorem dL_addCharge_6 : decode cL_addCharge 6 = .ok (.iload_n 3, 1) := by decide +kernel
theorem dL_addCharge_7 : decode cL_addCharge 7 = .ok (.invokevirtual 38, 3) := by decide +kernel
theorem dL_addCharge_10 : decode cL_addCharge 10 = .ok (.i2l, 1) := by decide +kernel
theorem dL_addCharge_11 : decode cL_addCharge 11 = .ok (.lastore, 1) := by decide +kernel
theorem dL_addCharge_12 : decode cL_addCharge 12 = .ok (.goto 11, 3) := by decide +kernel
theorem dL_addCharge_15 : decode cL_addCharge 15 = .ok (.astore 5, 2) := by decide +kernel
theorem dL_addCharge_17 : decode cL_addCharge 17 = .ok (.iconst 1, 1) := by decide +kernel
theorem dL_addCharge_18 : decode cL_addCharge 18 = .ok (.ireturn, 1) := by decide +kernel
theorem dL_addCharge_19 : decode cL_addCharge 19 = .ok (.astore 5, 2) := by decide +kernel
theorem dL_addCharge_21 : decode cL_addCharge 21 = .ok (.iconst 2, 1) := by decide +kernel
theorem dL_addCharge_22 : decode cL_addCharge 22 = .ok (.ireturn, 1) := by decide +kernel
theorem dL_addCharge_23 : decode cL_addCharge 23 = .ok (.iconst 0, 1) := by decide +kernel
theorem dL_addCharge_24 : decode cL_addCharge 24 = .ok (.ireturn, 1) := by decide +kernel
theorem dL_removeCharge_0 : decode cL_removeCharge 0 = .ok (.aload_n 2, 1) := by decide +kernel
theorem dL_removeCharge_1 : decode cL_removeCharge 1 = .ok (.iconst 0, 1) := by decide +kernel
theorem dL_removeCharge_2 : decode cL_removeCharge 2 = .ok (.aload_n 0, 1) := by decide +kernel
theorem dL_removeCharge_3 : decode cL_removeCharge 3 = .ok (.iload_n 1, 1) := by decide +kernel
theorem dL_removeCharge_4 : decode cL_removeCharge 4 = .ok (.invokevirtual 41, 3) := by decide +kernel
theorem dL_removeCharge_7 : decode cL_removeCharge 7 = .ok (.i2l, 1) := by decide +kernel
theorem dL_removeCharge_8 : decode cL_removeCharge 8 = .ok (.lastore, 1) := by decide +kernel
theorem dL_removeCharge_9 : decode cL_removeCharge 9 = .ok (.goto 6, 3) := by decide +kernel
theorem dL_removeCharge_12 : decode cL_removeCharge 12 = .ok (.astore_n 3, 1) := by decide +kernel
theorem dL_removeCharge_13 : decode cL_removeCharge 13 = .ok (.iconst 1, 1) := by decide +kernel
theorem dL_removeCharge_14 : decode cL_removeCharge 14 = .ok (.ireturn, 1) := by decide +kernel
theorem dL_removeCharge_15 : decode cL_removeCharge 15 = .ok (.iconst 0, 1) := by decide +kernel
theorem dL_removeCharge_16 : decode cL_removeCharge 16 = .ok (.ireturn, 1) := by decide +kernel
theorem dL_ignite_0 : decode cL_ignite 0 = .ok (.aload_n 2, 1) := by decide +kernel
theorem dL_ignite_1 : decode cL_ignite 1 = .ok (.iconst 0, 1) := by decide +kernel
theorem dL_ignite_2 : decode cL_ignite 2 = .ok (.aload_n 0, 1) := by decide +kernel
theorem dL_ignite_3 : decode cL_ignite 3 = .ok (.iload_n 1, 1) := by decide +kernel
theorem dL_ignite_4 : decode cL_ignite 4 = .ok (.invokevirtual 46, 3) := by decide +kernel
theorem dL_ignite_7 : decode cL_ignite 7 = .ok (.i2l, 1) := by decide +kernel
theorem dL_ignite_8 : decode cL_ignite 8 = .ok (.lastore, 1) := by decide +kernel
theorem dL_ignite_9 : decode cL_ignite 9 = .ok (.goto 6, 3) := by decide +kernel
theorem dL_ignite_12 : decode cL_ignite 12 = .ok (.astore_n 3, 1) := by decide +kernel
theorem dL_ignite_13 : decode cL_ignite 13 = .ok (.iconst 1, 1) := by decide +kernel
theorem dL_ignite_14 : decode cL_ignite 14 = .ok (.ireturn, 1) := by decide +kernel
theorem dL_ignite_15 : decode cL_ignite 15 = .ok (.iconst 0, 1) := by decide +kernel
theorem dL_ignite_16 : decode cL_ignite 16 = .ok (.ireturn, 1) := by decide +kernel
theorem dL_chargeRow_0 : decode cL_chargeRow 0 = .ok (.aload_n 2, 1) := by decide +kernel
theorem dL_chargeRow_1 : decode cL_chargeRow 1 = .ok (.iconst 0, 1) := by decide +kernel
theorem dL_chargeRow_2 : decode cL_chargeRow 2 = .ok (.aload_n 0, 1) := by decide +kernel
theorem dL_chargeRow_3 : decode cL_chargeRow 3 = .ok (.iload_n 1, 1) := by decide +kernel
theorem dL_chargeRow_4 : decode cL_chargeRow 4 = .ok (.invokevirtual 49, 3) := by decide +kernel
theorem dL_chargeRow_7 : decode cL_chargeRow 7 = .ok (.i2l, 1) := by decide +kernel
theorem dL_chargeRow_8 : decode cL_chargeRow 8 = .ok (.lastore, 1) := by decide +kernel
theorem dL_chargeRow_9 : decode cL_chargeRow 9 = .ok (.goto 6, 3) := by decide +kernel
theorem dL_chargeRow_12 : decode cL_chargeRow 12 = .ok (.astore_n 3, 1) := by decide +kernel
theorem dL_chargeRow_13 : decode cL_chargeRow 13 = .ok (.iconst 1, 1) := by decide +kernel
theorem dL_chargeRow_14 : decode cL_chargeRow 14 = .ok (.ireturn, 1) := by decide +kernel
theorem dL_chargeRow_15 : decode cL_chargeRow 15 = .ok (.iconst 0, 1) := by decide +kernel
theorem dL_chargeRow_16 : decode cL_chargeRow 16 = .ok (.ireturn, 1) := by decide +kernel
theorem dL_chargeColumn_0 : decode cL_chargeColumn 0 = .ok (.aload_n 2, 1) := by decide +kernel
theorem dL_chargeColumn_1 : decode cL_chargeColumn 1 = .ok (.iconst 0, 1) := by decide +kernel
theorem dL_chargeColumn_2 : decode cL_chargeColumn 2 = .ok (.aload_n 0, 1) := by decide +kernel
theorem dL_chargeColumn_3 : decode cL_chargeColumn 3 = .ok (.iload_n 1, 1) := by decide +kernel
theorem dL_chargeColumn_4 : decode cL_chargeColumn 4 = .ok (.invokevirtual 52, 3) := by decide +kernel
theorem dL_chargeColumn_7 : decode cL_chargeColumn 7 = .ok (.i2l, 1) := by decide +kernel
theorem dL_chargeColumn_8 : decode cL_chargeColumn 8 = .ok (.lastore, 1) := by decide +kernel
theorem dL_chargeColumn_9 : decode cL_chargeColumn 9 = .ok (.goto 6, 3) := by decide +kernel
theorem dL_chargeColumn_12 : decode cL_chargeColumn 12 = .ok (.astore_n 3, 1) := by decide +kernel
theorem dL_chargeColumn_13 : decode cL_chargeColumn 13 = .ok (.iconst 1, 1) := by decide +kernel
theorem dL_chargeColumn_14 : decode cL_chargeColumn 14 = .ok (.ireturn, 1) := by decide +kernel
theorem dL_chargeColumn_15 : decode cL_chargeColumn 15 = .ok (.iconst 0, 1) := by decide +kernel
theorem dL_chargeColumn_16 : decode cL_chargeColumn 16 = .ok (.ireturn, 1) := by decide +kernel
theorem dL_chargeStrength_0 : decode cL_chargeStrength 0 = .ok (.aload_n 2, 1) := by decide +kernel
theorem dL_chargeStrength_1 : decode cL_chargeStrength 1 = .ok (.iconst 0, 1) := by decide +kernel
theorem dL_chargeStrength_2 : decode cL_chargeStrength 2 = .ok (.aload_n 0, 1) := by decide +kernel
theorem dL_chargeStrength_3 : decode cL_chargeStrength 3 = .ok (.iload_n 1, 1) := by decide +kernel
theorem dL_chargeStrength_4 : decode cL_chargeStrength 4 = .ok (.invokevirtual 55, 3) := by decide +kernel
theorem dL_chargeStrength_7 : decode cL_chargeStrength 7 = .ok (.i2l, 1) := by decide +kernel
theorem dL_chargeStrength_8 : decode cL_chargeStrength 8 = .ok (.lastore, 1) := by decide +kernel
theorem dL_chargeStrength_9 : decode cL_chargeStrength 9 = .ok (.goto 6, 3) := by decide +kernel
theorem dL_chargeStrength_12 : decode cL_chargeStrength 12 = .ok (.astore_n 3, 1) := by decide +kernel
theorem dL_chargeStrength_13 : decode cL_chargeStrength 13 = .ok (.iconst 1, 1) := by decide +kernel
theorem dL_chargeStrength_14 : decode cL_chargeStrength 14 = .ok (.ireturn, 1) := by decide +kernel
theorem dL_chargeStrength_15 : decode cL_chargeStrength 15 = .ok (.iconst 0, 1) := by decide +kernel
theorem dL_chargeStrength_16 : decode cL_chargeStrength 16 = .ok (.ireturn, 1) := by decide +kernel
theorem dL_chainOf_0 : decode cL_chainOf 0 = .ok (.aload_n 2, 1) := by decide +kernel
theorem dL_chainOf_1 : decode cL_chainOf 1 = .ok (.iconst 0, 1) := by decide +kernel
theorem dL_chainOf_2 : decode cL_chainOf 2 = .ok (.aload_n 0, 1) := by decide +kernel
theorem dL_chainOf_3 : decode cL_chainOf 3 = .ok (.iload_n 1, 1) := by decide +kernel
theorem dL_chainOf_4 : decode cL_chainOf 4 = .ok (.invokevirtual 58, 3) := by decide +kernel
theorem dL_chainOf_7 : decode cL_chainOf 7 = .ok (.i2l, 1) := by decide +kernel
theorem dL_chainOf_8 : decode cL_chainOf 8 = .ok (.lastore, 1) := by decide +kernel
theorem dL_chainOf_9 : decode cL_chainOf 9 = .ok (.goto 6, 3) := by decide +kernel
theorem dL_chainOf_12 : decode cL_chainOf 12 = .ok (.astore_n 3, 1) := by decide +kernel
theorem dL_chainOf_13 : decode cL_chainOf 13 = .ok (.iconst 1, 1) := by decide +kernel
theorem dL_chainOf_14 : decode cL_chainOf 14 = .ok (.ireturn, 1) := by decide +kernel
theorem dL_chainOf_15 : decode cL_chainOf 15 = .ok (.iconst 0, 1) := by decide +kernel
theorem dL_chainOf_16 : decode cL_chainOf 16 = .ok (.ireturn, 1) := by decide +kernel
theorem dL_chainByRounds_0 : decode cL_chainByRounds 0 = .ok (.aload_n 2, 1) := by decide +kernel
theorem dL_chainByRounds_1 : decode cL_chainByRounds 1 = .ok (.iconst 0, 1) := by decide +kernel
theorem dL_chainByRounds_2 : decode cL_chainByRounds 2 = .ok (.aload_n 0, 1) := by decide +kernel
theorem dL_chainByRounds_3 : decode cL_chainByRounds 3 = .ok (.iload_n 1, 1) := by decide +kernel
theorem dL_chainByRounds_4 : decode cL_chainByRounds 4 = .ok (.invokevirtual 61, 3) := by decide +kernel
theorem dL_chainByRounds_7 : decode cL_chainByRounds 7 = .ok (.i2l, 1) := by decide +kernel
theorem dL_chainByRounds_8 : decode cL_chainByRounds 8 = .ok (.lastore, 1) := by decide +kernel
theorem dL_chainByRounds_9 : decode cL_chainByRounds 9 = .ok (.goto 6, 3) := by decide +kernel
theorem dL_chainByRounds_12 : decode cL_chainByRounds 12 = .ok (.astore_n 3, 1) := by decide +kernel
theorem dL_chainByRounds_13 : decode cL_chainByRounds 13 = .ok (.iconst 1, 1) := by decide +kernel
theorem dL_chainByRounds_14 : decode cL_chainByRounds 14 = .ok (.ireturn, 1) := by decide +kernel
theorem dL_chainByRounds_15 : decode cL_chainByRounds 15 = .ok (.iconst 0, 1) := by decide +kernel
theorem dL_chainByRounds_16 : decode cL_chainByRounds 16 = .ok (.ireturn, 1) := by decide +kernel
theorem dL_opensOf_0 : decode cL_opensOf 0 = .ok (.aload_n 2, 1) := by decide +kernel
theorem dL_opensOf_1 : decode cL_opensOf 1 = .ok (.iconst 0, 1) := by decide +kernel
theorem dL_opensOf_2 : decode cL_opensOf 2 = .ok (.aload_n 0, 1) := by decide +kernel
theorem dL_opensOf_3 : decode cL_opensOf 3 = .ok (.iload_n 1, 1) := by decide +kernel
theorem dL_opensOf_4 : decode cL_opensOf 4 = .ok (.invokevirtual 64, 3) := by decide +kernel
theorem dL_opensOf_7 : decode cL_opensOf 7 = .ok (.i2l, 1) := by decide +kernel
theorem dL_opensOf_8 : decode cL_opensOf 8 = .ok (.lastore, 1) := by decide +kernel
theorem dL_opensOf_9 : decode cL_opensOf 9 = .ok (.goto 6, 3) := by decide +kernel
theorem dL_opensOf_12 : decode cL_opensOf 12 = .ok (.astore_n 3, 1) := by decide +kernel
theorem dL_opensOf_13 : decode cL_opensOf 13 = .ok (.iconst 1, 1) := by decide +kernel
theorem dL_opensOf_14 : decode cL_opensOf 14 = .ok (.ireturn, 1) := by decide +kernel
theorem dL_opensOf_15 : decode cL_opensOf 15 = .ok (.iconst 0, 1) := by decide +kernel
theorem dL_opensOf_16 : decode cL_opensOf 16 = .ok (.ireturn, 1) := by decide +kernel
theorem dL_bestCharge_0 : decode cL_bestCharge 0 = .ok (.aload_n 1, 1) := by decide +kernel
theorem dL_bestCharge_1 : decode cL_bestCharge 1 = .ok (.iconst 0, 1) := by decide +kernel
theorem dL_bestCharge_2 : decode cL_bestCharge 2 = .ok (.aload_n 0, 1) := by decide +kernel
theorem dL_bestCharge_3 : decode cL_bestCharge 3 = .ok (.invokevirtual 67, 3) := by decide +kernel
theorem dL_bestCharge_6 : decode cL_bestCharge 6 = .ok (.i2l, 1) := by decide +kernel
theorem dL_bestCharge_7 : decode cL_bestCharge 7 = .ok (.lastore, 1) := by decide +kernel
theorem dL_bestCharge_8 : decode cL_bestCharge 8 = .ok (.goto 6, 3) := by decide +kernel
theorem dL_bestCharge_11 : decode cL_bestCharge 11 = .ok (.astore_n 2, 1) := by decide +kernel
theorem dL_bestCharge_12 : decode cL_bestCharge 12 = .ok (.iconst 1, 1) := by decide +kernel
theorem dL_bestCharge_13 : decode cL_bestCharge 13 = .ok (.ireturn, 1) := by decide +kernel
theorem dL_bestCharge_14 : decode cL_bestCharge 14 = .ok (.iconst 0, 1) := by decide +kernel
theorem dL_bestCharge_15 : decode cL_bestCharge 15 = .ok (.ireturn, 1) := by decide +kernel
theorem dL_setPrice_0 : decode cL_setPrice 0 = .ok (.aload_n 3, 1) := by decide +kernel
theorem dL_setPrice_1 : decode cL_setPrice 1 = .ok (.iconst 0, 1) := by decide +kernel
theorem dL_setPrice_2 : decode cL_setPrice 2 = .ok (.aload_n 0, 1) := by decide +kernel
theorem dL_setPrice_3 : decode cL_setPrice 3 = .ok (.iload_n 1, 1) := by decide +kernel
theorem dL_setPrice_4 : decode cL_setPrice 4 = .ok (.iload_n 2, 1) := by decide +kernel
theorem dL_setPrice_5 : decode cL_setPrice 5 = .ok (.invokevirtual 73, 3) := by decide +kernel
theorem dL_setPrice_8 : decode cL_setPrice 8 = .ok (.i2l, 1) := by decide +kernel
theorem dL_setPrice_9 : decode cL_setPrice 9 = .ok (.lastore, 1) := by decide +kernel
theorem dL_setPrice_10 : decode cL_setPrice 10 = .ok (.goto 7, 3) := by decide +kernel
theorem dL_setPrice_13 : decode cL_setPrice 13 = .ok (.astore 4, 2) := by decide +kernel
theorem dL_setPrice_15 : decode cL_setPrice 15 = .ok (.iconst 1, 1) := by decide +kernel
theorem dL_setPrice_16 : decode cL_setPrice 16 = .ok (.ireturn, 1) := by decide +kernel
theorem dL_setPrice_17 : decode cL_setPrice 17 = .ok (.iconst 0, 1) := by decide +kernel
theorem dL_setPrice_18 : decode cL_setPrice 18 = .ok (.ireturn, 1) := by decide +kernel
theorem dL_priceOf_0 : decode cL_priceOf 0 = .ok (.aload_n 2, 1) := by decide +kernel
theorem dL_priceOf_1 : decode cL_priceOf 1 = .ok (.iconst 0, 1) := by decide +kernel
theorem dL_priceOf_2 : decode cL_priceOf 2 = .ok (.aload_n 0, 1) := by decide +kernel
theorem dL_priceOf_3 : decode cL_priceOf 3 = .ok (.iload_n 1, 1) := by decide +kernel
theorem dL_priceOf_4 : decode cL_priceOf 4 = .ok (.invokevirtual 76, 3) := by decide +kernel
theorem dL_priceOf_7 : decode cL_priceOf 7 = .ok (.i2l, 1) := by decide +kernel
theorem dL_priceOf_8 : decode cL_priceOf 8 = .ok (.lastore, 1) := by decide +kernel
theorem dL_priceOf_9 : decode cL_priceOf 9 = .ok (.goto 6, 3) := by decide +kernel
theorem dL_priceOf_12 : decode cL_priceOf 12 = .ok (.astore_n 3, 1) := by decide +kernel
theorem dL_priceOf_13 : decode cL_priceOf 13 = .ok (.iconst 1, 1) := by decide +kernel
theorem dL_priceOf_14 : decode cL_priceOf 14 = .ok (.ireturn, 1) := by decide +kernel
theorem dL_priceOf_15 : decode cL_priceOf 15 = .ok (.iconst 0, 1) := by decide +kernel
theorem dL_priceOf_16 : decode cL_priceOf 16 = .ok (.ireturn, 1) := by decide +kernel
theorem dL_bestCut_0 : decode cL_bestCut 0 = .ok (.aload_n 2, 1) := by decide +kernel
theorem dL_bestCut_1 : decode cL_bestCut 1 = .ok (.iconst 0, 1) := by decide +kernel
theorem dL_bestCut_2 : decode cL_bestCut 2 = .ok (.aload_n 0, 1) := by decide +kernel
theorem dL_bestCut_3 : decode cL_bestCut 3 = .ok (.iload_n 1, 1) := by decide +kernel
theorem dL_bestCut_4 : decode cL_bestCut 4 = .ok (.invokevirtual 79, 3) := by decide +kernel
theorem dL_bestCut_7 : decode cL_bestCut 7 = .ok (.i2l, 1) := by decide +kernel
theorem dL_bestCut_8 : decode cL_bestCut 8 = .ok (.lastore, 1) := by decide +kernel
theorem dL_bestCut_9 : decode cL_bestCut 9 = .ok (.goto 6, 3) := by decide +kernel
theorem dL_bestCut_12 : decode cL_bestCut 12 = .ok (.astore_n 3, 1) := by decide +kernel
theorem dL_bestCut_13 : decode cL_bestCut 13 = .ok (.iconst 1, 1) := by decide +kernel
theorem dL_bestCut_14 : decode cL_bestCut 14 = .ok (.ireturn, 1) := by decide +kernel
theorem dL_bestCut_15 : decode cL_bestCut 15 = .ok (.iconst 0, 1) := by decide +kernel
theorem dL_bestCut_16 : decode cL_bestCut 16 = .ok (.ireturn, 1) := by decide +kernel
theorem dL_bestCutByTrial_0 : decode cL_bestCutByTrial 0 = .ok (.aload_n 2, 1) := by decide +kernel
theorem dL_bestCutByTrial_1 : decode cL_bestCutByTrial 1 = .ok (.iconst 0, 1) := by decide +kernel
theorem dL_bestCutByTrial_2 : decode cL_bestCutByTrial 2 = .ok (.aload_n 0, 1) := by decide +kernel
theorem dL_bestCutByTrial_3 : decode cL_bestCutByTrial 3 = .ok (.iload_n 1, 1) := by decide +kernel
theorem dL_bestCutByTrial_4 : decode cL_bestCutByTrial 4 = .ok (.invokevirtual 82, 3) := by decide +kernel
theorem dL_bestCutByTrial_7 : decode cL_bestCutByTrial 7 = .ok (.i2l, 1) := by decide +kernel
theorem dL_bestCutByTrial_8 : decode cL_bestCutByTrial 8 = .ok (.lastore, 1) := by decide +kernel
theorem dL_bestCutByTrial_9 : decode cL_bestCutByTrial 9 = .ok (.goto 6, 3) := by decide +kernel
theorem dL_bestCutByTrial_12 : decode cL_bestCutByTrial 12 = .ok (.astore_n 3, 1) := by decide +kernel
theorem dL_bestCutByTrial_13 : decode cL_bestCutByTrial 13 = .ok (.iconst 1, 1) := by decide +kernel
theorem dL_bestCutByTrial_14 : decode cL_bestCutByTrial 14 = .ok (.ireturn, 1) := by decide +kernel
theorem dL_bestCutByTrial_15 : decode cL_bestCutByTrial 15 = .ok (.iconst 0, 1) := by decide +kernel
theorem dL_bestCutByTrial_16 : decode cL_bestCutByTrial 16 = .ok (.ireturn, 1) := by decide +kernel
theorem dL_fewestPieces_0 : decode cL_fewestPieces 0 = .ok (.aload_n 2, 1) := by decide +kernel
theorem dL_fewestPieces_1 : decode cL_fewestPieces 1 = .ok (.iconst 0, 1) := by decide +kernel
theorem dL_fewestPieces_2 : decode cL_fewestPieces 2 = .ok (.aload_n 0, 1) := by decide +kernel
theorem dL_fewestPieces_3 : decode cL_fewestPieces 3 = .ok (.iload_n 1, 1) := by decide +kernel
theorem dL_fewestPieces_4 : decode cL_fewestPieces 4 = .ok (.invokevirtual 85, 3) := by decide +kernel
theorem dL_fewestPieces_7 : decode cL_fewestPieces 7 = .ok (.i2l, 1) := by decide +kernel
theorem dL_fewestPieces_8 : decode cL_fewestPieces 8 = .ok (.lastore, 1) := by decide +kernel
theorem dL_fewestPieces_9 : decode cL_fewestPieces 9 = .ok (.goto 6, 3) := by decide +kernel
theorem dL_fewestPieces_12 : decode cL_fewestPieces 12 = .ok (.astore_n 3, 1) := by decide +kernel
theorem dL_fewestPieces_13 : decode cL_fewestPieces 13 = .ok (.iconst 1, 1) := by decide +kernel
theorem dL_fewestPieces_14 : decode cL_fewestPieces 14 = .ok (.ireturn, 1) := by decide +kernel
theorem dL_fewestPieces_15 : decode cL_fewestPieces 15 = .ok (.iconst 0, 1) := by decide +kernel
theorem dL_fewestPieces_16 : decode cL_fewestPieces 16 = .ok (.ireturn, 1) := by decide +kernel
theorem dL_sell_0 : decode cL_sell 0 = .ok (.aload_n 2, 1) := by decide +kernel
theorem dL_sell_1 : decode cL_sell 1 = .ok (.iconst 0, 1) := by decide +kernel
theorem dL_sell_2 : decode cL_sell 2 = .ok (.aload_n 0, 1) := by decide +kernel
theorem dL_sell_3 : decode cL_sell 3 = .ok (.iload_n 1, 1) := by decide +kernel
theorem dL_sell_4 : decode cL_sell 4 = .ok (.invokevirtual 88, 3) := by decide +kernel
theorem dL_sell_7 : decode cL_sell 7 = .ok (.i2l, 1) := by decide +kernel
theorem dL_sell_8 : decode cL_sell 8 = .ok (.lastore, 1) := by decide +kernel
theorem dL_sell_9 : decode cL_sell 9 = .ok (.goto 9, 3) := by decide +kernel
theorem dL_sell_12 : decode cL_sell 12 = .ok (.astore_n 3, 1) := by decide +kernel
theorem dL_sell_13 : decode cL_sell 13 = .ok (.iconst 1, 1) := by decide +kernel
theorem dL_sell_14 : decode cL_sell 14 = .ok (.ireturn, 1) := by decide +kernel
theorem dL_sell_15 : decode cL_sell 15 = .ok (.astore_n 3, 1) := by decide +kernel
theorem dL_sell_16 : decode cL_sell 16 = .ok (.iconst 2, 1) := by decide +kernel
theorem dL_sell_17 : decode cL_sell 17 = .ok (.ireturn, 1) := by decide +kernel
theorem dL_sell_18 : decode cL_sell 18 = .ok (.iconst 0, 1) := by decide +kernel
theorem dL_sell_19 : decode cL_sell 19 = .ok (.ireturn, 1) := by decide +kernel
theorem dL_meanHardness_0 : decode cL_meanHardness 0 = .ok (.aload_n 1, 1) := by decide +kernel
theorem dL_meanHardness_1 : decode cL_meanHardness 1 = .ok (.iconst 0, 1) := by decide +kernel
theorem dL_meanHardness_2 : decode cL_meanHardness 2 = .ok (.aload_n 0, 1) := by decide +kernel
theorem dL_meanHardness_3 : decode cL_meanHardness 3 = .ok (.invokevirtual 91, 3) := by decide +kernel
theorem dL_meanHardness_6 : decode cL_meanHardness 6 = .ok (.dastore, 1) := by decide +kernel
theorem dL_meanHardness_7 : decode cL_meanHardness 7 = .ok (.goto 6, 3) := by decide +kernel
theorem dL_meanHardness_10 : decode cL_meanHardness 10 = .ok (.astore_n 2, 1) := by decide +kernel
theorem dL_meanHardness_11 : decode cL_meanHardness 11 = .ok (.iconst 1, 1) := by decide +kernel
theorem dL_meanHardness_12 : decode cL_meanHardness 12 = .ok (.ireturn, 1) := by decide +kernel
theorem dL_meanHardness_13 : decode cL_meanHardness 13 = .ok (.iconst 0, 1) := by decide +kernel
theorem dL_meanHardness_14 : decode cL_meanHardness 14 = .ok (.ireturn, 1) := by decide +kernel
theorem dL_writeRow_0 : decode cL_writeRow 0 = .ok (.aload_n 2, 1) := by decide +kernel
theorem dL_writeRow_1 : decode cL_writeRow 1 = .ok (.iconst 0, 1) := by decide +kernel
theorem dL_writeRow_2 : decode cL_writeRow 2 = .ok (.aload_n 0, 1) := by decide +kernel
theorem dL_writeRow_3 : decode cL_writeRow 3 = .ok (.iload_n 1, 1) := by decide +kernel
theorem dL_writeRow_4 : decode cL_writeRow 4 = .ok (.invokevirtual 97, 3) := by decide +kernel
theorem dL_writeRow_7 : decode cL_writeRow 7 = .ok (.i2l, 1) := by decide +kernel
theorem dL_writeRow_8 : decode cL_writeRow 8 = .ok (.lastore, 1) := by decide +kernel
theorem dL_writeRow_9 : decode cL_writeRow 9 = .ok (.goto 6, 3) := by decide +kernel
theorem dL_writeRow_12 : decode cL_writeRow 12 = .ok (.astore_n 3, 1) := by decide +kernel
theorem dL_writeRow_13 : decode cL_writeRow 13 = .ok (.iconst 1, 1) := by decide +kernel
theorem dL_writeRow_14 : decode cL_writeRow 14 = .ok (.ireturn, 1) := by decide +kernel
theorem dL_writeRow_15 : decode cL_writeRow 15 = .ok (.iconst 0, 1) := by decide +kernel
theorem dL_writeRow_16 : decode cL_writeRow 16 = .ok (.ireturn, 1) := by decide +kernel
theorem dL_writeCharge_0 : decode cL_writeCharge 0 = .ok (.aload_n 2, 1) := by decide +kernel
theorem dL_writeCharge_1 : decode cL_writeCharge 1 = .ok (.iconst 0, 1) := by decide +kernel
theorem dL_writeCharge_2 : decode cL_writeCharge 2 = .ok (.aload_n 0, 1) := by decide +kernel
theorem dL_writeCharge_3 : decode cL_writeCharge 3 = .ok (.iload_n 1, 1) := by decide +kernel
theorem dL_writeCharge_4 : decode cL_writeCharge 4 = .ok (.invokevirtual 100, 3) := by decide +kernel
theorem dL_writeCharge_7 : decode cL_writeCharge 7 = .ok (.i2l, 1) := by decide +kernel
theorem dL_writeCharge_8 : decode cL_writeCharge 8 = .ok (.lastore, 1) := by decide +kernel
theorem dL_writeCharge_9 : decode cL_writeCharge 9 = .ok (.goto 6, 3) := by decide +kernel
theorem dL_writeCharge_12 : decode cL_writeCharge 12 = .ok (.astore_n 3, 1) := by decide +kernel
theorem dL_writeCharge_13 : decode cL_writeCharge 13 = .ok (.iconst 1, 1) := by decide +kernel
theorem dL_writeCharge_14 : decode cL_writeCharge 14 = .ok (.ireturn, 1) := by decide +kernel
theorem dL_writeCharge_15 : decode cL_writeCharge 15 = .ok (.iconst 0, 1) := by decide +kernel
theorem dL_writeCharge_16 : decode cL_writeCharge 16 = .ok (.ireturn, 1) := by decide +kernel
theorem dL_lineAt_0 : decode cL_lineAt 0 = .ok (.aload_n 2, 1) := by decide +kernel
theorem dL_lineAt_1 : decode cL_lineAt 1 = .ok (.iconst 0, 1) := by decide +kernel
theorem dL_lineAt_2 : decode cL_lineAt 2 = .ok (.aload_n 0, 1) := by decide +kernel
theorem dL_lineAt_3 : decode cL_lineAt 3 = .ok (.iload_n 1, 1) := by decide +kernel
theorem dL_lineAt_4 : decode cL_lineAt 4 = .ok (.invokevirtual 103, 3) := by decide +kernel
theorem dL_lineAt_7 : decode cL_lineAt 7 = .ok (.i2l, 1) := by decide +kernel
theorem dL_lineAt_8 : decode cL_lineAt 8 = .ok (.lastore, 1) := by decide +kernel
theorem dL_lineAt_9 : decode cL_lineAt 9 = .ok (.goto 6, 3) := by decide +kernel
theorem dL_lineAt_12 : decode cL_lineAt 12 = .ok (.astore_n 3, 1) := by decide +kernel
theorem dL_lineAt_13 : decode cL_lineAt 13 = .ok (.iconst 1, 1) := by decide +kernel
theorem dL_lineAt_14 : decode cL_lineAt 14 = .ok (.ireturn, 1) := by decide +kernel
theorem dL_lineAt_15 : decode cL_lineAt 15 = .ok (.iconst 0, 1) := by decide +kernel
theorem dL_lineAt_16 : decode cL_lineAt 16 = .ok (.ireturn, 1) := by decide +kernel
theorem dL_type_0 : decode cL_type 0 = .ok (.aload_n 2, 1) := by decide +kernel
theorem dL_type_1 : decode cL_type 1 = .ok (.iconst 0, 1) := by decide +kernel
theorem dL_type_2 : decode cL_type 2 = .ok (.aload_n 0, 1) := by decide +kernel
theorem dL_type_3 : decode cL_type 3 = .ok (.iload_n 1, 1) := by decide +kernel
theorem dL_type_4 : decode cL_type 4 = .ok (.invokevirtual 107, 3) := by decide +kernel
theorem dL_type_7 : decode cL_type 7 = .ok (.i2l, 1) := by decide +kernel
theorem dL_type_8 : decode cL_type 8 = .ok (.lastore, 1) := by decide +kernel
theorem dL_type_9 : decode cL_type 9 = .ok (.goto 9, 3) := by decide +kernel
theorem dL_type_12 : decode cL_type 12 = .ok (.astore_n 3, 1) := by decide +kernel
theorem dL_type_13 : decode cL_type 13 = .ok (.iconst 1, 1) := by decide +kernel
theorem dL_type_14 : decode cL_type 14 = .ok (.ireturn, 1) := by decide +kernel
theorem dL_type_15 : decode cL_type 15 = .ok (.astore_n 3, 1) := by decide +kernel
theorem dL_type_16 : decode cL_type 16 = .ok (.iconst 2, 1) := by decide +kernel
theorem dL_type_17 : decode cL_type 17 = .ok (.ireturn, 1) := by decide +kernel
theorem dL_type_18 : decode cL_type 18 = .ok (.iconst 0, 1) := by decide +kernel
theorem dL_type_19 : decode cL_type 19 = .ok (.ireturn, 1) := by decide +kernel
theorem dL_execute_0 : decode cL_execute 0 = .ok (.aload_n 1, 1) := by decide +kernel
theorem dL_execute_1 : decode cL_execute 1 = .ok (.iconst 0, 1) := by decide +kernel
theorem dL_execute_2 : decode cL_execute 2 = .ok (.aload_n 0, 1) := by decide +kernel
theorem dL_execute_3 : decode cL_execute 3 = .ok (.invokevirtual 111, 3) := by decide +kernel
theorem dL_execute_6 : decode cL_execute 6 = .ok (.i2l, 1) := by decide +kernel
theorem dL_execute_7 : decode cL_execute 7 = .ok (.lastore, 1) := by decide +kernel
theorem dL_execute_8 : decode cL_execute 8 = .ok (.goto 9, 3) := by decide +kernel
theorem dL_execute_11 : decode cL_execute 11 = .ok (.astore_n 2, 1) := by decide +kernel
theorem dL_execute_12 : decode cL_execute 12 = .ok (.iconst 1, 1) := by decide +kernel
theorem dL_execute_13 : decode cL_execute 13 = .ok (.ireturn, 1) := by decide +kernel
theorem dL_execute_14 : decode cL_execute 14 = .ok (.astore_n 2, 1) := by decide +kernel
theorem dL_execute_15 : decode cL_execute 15 = .ok (.iconst 2, 1) := by decide +kernel
theorem dL_execute_16 : decode cL_execute 16 = .ok (.ireturn, 1) := by decide +kernel
theorem dL_execute_17 : decode cL_execute 17 = .ok (.iconst 0, 1) := by decide +kernel
theorem dL_execute_18 : decode cL_execute 18 = .ok (.ireturn, 1) := by decide +kernel
theorem dL_errorPosition_0 : decode cL_errorPosition 0 = .ok (.aload_n 1, 1) := by decide +kernel
theorem dL_errorPosition_1 : decode cL_errorPosition 1 = .ok (.iconst 0, 1) := by decide +kernel
theorem dL_errorPosition_2 : decode cL_errorPosition 2 = .ok (.aload_n 0, 1) := by decide +kernel
theorem dL_errorPosition_3 : decode cL_errorPosition 3 = .ok (.invokevirtual 114, 3) := by decide +kernel
theorem dL_errorPosition_6 : decode cL_errorPosition 6 = .ok (.i2l, 1) := by decide +kernel
theorem dL_errorPosition_7 : decode cL_errorPosition 7 = .ok (.lastore, 1) := by decide +kernel
theorem dL_errorPosition_8 : decode cL_errorPosition 8 = .ok (.goto 6, 3) := by decide +kernel
theorem dL_errorPosition_11 : decode cL_errorPosition 11 = .ok (.astore_n 2, 1) := by decide +kernel
theorem dL_errorPosition_12 : decode cL_errorPosition 12 = .ok (.iconst 1, 1) := by decide +kernel
theorem dL_errorPosition_13 : decode cL_errorPosition 13 = .ok (.ireturn, 1) := by decide +kernel
theorem dL_errorPosition_14 : decode cL_errorPosition 14 = .ok (.iconst 0, 1) := by decide +kernel
theorem dL_errorPosition_15 : decode cL_errorPosition 15 = .ok (.ireturn, 1) := by decide +kernel
theorem dL_failedCommand_0 : decode cL_failedCommand 0 = .ok (.aload_n 1, 1) := by decide +kernel
theorem dL_failedCommand_1 : decode cL_failedCommand 1 = .ok (.iconst 0, 1) := by decide +kernel
theorem dL_failedCommand_2 : decode cL_failedCommand 2 = .ok (.aload_n 0, 1) := by decide +kernel
theorem dL_failedCommand_3 : decode cL_failedCommand 3 = .ok (.invokevirtual 117, 3) := by decide +kernel
theorem dL_failedCommand_6 : decode cL_failedCommand 6 = .ok (.i2l, 1) := by decide +kernel
theorem dL_failedCommand_7 : decode cL_failedCommand 7 = .ok (.lastore, 1) := by decide +kernel
theorem dL_failedCommand_8 : decode cL_failedCommand 8 = .ok (.goto 6, 3) := by decide +kernel
theorem dL_failedCommand_11 : decode cL_failedCommand 11 = .ok (.astore_n 2, 1) := by decide +kernel
theorem dL_failedCommand_12 : decode cL_failedCommand 12 = .ok (.iconst 1, 1) := by decide +kernel
theorem dL_failedCommand_13 : decode cL_failedCommand 13 = .ok (.ireturn, 1) := by decide +kernel
theorem dL_failedCommand_14 : decode cL_failedCommand 14 = .ok (.iconst 0, 1) := by decide +kernel
theorem dL_failedCommand_15 : decode cL_failedCommand 15 = .ok (.ireturn, 1) := by decide +kernel
theorem dL_undo_0 : decode cL_undo 0 = .ok (.aload_n 1, 1) := by decide +kernel
theorem dL_undo_1 : decode cL_undo 1 = .ok (.iconst 0, 1) := by decide +kernel
theorem dL_undo_2 : decode cL_undo 2 = .ok (.aload_n 0, 1) := by decide +kernel
theorem dL_undo_3 : decode cL_undo 3 = .ok (.invokevirtual 120, 3) := by decide +kernel
theorem dL_undo_6 : decode cL_undo 6 = .ok (.i2l, 1) := by decide +kernel
theorem dL_undo_7 : decode cL_undo 7 = .ok (.lastore, 1) := by decide +kernel
theorem dL_undo_8 : decode cL_undo 8 = .ok (.goto 6, 3) := by decide +kernel
theorem dL_undo_11 : decode cL_undo 11 = .ok (.astore_n 2, 1) := by decide +kernel
theorem dL_undo_12 : decode cL_undo 12 = .ok (.iconst 1, 1) := by decide +kernel
theorem dL_undo_13 : decode cL_undo 13 = .ok (.ireturn, 1) := by decide +kernel
theorem dL_undo_14 : decode cL_undo 14 = .ok (.iconst 0, 1) := by decide +kernel
theorem dL_undo_15 : decode cL_undo 15 = .ok (.ireturn, 1) := by decide +kernel
theorem dL_restore_0 : decode cL_restore 0 = .ok (.aload_n 1, 1) := by decide +kernel
theorem dL_restore_1 : decode cL_restore 1 = .ok (.iconst 0, 1) := by decide +kernel
theorem dL_restore_2 : decode cL_restore 2 = .ok (.aload_n 0, 1) := by decide +kernel
theorem dL_restore_3 : decode cL_restore 3 = .ok (.invokevirtual 123, 3) := by decide +kernel
theorem dL_restore_6 : decode cL_restore 6 = .ok (.i2l, 1) := by decide +kernel
theorem dL_restore_7 : decode cL_restore 7 = .ok (.lastore, 1) := by decide +kernel
theorem dL_restore_8 : decode cL_restore 8 = .ok (.goto 6, 3) := by decide +kernel
theorem dL_restore_11 : decode cL_restore 11 = .ok (.astore_n 2, 1) := by decide +kernel
theorem dL_restore_12 : decode cL_restore 12 = .ok (.iconst 1, 1) := by decide +kernel
theorem dL_restore_13 : decode cL_restore 13 = .ok (.ireturn, 1) := by decide +kernel
theorem dL_restore_14 : decode cL_restore 14 = .ok (.iconst 0, 1) := by decide +kernel
theorem dL_restore_15 : decode cL_restore 15 = .ok (.ireturn, 1) := by decide +kernel
