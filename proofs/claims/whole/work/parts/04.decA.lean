theorem dX1_init_0 : decode cX1_init 0 = .ok (.aload_n 0, 1) := by decide +kernel
theorem dX1_init_1 : decode cX1_init 1 = .ok (.invokespecial 3, 3) := by decide +kernel
theorem dX1_init_4 : decode cX1_init 4 = .ok (.aload_n 0, 1) := by decide +kernel
theorem dX1_init_5 : decode cX1_init 5 = .ok (.bipush 6, 2) := by decide +kernel
theorem dX1_init_7 : decode cX1_init 7 = .ok (.newarray .boolean, 2) := by decide +kernel
theorem dX1_init_9 : decode cX1_init 9 = .ok (.putfield 9, 3) := by decide +kernel
theorem dX1_init_12 : decode cX1_init 12 = .ok (.aload_n 0, 1) := by decide +kernel
theorem dX1_init_13 : decode cX1_init 13 = .ok (.bipush 36, 2) := by decide +kernel
theorem dX1_init_15 : decode cX1_init 15 = .ok (.newarray .boolean, 2) := by decide +kernel
theorem dX1_init_17 : decode cX1_init 17 = .ok (.putfield 15, 3) := by decide +kernel
theorem dX1_init_20 : decode cX1_init 20 = .ok (.aload_n 0, 1) := by decide +kernel
theorem dX1_init_21 : decode cX1_init 21 = .ok (.bipush 6, 2) := by decide +kernel
theorem dX1_init_23 : decode cX1_init 23 = .ok (.newarray .int, 2) := by decide +kernel
theorem dX1_init_25 : decode cX1_init 25 = .ok (.putfield 18, 3) := by decide +kernel
theorem dX1_init_28 : decode cX1_init 28 = .ok (.return_, 1) := by decide +kernel
theorem dX1_run_0 : decode cX1_run 0 = .ok (.aload_n 0, 1) := by decide +kernel
theorem dX1_run_1 : decode cX1_run 1 = .ok (.invokevirtual 22, 3) := by decide +kernel
theorem dX1_run_4 : decode cX1_run 4 = .ok (.aload_n 0, 1) := by decide +kernel
theorem dX1_run_5 : decode cX1_run 5 = .ok (.iload_n 2, 1) := by decide +kernel
theorem dX1_run_6 : decode cX1_run 6 = .ok (.invokevirtual 25, 3) := by decide +kernel
theorem dX1_run_9 : decode cX1_run 9 = .ok (.iconst 0, 1) := by decide +kernel
theorem dX1_run_10 : decode cX1_run 10 = .ok (.istore_n 3, 1) := by decide +kernel
theorem dX1_run_11 : decode cX1_run 11 = .ok (.iload_n 3, 1) := by decide +kernel
theorem dX1_run_12 : decode cX1_run 12 = .ok (.bipush 6, 2) := by decide +kernel
theorem dX1_run_14 : decode cX1_run 14 = .ok (.if_icmp .ge 36, 3) := by decide +kernel
theorem dX1_run_17 : decode cX1_run 17 = .ok (.iload_n 3, 1) := by decide +kernel
theorem dX1_run_18 : decode cX1_run 18 = .ok (.aload_n 0, 1) := by decide +kernel
theorem dX1_run_19 : decode cX1_run 19 = .ok (.getfield 29, 3) := by decide +kernel
theorem dX1_run_22 : decode cX1_run 22 = .ok (.if_icmp .lt 6, 3) := by decide +kernel
theorem dX1_run_25 : decode cX1_run 25 = .ok (.goto 25, 3) := by decide +kernel
theorem dX1_run_28 : decode cX1_run 28 = .ok (.aload_n 0, 1) := by decide +kernel
theorem dX1_run_29 : decode cX1_run 29 = .ok (.aload_n 1, 1) := by decide +kernel
theorem dX1_run_30 : decode cX1_run 30 = .ok (.aload_n 0, 1) := by decide +kernel
theorem dX1_run_31 : decode cX1_run 31 = .ok (.getfield 18, 3) := by decide +kernel
theorem dX1_run_34 : decode cX1_run 34 = .ok (.iload_n 3, 1) := by decide +kernel
theorem dX1_run_35 : decode cX1_run 35 = .ok (.iaload, 1) := by decide +kernel
theorem dX1_run_36 : decode cX1_run 36 = .ok (.invokevirtual 33, 3) := by decide +kernel
theorem dX1_run_39 : decode cX1_run 39 = .ok (.aload_n 0, 1) := by decide +kernel
theorem dX1_run_40 : decode cX1_run 40 = .ok (.aload_n 1, 1) := by decide +kernel
theorem dX1_run_41 : decode cX1_run 41 = .ok (.invokevirtual 37, 3) := by decide +kernel
theorem dX1_run_44 : decode cX1_run 44 = .ok (.iinc 3 1, 3) := by decide +kernel
theorem dX1_run_47 : decode cX1_run 47 = .ok (.goto (-36), 3) := by decide +kernel
theorem dX1_run_50 : decode cX1_run 50 = .ok (.return_, 1) := by decide +kernel
theorem dX1_countByRounds_0 : decode cX1_countByRounds 0 = .ok (.aload_n 0, 1) := by decide +kernel
theorem dX1_countByRounds_1 : decode cX1_countByRounds 1 = .ok (.invokevirtual 22, 3) := by decide +kernel
theorem dX1_countByRounds_4 : decode cX1_countByRounds 4 = .ok (.aload_n 0, 1) := by decide +kernel
theorem dX1_countByRounds_5 : decode cX1_countByRounds 5 = .ok (.iload_n 2, 1) := by decide +kernel
theorem dX1_countByRounds_6 : decode cX1_countByRounds 6 = .ok (.invokevirtual 25, 3) := by decide +kernel
theorem dX1_countByRounds_9 : decode cX1_countByRounds 9 = .ok (.iconst 1, 1) := by decide +kernel
theorem dX1_countByRounds_10 : decode cX1_countByRounds 10 = .ok (.istore_n 3, 1) := by decide +kernel
theorem dX1_countByRounds_11 : decode cX1_countByRounds 11 = .ok (.iconst 0, 1) := by decide +kernel
theorem dX1_countByRounds_12 : decode cX1_countByRounds 12 = .ok (.istore 4, 2) := by decide +kernel
theorem dX1_countByRounds_14 : decode cX1_countByRounds 14 = .ok (.iload 4, 2) := by decide +kernel
theorem dX1_countByRounds_16 : decode cX1_countByRounds 16 = .ok (.bipush 6, 2) := by decide +kernel
theorem dX1_countByRounds_18 : decode cX1_countByRounds 18 = .ok (.if_icmp .ge 19, 3) := by decide +kernel
theorem dX1_countByRounds_21 : decode cX1_countByRounds 21 = .ok (.iload_n 3, 1) := by decide +kernel
theorem dX1_countByRounds_22 : decode cX1_countByRounds 22 = .ok (.ifCond .eq 15, 3) := by decide +kernel
theorem dX1_countByRounds_25 : decode cX1_countByRounds 25 = .ok (.aload_n 0, 1) := by decide +kernel
theorem dX1_countByRounds_26 : decode cX1_countByRounds 26 = .ok (.aload_n 1, 1) := by decide +kernel
theorem dX1_countByRounds_27 : decode cX1_countByRounds 27 = .ok (.invokevirtual 41, 3) := by decide +kernel
theorem dX1_countByRounds_30 : decode cX1_countByRounds 30 = .ok (.istore_n 3, 1) := by decide +kernel
theorem dX1_countByRounds_31 : decode cX1_countByRounds 31 = .ok (.iinc 4 1, 3) := by decide +kernel
theorem dX1_countByRounds_34 : decode cX1_countByRounds 34 = .ok (.goto (-20), 3) := by decide +kernel
theorem dX1_countByRounds_37 : decode cX1_countByRounds 37 = .ok (.aload_n 0, 1) := by decide +kernel
theorem dX1_countByRounds_38 : decode cX1_countByRounds 38 = .ok (.getfield 29, 3) := by decide +kernel
theorem dX1_countByRounds_41 : decode cX1_countByRounds 41 = .ok (.ireturn, 1) := by decide +kernel
theorem dX1_explodes_0 : decode cX1_explodes 0 = .ok (.iload_n 1, 1) := by decide +kernel
theorem dX1_explodes_1 : decode cX1_explodes 1 = .ok (.iconst 0, 1) := by decide +kernel
theorem dX1_explodes_2 : decode cX1_explodes 2 = .ok (.iconst 5, 1) := by decide +kernel
theorem dX1_explodes_3 : decode cX1_explodes 3 = .ok (.invokestatic 45, 3) := by decide +kernel
theorem dX1_explodes_6 : decode cX1_explodes 6 = .ok (.ifCond .eq 16, 3) := by decide +kernel
theorem dX1_explodes_9 : decode cX1_explodes 9 = .ok (.aload_n 0, 1) := by decide +kernel
theorem dX1_explodes_10 : decode cX1_explodes 10 = .ok (.getfield 9, 3) := by decide +kernel
theorem dX1_explodes_13 : decode cX1_explodes 13 = .ok (.iload_n 1, 1) := by decide +kernel
theorem dX1_explodes_14 : decode cX1_explodes 14 = .ok (.baload, 1) := by decide +kernel
theorem dX1_explodes_15 : decode cX1_explodes 15 = .ok (.ifCond .eq 7, 3) := by decide +kernel
theorem dX1_explodes_18 : decode cX1_explodes 18 = .ok (.iconst 1, 1) := by decide +kernel
theorem dX1_explodes_19 : decode cX1_explodes 19 = .ok (.goto 4, 3) := by decide +kernel
theorem dX1_explodes_22 : decode cX1_explodes 22 = .ok (.iconst 0, 1) := by decide +kernel
theorem dX1_explodes_23 : decode cX1_explodes 23 = .ok (.ireturn, 1) := by decide +kernel
theorem dX1_opens_0 : decode cX1_opens 0 = .ok (.iload_n 1, 1) := by decide +kernel
theorem dX1_opens_1 : decode cX1_opens 1 = .ok (.invokestatic 49, 3) := by decide +kernel
theorem dX1_opens_4 : decode cX1_opens 4 = .ok (.ifCond .eq 16, 3) := by decide +kernel
theorem dX1_opens_7 : decode cX1_opens 7 = .ok (.aload_n 0, 1) := by decide +kernel
theorem dX1_opens_8 : decode cX1_opens 8 = .ok (.getfield 15, 3) := by decide +kernel
theorem dX1_opens_11 : decode cX1_opens 11 = .ok (.iload_n 1, 1) := by decide +kernel
theorem dX1_opens_12 : decode cX1_opens 12 = .ok (.baload, 1) := by decide +kernel
theorem dX1_opens_13 : decode cX1_opens 13 = .ok (.ifCond .eq 7, 3) := by decide +kernel
theorem dX1_opens_16 : decode cX1_opens 16 = .ok (.iconst 1, 1) := by decide +kernel
theorem dX1_opens_17 : decode cX1_opens 17 = .ok (.goto 4, 3) := by decide +kernel
theorem dX1_opens_20 : decode cX1_opens 20 = .ok (.iconst 0, 1) := by decide +kernel
theorem dX1_opens_21 : decode cX1_opens 21 = .ok (.ireturn, 1) := by decide +kernel
theorem dX1_reset_0 : decode cX1_reset 0 = .ok (.aload_n 0, 1) := by decide +kernel
theorem dX1_reset_1 : decode cX1_reset 1 = .ok (.getfield 9, 3) := by decide +kernel
theorem dX1_reset_4 : decode cX1_reset 4 = .ok (.invokestatic 53, 3) := by decide +kernel
theorem dX1_reset_7 : decode cX1_reset 7 = .ok (.aload_n 0, 1) := by decide +kernel
theorem dX1_reset_8 : decode cX1_reset 8 = .ok (.getfield 15, 3) := by decide +kernel
theorem dX1_reset_11 : decode cX1_reset 11 = .ok (.invokestatic 53, 3) := by decide +kernel
theorem dX1_reset_14 : decode cX1_reset 14 = .ok (.aload_n 0, 1) := by decide +kernel
theorem dX1_reset_15 : decode cX1_reset 15 = .ok (.iconst 0, 1) := by decide +kernel
theorem dX1_reset_16 : decode cX1_reset 16 = .ok (.putfield 29, 3) := by decide +kernel
theorem dX1_reset_19 : decode cX1_reset 19 = .ok (.aload_n 0, 1) := by decide +kernel
theorem dX1_reset_20 : decode cX1_reset 20 = .ok (.iconst 0, 1) := by decide +kernel
theorem dX1_reset_21 : decode cX1_reset 21 = .ok (.putfield 57, 3) := by decide +kernel
theorem dX1_reset_24 : decode cX1_reset 24 = .ok (.return_, 1) := by decide +kernel
theorem dX1_setOff_0 : decode cX1_setOff 0 = .ok (.iload_n 1, 1) := by decide +kernel
theorem dX1_setOff_1 : decode cX1_setOff 1 = .ok (.iconst 0, 1) := by decide +kernel
theorem dX1_setOff_2 : decode cX1_setOff 2 = .ok (.iconst 5, 1) := by decide +kernel
theorem dX1_setOff_3 : decode cX1_setOff 3 = .ok (.invokestatic 45, 3) := by decide +kernel
theorem dX1_setOff_6 : decode cX1_setOff 6 = .ok (.ifCond .eq 51, 3) := by decide +kernel
theorem dX1_setOff_9 : decode cX1_setOff 9 = .ok (.aload_n 0, 1) := by decide +kernel
theorem dX1_setOff_10 : decode cX1_setOff 10 = .ok (.getfield 9, 3) := by decide +kernel
theorem dX1_setOff_13 : decode cX1_setOff 13 = .ok (.iload_n 1, 1) := by decide +kernel
theorem dX1_setOff_14 : decode cX1_setOff 14 = .ok (.baload, 1) := by decide +kernel
theorem dX1_setOff_15 : decode cX1_setOff 15 = .ok (.ifCond .ne 42, 3) := by decide +kernel
theorem dX1_setOff_18 : decode cX1_setOff 18 = .ok (.aload_n 0, 1) := by decide +kernel
theorem dX1_setOff_19 : decode cX1_setOff 19 = .ok (.getfield 29, 3) := by decide +kernel
theorem dX1_setOff_22 : decode cX1_setOff 22 = .ok (.iconst 0, 1) := by decide +kernel
theorem dX1_setOff_23 : decode cX1_setOff 23 = .ok (.iconst 5, 1) := by decide +kernel
theorem dX1_setOff_24 : decode cX1_setOff 24 = .ok (.invokestatic 45, 3) := by decide +kernel
theorem dX1_setOff_27 : decode cX1_setOff 27 = .ok (.ifCond .eq 30, 3) := by decide +kernel
theorem dX1_setOff_30 : decode cX1_setOff 30 = .ok (.aload_n 0, 1) := by decide +kernel
theorem dX1_setOff_31 : decode cX1_setOff 31 = .ok (.getfield 9, 3) := by decide +kernel
theorem dX1_setOff_34 : decode cX1_setOff 34 = .ok (.iload_n 1, 1) := by decide +kernel
theorem dX1_setOff_35 : decode cX1_setOff 35 = .ok (.iconst 1, 1) := by decide +kernel
theorem dX1_setOff_36 : decode cX1_setOff 36 = .ok (.bastore, 1) := by decide +kernel
theorem dX1_setOff_37 : decode cX1_setOff 37 = .ok (.aload_n 0, 1) := by decide +kernel
theorem dX1_setOff_38 : decode cX1_setOff 38 = .ok (.getfield 18, 3) := by decide +kernel
theorem dX1_setOff_41 : decode cX1_setOff 41 = .ok (.aload_n 0, 1) := by decide +kernel
theorem dX1_setOff_42 : decode cX1_setOff 42 = .ok (.getfield 29, 3) := by decide +kernel
theorem dX1_setOff_45 : decode cX1_setOff 45 = .ok (.iload_n 1, 1) := by decide +kernel
theorem dX1_setOff_46 : decode cX1_setOff 46 = .ok (.iastore, 1) := by decide +kernel
theorem dX1_setOff_47 : decode cX1_setOff 47 = .ok (.aload_n 0, 1) := by decide +kernel
theorem dX1_setOff_48 : decode cX1_setOff 48 = .ok (.dup, 1) := by decide +kernel
theorem dX1_setOff_49 : decode cX1_setOff 49 = .ok (.getfield 29, 3) := by decide +kernel
theorem dX1_setOff_52 : decode cX1_setOff 52 = .ok (.iconst 1, 1) := by decide +kernel
theorem dX1_setOff_53 : decode cX1_setOff 53 = .ok (.iadd, 1) := by decide +kernel
theorem dX1_setOff_54 : decode cX1_setOff 54 = .ok (.putfield 29, 3) := by decide +kernel
theorem dX1_setOff_57 : decode cX1_setOff 57 = .ok (.return_, 1) := by decide +kernel
theorem dX1_openAround_0 : decode cX1_openAround 0 = .ok (.aload_n 1, 1) := by decide +kernel
theorem dX1_openAround_1 : decode cX1_openAround 1 = .ok (.iload_n 2, 1) := by decide +kernel
theorem dX1_openAround_2 : decode cX1_openAround 2 = .ok (.invokevirtual 60, 3) := by decide +kernel
theorem dX1_openAround_5 : decode cX1_openAround 5 = .ok (.istore_n 3, 1) := by decide +kernel
theorem dX1_openAround_6 : decode cX1_openAround 6 = .ok (.aload_n 1, 1) := by decide +kernel
theorem dX1_openAround_7 : decode cX1_openAround 7 = .ok (.iload_n 2, 1) := by decide +kernel
theorem dX1_openAround_8 : decode cX1_openAround 8 = .ok (.invokevirtual 66, 3) := by decide +kernel
theorem dX1_openAround_11 : decode cX1_openAround 11 = .ok (.istore 4, 2) := by decide +kernel
theorem dX1_openAround_13 : decode cX1_openAround 13 = .ok (.iconst 0, 1) := by decide +kernel
theorem dX1_openAround_14 : decode cX1_openAround 14 = .ok (.istore 5, 2) := by decide +kernel
theorem dX1_openAround_16 : decode cX1_openAround 16 = .ok (.iload 5, 2) := by decide +kernel
theorem dX1_openAround_18 : decode cX1_openAround 18 = .ok (.bipush 36, 2) := by decide +kernel
theorem dX1_openAround_20 : decode cX1_openAround 20 = .ok (.if_icmp .ge 55, 3) := by decide +kernel
theorem dX1_openAround_23 : decode cX1_openAround 23 = .ok (.aload_n 0, 1) := by decide +kernel
theorem dX1_openAround_24 : decode cX1_openAround 24 = .ok (.getfield 15, 3) := by decide +kernel
theorem dX1_openAround_27 : decode cX1_openAround 27 = .ok (.iload 5, 2) := by decide +kernel
theorem dX1_openAround_29 : decode cX1_openAround 29 = .ok (.baload, 1) := by decide +kernel
theorem dX1_openAround_30 : decode cX1_openAround 30 = .ok (.ifCond .ne 39, 3) := by decide +kernel
theorem dX1_openAround_33 : decode cX1_openAround 33 = .ok (.aload_n 1, 1) := by decide +kernel
theorem dX1_openAround_34 : decode cX1_openAround 34 = .ok (.iload 5, 2) := by decide +kernel
theorem dX1_openAround_36 : decode cX1_openAround 36 = .ok (.iload 4, 2) := by decide +kernel
theorem dX1_openAround_38 : decode cX1_openAround 38 = .ok (.iload 5, 2) := by decide +kernel
theorem dX1_openAround_40 : decode cX1_openAround 40 = .ok (.iload_n 3, 1) := by decide +kernel
theorem dX1_openAround_41 : decode cX1_openAround 41 = .ok (.invokestatic 69, 3) := by decide +kernel
theorem dX1_openAround_44 : decode cX1_openAround 44 = .ok (.isub, 1) := by decide +kernel
theorem dX1_openAround_45 : decode cX1_openAround 45 = .ok (.invokevirtual 73, 3) := by decide +kernel
theorem dX1_openAround_48 : decode cX1_openAround 48 = .ok (.ifCond .eq 21, 3) := by decide +kernel
theorem dX1_openAround_51 : decode cX1_openAround 51 = .ok (.aload_n 0, 1) := by decide +kernel
theorem dX1_openAround_52 : decode cX1_openAround 52 = .ok (.getfield 15, 3) := by decide +kernel
theorem dX1_openAround_55 : decode cX1_openAround 55 = .ok (.iload 5, 2) := by decide +kernel
theorem dX1_openAround_57 : decode cX1_openAround 57 = .ok (.iconst 1, 1) := by decide +kernel
theorem dX1_openAround_58 : decode cX1_openAround 58 = .ok (.bastore, 1) := by decide +kernel
theorem dX1_openAround_59 : decode cX1_openAround 59 = .ok (.aload_n 0, 1) := by decide +kernel
theorem dX1_openAround_60 : decode cX1_openAround 60 = .ok (.dup, 1) := by decide +kernel
theorem dX1_openAround_61 : decode cX1_openAround 61 = .ok (.getfield 57, 3) := by decide +kernel
theorem dX1_openAround_64 : decode cX1_openAround 64 = .ok (.iconst 1, 1) := by decide +kernel
theorem dX1_openAround_65 : decode cX1_openAround 65 = .ok (.iadd, 1) := by decide +kernel
theorem dX1_openAround_66 : decode cX1_openAround 66 = .ok (.putfield 57, 3) := by decide +kernel
theorem dX1_openAround_69 : decode cX1_openAround 69 = .ok (.iinc 5 1, 3) := by decide +kernel
theorem dX1_openAround_72 : decode cX1_openAround 72 = .ok (.goto (-56), 3) := by decide +kernel
theorem dX1_openAround_75 : decode cX1_openAround 75 = .ok (.return_, 1) := by decide +kernel
theorem dX1_setOffOpened_0 : decode cX1_setOffOpened 0 = .ok (.iconst 0, 1) := by decide +kernel
theorem dX1_setOffOpened_1 : decode cX1_setOffOpened 1 = .ok (.istore_n 2, 1) := by decide +kernel
theorem dX1_setOffOpened_2 : decode cX1_setOffOpened 2 = .ok (.iload_n 2, 1) := by decide +kernel
theorem dX1_setOffOpened_3 : decode cX1_setOffOpened 3 = .ok (.aload_n 1, 1) := by decide +kernel
theorem dX1_setOffOpened_4 : decode cX1_setOffOpened 4 = .ok (.getfield 77, 3) := by decide +kernel
theorem dX1_setOffOpened_7 : decode cX1_setOffOpened 7 = .ok (.if_icmp .ge 26, 3) := by decide +kernel
theorem dX1_setOffOpened_10 : decode cX1_setOffOpened 10 = .ok (.aload_n 0, 1) := by decide +kernel
theorem dX1_setOffOpened_11 : decode cX1_setOffOpened 11 = .ok (.aload_n 1, 1) := by decide +kernel
theorem dX1_setOffOpened_12 : decode cX1_setOffOpened 12 = .ok (.iload_n 2, 1) := by decide +kernel
theorem dX1_setOffOpened_13 : decode cX1_setOffOpened 13 = .ok (.invokevirtual 60, 3) := by decide +kernel
theorem dX1_setOffOpened_16 : decode cX1_setOffOpened 16 = .ok (.invokevirtual 80, 3) := by decide +kernel
theorem dX1_setOffOpened_19 : decode cX1_setOffOpened 19 = .ok (.ifCond .eq 8, 3) := by decide +kernel
theorem dX1_setOffOpened_22 : decode cX1_setOffOpened 22 = .ok (.aload_n 0, 1) := by decide +kernel
theorem dX1_setOffOpened_23 : decode cX1_setOffOpened 23 = .ok (.iload_n 2, 1) := by decide +kernel
theorem dX1_setOffOpened_24 : decode cX1_setOffOpened 24 = .ok (.invokevirtual 25, 3) := by decide +kernel
theorem dX1_setOffOpened_27 : decode cX1_setOffOpened 27 = .ok (.iinc 2 1, 3) := by decide +kernel
theorem dX1_setOffOpened_30 : decode cX1_setOffOpened 30 = .ok (.goto (-28), 3) := by decide +kernel
theorem dX1_setOffOpened_33 : decode cX1_setOffOpened 33 = .ok (.return_, 1) := by decide +kernel
theorem dX1_askAll_0 : decode cX1_askAll 0 = .ok (.aload_n 0, 1) := by decide +kernel
theorem dX1_askAll_1 : decode cX1_askAll 1 = .ok (.getfield 29, 3) := by decide +kernel
theorem dX1_askAll_4 : decode cX1_askAll 4 = .ok (.istore_n 2, 1) := by decide +kernel
theorem dX1_askAll_5 : decode cX1_askAll 5 = .ok (.iconst 0, 1) := by decide +kernel
theorem dX1_askAll_6 : decode cX1_askAll 6 = .ok (.istore_n 3, 1) := by decide +kernel
theorem dX1_askAll_7 : decode cX1_askAll 7 = .ok (.iload_n 3, 1) := by decide +kernel
theorem dX1_askAll_8 : decode cX1_askAll 8 = .ok (.aload_n 1, 1) := by decide +kernel
theorem dX1_askAll_9 : decode cX1_askAll 9 = .ok (.getfield 77, 3) := by decide +kernel
theorem dX1_askAll_12 : decode cX1_askAll 12 = .ok (.if_icmp .ge 23, 3) := by decide +kernel
theorem dX1_askAll_15 : decode cX1_askAll 15 = .ok (.aload_n 0, 1) := by decide +kernel
theorem dX1_askAll_16 : decode cX1_askAll 16 = .ok (.iload_n 3, 1) := by decide +kernel
theorem dX1_askAll_17 : decode cX1_askAll 17 = .ok (.invokevirtual 83, 3) := by decide +kernel
theorem dX1_askAll_20 : decode cX1_askAll 20 = .ok (.ifCond .eq 9, 3) := by decide +kernel
theorem dX1_askAll_23 : decode cX1_askAll 23 = .ok (.aload_n 0, 1) := by decide +kernel
theorem dX1_askAll_24 : decode cX1_askAll 24 = .ok (.aload_n 1, 1) := by decide +kernel
theorem dX1_askAll_25 : decode cX1_askAll 25 = .ok (.iload_n 3, 1) := by decide +kernel
theorem dX1_askAll_26 : decode cX1_askAll 26 = .ok (.invokevirtual 86, 3) := by decide +kernel
theorem dX1_askAll_29 : decode cX1_askAll 29 = .ok (.iinc 3 1, 3) := by decide +kernel
theorem dX1_askAll_32 : decode cX1_askAll 32 = .ok (.goto (-25), 3) := by decide +kernel
theorem dX1_askAll_35 : decode cX1_askAll 35 = .ok (.aload_n 0, 1) := by decide +kernel
theorem dX1_askAll_36 : decode cX1_askAll 36 = .ok (.getfield 29, 3) := by decide +kernel
theorem dX1_askAll_39 : decode cX1_askAll 39 = .ok (.iload_n 2, 1) := by decide +kernel
theorem dX1_askAll_40 : decode cX1_askAll 40 = .ok (.if_icmp .eq 7, 3) := by decide +kernel
theorem dX1_askAll_43 : decode cX1_askAll 43 = .ok (.iconst 1, 1) := by decide +kernel
theorem dX1_askAll_44 : decode cX1_askAll 44 = .ok (.goto 4, 3) := by decide +kernel
theorem dX1_askAll_47 : decode cX1_askAll 47 = .ok (.iconst 0, 1) := by decide +kernel
theorem dX1_askAll_48 : decode cX1_askAll 48 = .ok (.ireturn, 1) := by decide +kernel
theorem dX1_setOffReached_0 : decode cX1_setOffReached 0 = .ok (.aload_n 1, 1) := by decide +kernel
theorem dX1_setOffReached_1 : decode cX1_setOffReached 1 = .ok (.iload_n 2, 1) := by decide +kernel
theorem dX1_setOffReached_2 : decode cX1_setOffReached 2 = .ok (.invokevirtual 60, 3) := by decide +kernel
theorem dX1_setOffReached_5 : decode cX1_setOffReached 5 = .ok (.istore_n 3, 1) := by decide +kernel
theorem dX1_setOffReached_6 : decode cX1_setOffReached 6 = .ok (.aload_n 1, 1) := by decide +kernel
theorem dX1_setOffReached_7 : decode cX1_setOffReached 7 = .ok (.iload_n 2, 1) := by decide +kernel
theorem dX1_setOffReached_8 : decode cX1_setOffReached 8 = .ok (.invokevirtual 66, 3) := by decide +kernel
theorem dX1_setOffReached_11 : decode cX1_setOffReached 11 = .ok (.istore 4, 2) := by decide +kernel
theorem dX1_setOffReached_13 : decode cX1_setOffReached 13 = .ok (.iconst 0, 1) := by decide +kernel
theorem dX1_setOffReached_14 : decode cX1_setOffReached 14 = .ok (.istore 5, 2) := by decide +kernel
theorem dX1_setOffReached_16 : decode cX1_setOffReached 16 = .ok (.iload 5, 2) := by decide +kernel
theorem dX1_setOffReached_18 : decode cX1_setOffReached 18 = .ok (.aload_n 1, 1) := by decide +kernel
theorem dX1_setOffReached_19 : decode cX1_setOffReached 19 = .ok (.getfield 77, 3) := by decide +kernel
theorem dX1_setOffReached_22 : decode cX1_setOffReached 22 = .ok (.if_icmp .ge 47, 3) := by decide +kernel
theorem dX1_setOffReached_25 : decode cX1_setOffReached 25 = .ok (.aload_n 1, 1) := by decide +kernel
theorem dX1_setOffReached_26 : decode cX1_setOffReached 26 = .ok (.iload 5, 2) := by decide +kernel
theorem dX1_setOffReached_28 : decode cX1_setOffReached 28 = .ok (.invokevirtual 60, 3) := by decide +kernel
theorem dX1_setOffReached_31 : decode cX1_setOffReached 31 = .ok (.istore 6, 2) := by decide +kernel
theorem dX1_setOffReached_33 : decode cX1_setOffReached 33 = .ok (.iload 5, 2) := by decide +kernel
theorem dX1_setOffReached_35 : decode cX1_setOffReached 35 = .ok (.iload_n 2, 1) := by decide +kernel
theorem dX1_setOffReached_36 : decode cX1_setOffReached 36 = .ok (.if_icmp .eq 27, 3) := by decide +kernel
theorem dX1_setOffReached_39 : decode cX1_setOffReached 39 = .ok (.aload_n 1, 1) := by decide +kernel
theorem dX1_setOffReached_40 : decode cX1_setOffReached 40 = .ok (.iload 6, 2) := by decide +kernel
theorem dX1_setOffReached_42 : decode cX1_setOffReached 42 = .ok (.iload 4, 2) := by decide +kernel
theorem dX1_setOffReached_44 : decode cX1_setOffReached 44 = .ok (.iload 6, 2) := by decide +kernel
theorem dX1_setOffReached_46 : decode cX1_setOffReached 46 = .ok (.iload_n 3, 1) := by decide +kernel
theorem dX1_setOffReached_47 : decode cX1_setOffReached 47 = .ok (.invokestatic 69, 3) := by decide +kernel
theorem dX1_setOffReached_50 : decode cX1_setOffReached 50 = .ok (.isub, 1) := by decide +kernel
theorem dX1_setOffReached_51 : decode cX1_setOffReached 51 = .ok (.invokevirtual 73, 3) := by decide +kernel
theorem dX1_setOffReached_54 : decode cX1_setOffReached 54 = .ok (.ifCond .eq 9, 3) := by decide +kernel
theorem dX1_setOffReached_57 : decode cX1_setOffReached 57 = .ok (.aload_n 0, 1) := by decide +kernel
theorem dX1_setOffReached_58 : decode cX1_setOffReached 58 = .ok (.iload 5, 2) := by decide +kernel
theorem dX1_setOffReached_60 : decode cX1_setOffReached 60 = .ok (.invokevirtual 25, 3) := by decide +kernel
theorem dX1_setOffReached_63 : decode cX1_setOffReached 63 = .ok (.iinc 5 1, 3) := by decide +kernel
theorem dX1_setOffReached_66 : decode cX1_setOffReached 66 = .ok (.goto (-50), 3) := by decide +kernel
theorem dX1_setOffReached_69 : decode cX1_setOffReached 69 = .ok (.return_, 1) := by decide +kernel
theorem dX2_init_0 : decode cX2_init 0 = .ok (.aload_n 0, 1) := by decide +kernel
theorem dX2_init_1 : decode cX2_init 1 = .ok (.invokespecial 3, 3) := by decide +kernel
theorem dX2_init_4 : decode cX2_init 4 = .ok (.aload_n 0, 1) := by decide +kernel
theorem dX2_init_5 : decode cX2_init 5 = .ok (.bipush 6, 2) := by decide +kernel
theorem dX2_init_7 : decode cX2_init 7 = .ok (.newarray .int, 2) := by decide +kernel
theorem dX2_init_9 : decode cX2_init 9 = .ok (.putfield 9, 3) := by decide +kernel
theorem dX2_init_12 : decode cX2_init 12 = .ok (.return_, 1) := by decide +kernel
theorem dX2_sizeByRectangles_0 : decode cX2_sizeByRectangles 0 = .ok (.iconst 0, 1) := by decide +kernel
theorem dX2_sizeByRectangles_1 : decode cX2_sizeByRectangles 1 = .ok (.istore_n 2, 1) := by decide +kernel
theorem dX2_sizeByRectangles_2 : decode cX2_sizeByRectangles 2 = .ok (.iconst 0, 1) := by decide +kernel
theorem dX2_sizeByRectangles_3 : decode cX2_sizeByRectangles 3 = .ok (.istore_n 3, 1) := by decide +kernel
theorem dX2_sizeByRectangles_4 : decode cX2_sizeByRectangles 4 = .ok (.iload_n 3, 1) := by decide +kernel
theorem dX2_sizeByRectangles_5 : decode cX2_sizeByRectangles 5 = .ok (.bipush 6, 2) := by decide +kernel
theorem dX2_sizeByRectangles_7 : decode cX2_sizeByRectangles 7 = .ok (.if_icmp .ge 37, 3) := by decide +kernel
theorem dX2_sizeByRectangles_10 : decode cX2_sizeByRectangles 10 = .ok (.iconst 0, 1) := by decide +kernel
theorem dX2_sizeByRectangles_11 : decode cX2_sizeByRectangles 11 = .ok (.istore 4, 2) := by decide +kernel
theorem dX2_sizeByRectangles_13 : decode cX2_sizeByRectangles 13 = .ok (.iload 4, 2) := by decide +kernel
theorem dX2_sizeByRectangles_15 : decode cX2_sizeByRectangles 15 = .ok (.bipush 6, 2) := by decide +kernel
theorem dX2_sizeByRectangles_17 : decode cX2_sizeByRectangles 17 = .ok (.if_icmp .ge 21, 3) := by decide +kernel
theorem dX2_sizeByRectangles_20 : decode cX2_sizeByRectangles 20 = .ok (.iload_n 2, 1) := by decide +kernel
theorem dX2_sizeByRectangles_21 : decode cX2_sizeByRectangles 21 = .ok (.aload_n 1, 1) := by decide +kernel
theorem dX2_sizeByRectangles_22 : decode cX2_sizeByRectangles 22 = .ok (.iload_n 3, 1) := by decide +kernel
theorem dX2_sizeByRectangles_23 : decode cX2_sizeByRectangles 23 = .ok (.iload 4, 2) := by decide +kernel
theorem dX2_sizeByRectangles_25 : decode cX2_sizeByRectangles 25 = .ok (.invokestatic 15, 3) := by decide +kernel
theorem dX2_sizeByRectangles_28 : decode cX2_sizeByRectangles 28 = .ok (.invokestatic 19, 3) := by decide +kernel
theorem dX2_sizeByRectangles_31 : decode cX2_sizeByRectangles 31 = .ok (.istore_n 2, 1) := by decide +kernel
theorem dX2_sizeByRectangles_32 : decode cX2_sizeByRectangles 32 = .ok (.iinc 4 1, 3) := by decide +kernel
theorem dX2_sizeByRectangles_35 : decode cX2_sizeByRectangles 35 = .ok (.goto (-22), 3) := by decide +kernel
theorem dX2_sizeByRectangles_38 : decode cX2_sizeByRectangles 38 = .ok (.iinc 3 1, 3) := by decide +kernel
theorem dX2_sizeByRectangles_41 : decode cX2_sizeByRectangles 41 = .ok (.goto (-37), 3) := by decide +kernel
theorem dX2_sizeByRectangles_44 : decode cX2_sizeByRectangles 44 = .ok (.iload_n 2, 1) := by decide +kernel
theorem dX2_sizeByRectangles_45 : decode cX2_sizeByRectangles 45 = .ok (.ireturn, 1) := by decide +kernel
theorem dX2_largestFromCorner_0 : decode cX2_largestFromCorner 0 = .ok (.iconst 0, 1) := by decide +kernel
theorem dX2_largestFromCorner_1 : decode cX2_largestFromCorner 1 = .ok (.istore_n 3, 1) := by decide +kernel
theorem dX2_largestFromCorner_2 : decode cX2_largestFromCorner 2 = .ok (.iload_n 1, 1) := by decide +kernel
theorem dX2_largestFromCorner_3 : decode cX2_largestFromCorner 3 = .ok (.istore 4, 2) := by decide +kernel
theorem dX2_largestFromCorner_5 : decode cX2_largestFromCorner 5 = .ok (.iload 4, 2) := by decide +kernel
theorem dX2_largestFromCorner_7 : decode cX2_largestFromCorner 7 = .ok (.bipush 6, 2) := by decide +kernel
theorem dX2_largestFromCorner_9 : decode cX2_largestFromCorner 9 = .ok (.if_icmp .ge 62, 3) := by decide +kernel
theorem dX2_largestFromCorner_12 : decode cX2_largestFromCorner 12 = .ok (.iload_n 2, 1) := by decide +kernel
theorem dX2_largestFromCorner_13 : decode cX2_largestFromCorner 13 = .ok (.istore 5, 2) := by decide +kernel
theorem dX2_largestFromCorner_15 : decode cX2_largestFromCorner 15 = .ok (.iload 5, 2) := by decide +kernel
theorem dX2_largestFromCorner_17 : decode cX2_largestFromCorner 17 = .ok (.bipush 6, 2) := by decide +kernel
theorem dX2_largestFromCorner_19 : decode cX2_largestFromCorner 19 = .ok (.if_icmp .ge 46, 3) := by decide +kernel
theorem dX2_largestFromCorner_22 : decode cX2_largestFromCorner 22 = .ok (.iload 4, 2) := by decide +kernel
theorem dX2_largestFromCorner_24 : decode cX2_largestFromCorner 24 = .ok (.iload_n 1, 1) := by decide +kernel
theorem dX2_largestFromCorner_25 : decode cX2_largestFromCorner 25 = .ok (.isub, 1) := by decide +kernel
theorem dX2_largestFromCorner_26 : decode cX2_largestFromCorner 26 = .ok (.iconst 1, 1) := by decide +kernel
theorem dX2_largestFromCorner_27 : decode cX2_largestFromCorner 27 = .ok (.iadd, 1) := by decide +kernel
theorem dX2_largestFromCorner_28 : decode cX2_largestFromCorner 28 = .ok (.iload 5, 2) := by decide +kernel
theorem dX2_largestFromCorner_30 : decode cX2_largestFromCorner 30 = .ok (.iload_n 2, 1) := by decide +kernel
theorem dX2_largestFromCorner_31 : decode cX2_largestFromCorner 31 = .ok (.isub, 1) := by decide +kernel
theorem dX2_largestFromCorner_32 : decode cX2_largestFromCorner 32 = .ok (.iconst 1, 1) := by decide +kernel
theorem dX2_largestFromCorner_33 : decode cX2_largestFromCorner 33 = .ok (.iadd, 1) := by decide +kernel
theorem dX2_largestFromCorner_34 : decode cX2_largestFromCorner 34 = .ok (.imul, 1) := by decide +kernel
theorem dX2_largestFromCorner_35 : decode cX2_largestFromCorner 35 = .ok (.istore 6, 2) := by decide +kernel
theorem dX2_largestFromCorner_37 : decode cX2_largestFromCorner 37 = .ok (.iload 6, 2) := by decide +kernel
theorem dX2_largestFromCorner_39 : decode cX2_largestFromCorner 39 = .ok (.iload_n 3, 1) := by decide +kernel
theorem dX2_largestFromCorner_40 : decode cX2_largestFromCorner 40 = .ok (.if_icmp .le 19, 3) := by decide +kernel
theorem dX2_largestFromCorner_43 : decode cX2_largestFromCorner 43 = .ok (.aload_n 0, 1) := by decide +kernel
theorem dX2_largestFromCorner_44 : decode cX2_largestFromCorner 44 = .ok (.iload_n 1, 1) := by decide +kernel
theorem dX2_largestFromCorner_45 : decode cX2_largestFromCorner 45 = .ok (.iload_n 2, 1) := by decide +kernel
theorem dX2_largestFromCorner_46 : decode cX2_largestFromCorner 46 = .ok (.iload 4, 2) := by decide +kernel
theorem dX2_largestFromCorner_48 : decode cX2_largestFromCorner 48 = .ok (.iload 5, 2) := by decide +kernel
theorem dX2_largestFromCorner_50 : decode cX2_largestFromCorner 50 = .ok (.invokestatic 25, 3) := by decide +kernel
theorem dX2_largestFromCorner_53 : decode cX2_largestFromCorner 53 = .ok (.ifCond .eq 6, 3) := by decide +kernel
theorem dX2_largestFromCorner_56 : decode cX2_largestFromCorner 56 = .ok (.iload 6, 2) := by decide +kernel
theorem dX2_largestFromCorner_58 : decode cX2_largestFromCorner 58 = .ok (.istore_n 3, 1) := by decide +kernel
theorem dX2_largestFromCorner_59 : decode cX2_largestFromCorner 59 = .ok (.iinc 5 1, 3) := by decide +kernel
theorem dX2_largestFromCorner_62 : decode cX2_largestFromCorner 62 = .ok (.goto (-47), 3) := by decide +kernel
theorem dX2_largestFromCorner_65 : decode cX2_largestFromCorner 65 = .ok (.iinc 4 1, 3) := by decide +kernel
theorem dX2_largestFromCorner_68 : decode cX2_largestFromCorner 68 = .ok (.goto (-63), 3) := by decide +kernel
theorem dX2_largestFromCorner_71 : decode cX2_largestFromCorner 71 = .ok (.iload_n 3, 1) := by decide +kernel
theorem dX2_largestFromCorner_72 : decode cX2_largestFromCorner 72 = .ok (.ireturn, 1) := by decide +kernel
theorem dX2_allOpen_0 : decode cX2_allOpen 0 = .ok (.iload_n 1, 1) := by decide +kernel
theorem dX2_allOpen_1 : decode cX2_allOpen 1 = .ok (.istore 5, 2) := by decide +kernel
theorem dX2_allOpen_3 : decode cX2_allOpen 3 = .ok (.iload 5, 2) := by decide +kernel
theorem dX2_allOpen_5 : decode cX2_allOpen 5 = .ok (.iload_n 3, 1) := by decide +kernel
theorem dX2_allOpen_6 : decode cX2_allOpen 6 = .ok (.if_icmp .gt 41, 3) := by decide +kernel
theorem dX2_allOpen_9 : decode cX2_allOpen 9 = .ok (.iload_n 2, 1) := by decide +kernel
theorem dX2_allOpen_10 : decode cX2_allOpen 10 = .ok (.istore 6, 2) := by decide +kernel
theorem dX2_allOpen_12 : decode cX2_allOpen 12 = .ok (.iload 6, 2) := by decide +kernel
theorem dX2_allOpen_14 : decode cX2_allOpen 14 = .ok (.iload 4, 2) := by decide +kernel
theorem dX2_allOpen_16 : decode cX2_allOpen 16 = .ok (.if_icmp .gt 25, 3) := by decide +kernel
theorem dX2_allOpen_19 : decode cX2_allOpen 19 = .ok (.aload_n 0, 1) := by decide +kernel
theorem dX2_allOpen_20 : decode cX2_allOpen 20 = .ok (.iload 5, 2) := by decide +kernel
theorem dX2_allOpen_22 : decode cX2_allOpen 22 = .ok (.iload 6, 2) := by decide +kernel
theorem dX2_allOpen_24 : decode cX2_allOpen 24 = .ok (.invokestatic 29, 3) := by decide +kernel
theorem dX2_allOpen_27 : decode cX2_allOpen 27 = .ok (.invokevirtual 32, 3) := by decide +kernel
theorem dX2_allOpen_30 : decode cX2_allOpen 30 = .ok (.ifCond .ne 5, 3) := by decide +kernel
theorem dX2_allOpen_33 : decode cX2_allOpen 33 = .ok (.iconst 0, 1) := by decide +kernel
theorem dX2_allOpen_34 : decode cX2_allOpen 34 = .ok (.ireturn, 1) := by decide +kernel
theorem dX2_allOpen_35 : decode cX2_allOpen 35 = .ok (.iinc 6 1, 3) := by decide +kernel
theorem dX2_allOpen_38 : decode cX2_allOpen 38 = .ok (.goto (-26), 3) := by decide +kernel
theorem dX2_allOpen_41 : decode cX2_allOpen 41 = .ok (.iinc 5 1, 3) := by decide +kernel
theorem dX2_allOpen_44 : decode cX2_allOpen 44 = .ok (.goto (-41), 3) := by decide +kernel
theorem dX2_allOpen_47 : decode cX2_allOpen 47 = .ok (.iconst 1, 1) := by decide +kernel
theorem dX2_allOpen_48 : decode cX2_allOpen 48 = .ok (.ireturn, 1) := by decide +kernel
theorem dX2_sizeByHeights_0 : decode cX2_sizeByHeights 0 = .ok (.aload_n 0, 1) := by decide +kernel
theorem dX2_sizeByHeights_1 : decode cX2_sizeByHeights 1 = .ok (.getfield 9, 3) := by decide +kernel
theorem dX2_sizeByHeights_4 : decode cX2_sizeByHeights 4 = .ok (.iconst 0, 1) := by decide +kernel
theorem dX2_sizeByHeights_5 : decode cX2_sizeByHeights 5 = .ok (.invokestatic 38, 3) := by decide +kernel
theorem dX2_sizeByHeights_8 : decode cX2_sizeByHeights 8 = .ok (.iconst 0, 1) := by decide +kernel
theorem dX2_sizeByHeights_9 : decode cX2_sizeByHeights 9 = .ok (.istore_n 2, 1) := by decide +kernel
theorem dX2_sizeByHeights_10 : decode cX2_sizeByHeights 10 = .ok (.iconst 0, 1) := by decide +kernel
theorem dX2_sizeByHeights_11 : decode cX2_sizeByHeights 11 = .ok (.istore_n 3, 1) := by decide +kernel
theorem dX2_sizeByHeights_12 : decode cX2_sizeByHeights 12 = .ok (.iload_n 3, 1) := by decide +kernel
theorem dX2_sizeByHeights_13 : decode cX2_sizeByHeights 13 = .ok (.bipush 6, 2) := by decide +kernel
theorem dX2_sizeByHeights_15 : decode cX2_sizeByHeights 15 = .ok (.if_icmp .ge 67, 3) := by decide +kernel
theorem dX2_sizeByHeights_18 : decode cX2_sizeByHeights 18 = .ok (.iconst 0, 1) := by decide +kernel
theorem dX2_sizeByHeights_19 : decode cX2_sizeByHeights 19 = .ok (.istore 4, 2) := by decide +kernel
theorem dX2_sizeByHeights_21 : decode cX2_sizeByHeights 21 = .ok (.iload 4, 2) := by decide +kernel
theorem dX2_sizeByHeights_23 : decode cX2_sizeByHeights 23 = .ok (.bipush 6, 2) := by decide +kernel
theorem dX2_sizeByHeights_25 : decode cX2_sizeByHeights 25 = .ok (.if_icmp .ge 42, 3) := by decide +kernel
theorem dX2_sizeByHeights_28 : decode cX2_sizeByHeights 28 = .ok (.aload_n 0, 1) := by decide +kernel
theorem dX2_sizeByHeights_29 : decode cX2_sizeByHeights 29 = .ok (.getfield 9, 3) := by decide +kernel
theorem dX2_sizeByHeights_32 : decode cX2_sizeByHeights 32 = .ok (.iload 4, 2) := by decide +kernel
theorem dX2_sizeByHeights_34 : decode cX2_sizeByHeights 34 = .ok (.aload_n 1, 1) := by decide +kernel
theorem dX2_sizeByHeights_35 : decode cX2_sizeByHeights 35 = .ok (.iload_n 3, 1) := by decide +kernel
theorem dX2_sizeByHeights_36 : decode cX2_sizeByHeights 36 = .ok (.iload 4, 2) := by decide +kernel
theorem dX2_sizeByHeights_38 : decode cX2_sizeByHeights 38 = .ok (.invokestatic 29, 3) := by decide +kernel
theorem dX2_sizeByHeights_41 : decode cX2_sizeByHeights 41 = .ok (.invokevirtual 32, 3) := by decide +kernel
theorem dX2_sizeByHeights_44 : decode cX2_sizeByHeights 44 = .ok (.ifCond .eq 15, 3) := by decide +kernel
theorem dX2_sizeByHeights_47 : decode cX2_sizeByHeights 47 = .ok (.aload_n 0, 1) := by decide +kernel
theorem dX2_sizeByHeights_48 : decode cX2_sizeByHeights 48 = .ok (.getfield 9, 3) := by decide +kernel
theorem dX2_sizeByHeights_51 : decode cX2_sizeByHeights 51 = .ok (.iload 4, 2) := by decide +kernel
theorem dX2_sizeByHeights_53 : decode cX2_sizeByHeights 53 = .ok (.iaload, 1) := by decide +kernel
theorem dX2_sizeByHeights_54 : decode cX2_sizeByHeights 54 = .ok (.iconst 1, 1) := by decide +kernel
theorem dX2_sizeByHeights_55 : decode cX2_sizeByHeights 55 = .ok (.iadd, 1) := by decide +kernel
theorem dX2_sizeByHeights_56 : decode cX2_sizeByHeights 56 = .ok (.goto 4, 3) := by decide +kernel
theorem dX2_sizeByHeights_59 : decode cX2_sizeByHeights 59 = .ok (.iconst 0, 1) := by decide +kernel
theorem dX2_sizeByHeights_60 : decode cX2_sizeByHeights 60 = .ok (.iastore, 1) := by decide +kernel
theorem dX2_sizeByHeights_61 : decode cX2_sizeByHeights 61 = .ok (.iinc 4 1, 3) := by decide +kernel
theorem dX2_sizeByHeights_64 : decode cX2_sizeByHeights 64 = .ok (.goto (-43), 3) := by decide +kernel
theorem dX2_sizeByHeights_67 : decode cX2_sizeByHeights 67 = .ok (.iload_n 2, 1) := by decide +kernel
theorem dX2_sizeByHeights_68 : decode cX2_sizeByHeights 68 = .ok (.aload_n 0, 1) := by decide +kernel
theorem dX2_sizeByHeights_69 : decode cX2_sizeByHeights 69 = .ok (.invokevirtual 44, 3) := by decide +kernel
theorem dX2_sizeByHeights_72 : decode cX2_sizeByHeights 72 = .ok (.invokestatic 19, 3) := by decide +kernel
theorem dX2_sizeByHeights_75 : decode cX2_sizeByHeights 75 = .ok (.istore_n 2, 1) := by decide +kernel
theorem dX2_sizeByHeights_76 : decode cX2_sizeByHeights 76 = .ok (.iinc 3 1, 3) := by decide +kernel
theorem dX2_sizeByHeights_79 : decode cX2_sizeByHeights 79 = .ok (.goto (-67), 3) := by decide +kernel
theorem dX2_sizeByHeights_82 : decode cX2_sizeByHeights 82 = .ok (.iload_n 2, 1) := by decide +kernel
theorem dX2_sizeByHeights_83 : decode cX2_sizeByHeights 83 = .ok (.ireturn, 1) := by decide +kernel
theorem dX2_largestUnderHeights_0 : decode cX2_largestUnderHeights 0 = .ok (.iconst 0, 1) := by decide +kernel
theorem dX2_largestUnderHeights_1 : decode cX2_largestUnderHeights 1 = .ok (.istore_n 1, 1) := by decide +kernel
theorem dX2_largestUnderHeights_2 : decode cX2_largestUnderHeights 2 = .ok (.iconst 0, 1) := by decide +kernel
theorem dX2_largestUnderHeights_3 : decode cX2_largestUnderHeights 3 = .ok (.istore_n 2, 1) := by decide +kernel
theorem dX2_largestUnderHeights_4 : decode cX2_largestUnderHeights 4 = .ok (.iload_n 2, 1) := by decide +kernel
theorem dX2_largestUnderHeights_5 : decode cX2_largestUnderHeights 5 = .ok (.bipush 6, 2) := by decide +kernel
theorem dX2_largestUnderHeights_7 : decode cX2_largestUnderHeights 7 = .ok (.if_icmp .ge 53, 3) := by decide +kernel
theorem dX2_largestUnderHeights_10 : decode cX2_largestUnderHeights 10 = .ok (.bipush 6, 2) := by decide +kernel
theorem dX2_largestUnderHeights_12 : decode cX2_largestUnderHeights 12 = .ok (.istore_n 3, 1) := by decide +kernel
theorem dX2_largestUnderHeights_13 : decode cX2_largestUnderHeights 13 = .ok (.iload_n 2, 1) := by decide +kernel
theorem dX2_largestUnderHeights_14 : decode cX2_largestUnderHeights 14 = .ok (.istore 4, 2) := by decide +kernel
theorem dX2_largestUnderHeights_16 : decode cX2_largestUnderHeights 16 = .ok (.iload 4, 2) := by decide +kernel
theorem dX2_largestUnderHeights_18 : decode cX2_largestUnderHeights 18 = .ok (.bipush 6, 2) := by decide +kernel
theorem dX2_largestUnderHeights_20 : decode cX2_largestUnderHeights 20 = .ok (.if_icmp .ge 34, 3) := by decide +kernel
theorem dX2_largestUnderHeights_23 : decode cX2_largestUnderHeights 23 = .ok (.iload_n 3, 1) := by decide +kernel
theorem dX2_largestUnderHeights_24 : decode cX2_largestUnderHeights 24 = .ok (.aload_n 0, 1) := by decide +kernel
theorem dX2_largestUnderHeights_25 : decode cX2_largestUnderHeights 25 = .ok (.getfield 9, 3) := by decide +kernel
theorem dX2_largestUnderHeights_28 : decode cX2_largestUnderHeights 28 = .ok (.iload 4, 2) := by decide +kernel
theorem dX2_largestUnderHeights_30 : decode cX2_largestUnderHeights 30 = .ok (.iaload, 1) := by decide +kernel
theorem dX2_largestUnderHeights_31 : decode cX2_largestUnderHeights 31 = .ok (.invokestatic 48, 3) := by decide +kernel
theorem dX2_largestUnderHeights_34 : decode cX2_largestUnderHeights 34 = .ok (.istore_n 3, 1) := by decide +kernel
theorem dX2_largestUnderHeights_35 : decode cX2_largestUnderHeights 35 = .ok (.iload_n 1, 1) := by decide +kernel
theorem dX2_largestUnderHeights_36 : decode cX2_largestUnderHeights 36 = .ok (.iload_n 3, 1) := by decide +kernel
theorem dX2_largestUnderHeights_37 : decode cX2_largestUnderHeights 37 = .ok (.iload 4, 2) := by decide +kernel
theorem dX2_largestUnderHeights_39 : decode cX2_largestUnderHeights 39 = .ok (.iload_n 2, 1) := by decide +kernel
theorem dX2_largestUnderHeights_40 : decode cX2_largestUnderHeights 40 = .ok (.isub, 1) := by decide +kernel
theorem dX2_largestUnderHeights_41 : decode cX2_largestUnderHeights 41 = .ok (.iconst 1, 1) := by decide +kernel
theorem dX2_largestUnderHeights_42 : decode cX2_largestUnderHeights 42 = .ok (.iadd, 1) := by decide +kernel
theorem dX2_largestUnderHeights_43 : decode cX2_largestUnderHeights 43 = .ok (.imul, 1) := by decide +kernel
theorem dX2_largestUnderHeights_44 : decode cX2_largestUnderHeights 44 = .ok (.invokestatic 19, 3) := by decide +kernel
theorem dX2_largestUnderHeights_47 : decode cX2_largestUnderHeights 47 = .ok (.istore_n 1, 1) := by decide +kernel
theorem dX2_largestUnderHeights_48 : decode cX2_largestUnderHeights 48 = .ok (.iinc 4 1, 3) := by decide +kernel
theorem dX2_largestUnderHeights_51 : decode cX2_largestUnderHeights 51 = .ok (.goto (-35), 3) := by decide +kernel
theorem dX2_largestUnderHeights_54 : decode cX2_largestUnderHeights 54 = .ok (.iinc 2 1, 3) := by decide +kernel
theorem dX2_largestUnderHeights_57 : decode cX2_largestUnderHeights 57 = .ok (.goto (-53), 3) := by decide +kernel
theorem dX2_largestUnderHeights_60 : decode cX2_largestUnderHeights 60 = .ok (.iload_n 1, 1) := by decide +kernel
theorem dX2_largestUnderHeights_61 : decode cX2_largestUnderHeights 61 = .ok (.ireturn, 1) := by decide +kernel
theorem dX4_init_0 : decode cX4_init 0 = .ok (.aload_n 0, 1) := by decide +kernel
theorem dX4_init_1 : decode cX4_init 1 = .ok (.invokespecial 3, 3) := by decide +kernel
theorem dX4_init_4 : decode cX4_init 4 = .ok (.aload_n 0, 1) := by decide +kernel
theorem dX4_init_5 : decode cX4_init 5 = .ok (.bipush 60, 2) := by decide +kernel
theorem dX4_init_7 : decode cX4_init 7 = .ok (.newarray .char, 2) := by decide +kernel
theorem dX4_init_9 : decode cX4_init 9 = .ok (.putfield 11, 3) := by decide +kernel
theorem dX4_init_12 : decode cX4_init 12 = .ok (.aload_n 0, 1) := by decide +kernel
theorem dX4_init_13 : decode cX4_init 13 = .ok (.bipush 10, 2) := by decide +kernel
theorem dX4_init_15 : decode cX4_init 15 = .ok (.anewarray 15, 3) := by decide +kernel
theorem dX4_init_18 : decode cX4_init 18 = .ok (.putfield 17, 3) := by decide +kernel
theorem dX4_init_21 : decode cX4_init 21 = .ok (.aload_n 0, 1) := by decide +kernel
theorem dX4_init_22 : decode cX4_init 22 = .ok (.bipush 30, 2) := by decide +kernel
theorem dX4_init_24 : decode cX4_init 24 = .ok (.newarray .int, 2) := by decide +kernel
theorem dX4_init_26 : decode cX4_init 26 = .ok (.putfield 21, 3) := by decide +kernel
theorem dX4_init_29 : decode cX4_init 29 = .ok (.return_, 1) := by decide +kernel
theorem dX4_isFull_0 : decode cX4_isFull 0 = .ok (.aload_n 0, 1) := by decide +kernel
theorem dX4_isFull_1 : decode cX4_isFull 1 = .ok (.getfield 25, 3) := by decide +kernel
theorem dX4_isFull_4 : decode cX4_isFull 4 = .ok (.bipush 60, 2) := by decide +kernel
theorem dX4_isFull_6 : decode cX4_isFull 6 = .ok (.if_icmp .lt 7, 3) := by decide +kernel
theorem dX4_isFull_9 : decode cX4_isFull 9 = .ok (.iconst 1, 1) := by decide +kernel
theorem dX4_isFull_10 : decode cX4_isFull 10 = .ok (.goto 4, 3) := by decide +kernel
theorem dX4_isFull_13 : decode cX4_isFull 13 = .ok (.iconst 0, 1) := by decide +kernel
theorem dX4_isFull_14 : decode cX4_isFull 14 = .ok (.ireturn, 1) := by decide +kernel
theorem dX4_append_0 : decode cX4_append 0 = .ok (.aload_n 0, 1) := by decide +kernel
theorem dX4_append_1 : decode cX4_append 1 = .ok (.getfield 25, 3) := by decide +kernel
theorem dX4_append_4 : decode cX4_append 4 = .ok (.iconst 0, 1) := by decide +kernel
theorem dX4_append_5 : decode cX4_append 5 = .ok (.bipush 59, 2) := by decide +kernel
theorem dX4_append_7 : decode cX4_append 7 = .ok (.invokestatic 29, 3) := by decide +kernel
theorem dX4_append_10 : decode cX4_append 10 = .ok (.ifCond .eq 23, 3) := by decide +kernel
theorem dX4_append_13 : decode cX4_append 13 = .ok (.aload_n 0, 1) := by decide +kernel
theorem dX4_append_14 : decode cX4_append 14 = .ok (.getfield 11, 3) := by decide +kernel
theorem dX4_append_17 : decode cX4_append 17 = .ok (.aload_n 0, 1) := by decide +kernel
theorem dX4_append_18 : decode cX4_append 18 = .ok (.getfield 25, 3) := by decide +kernel
theorem dX4_append_21 : decode cX4_append 21 = .ok (.iload_n 1, 1) := by decide +kernel
theorem dX4_append_22 : decode cX4_append 22 = .ok (.castore, 1) := by decide +kernel
theorem dX4_append_23 : decode cX4_append 23 = .ok (.aload_n 0, 1) := by decide +kernel
theorem dX4_append_24 : decode cX4_append 24 = .ok (.dup, 1) := by decide +kernel
theorem dX4_append_25 : decode cX4_append 25 = .ok (.getfield 25, 3) := by decide +kernel
theorem dX4_append_28 : decode cX4_append 28 = .ok (.iconst 1, 1) := by decide +kernel
theorem dX4_append_29 : decode cX4_append 29 = .ok (.iadd, 1) := by decide +kernel
theorem dX4_append_30 : decode cX4_append 30 = .ok (.putfield 25, 3) := by decide +kernel
theorem dX4_append_33 : decode cX4_append 33 = .ok (.aload_n 0, 1) := by decide +kernel
theorem dX4_append_34 : decode cX4_append 34 = .ok (.getfield 25, 3) := by decide +kernel
theorem dX4_append_37 : decode cX4_append 37 = .ok (.ireturn, 1) := by decide +kernel
theorem dX4_empty_0 : decode cX4_empty 0 = .ok (.aload_n 0, 1) := by decide +kernel
theorem dX4_empty_1 : decode cX4_empty 1 = .ok (.iconst 0, 1) := by decide +kernel
theorem dX4_empty_2 : decode cX4_empty 2 = .ok (.putfield 25, 3) := by decide +kernel
theorem dX4_empty_5 : decode cX4_empty 5 = .ok (.return_, 1) := by decide +kernel
theorem dX4_commandAt_0 : decode cX4_commandAt 0 = .ok (.iload_n 1, 1) := by decide +kernel
theorem dX4_commandAt_1 : decode cX4_commandAt 1 = .ok (.iconst 0, 1) := by decide +kernel
theorem dX4_commandAt_2 : decode cX4_commandAt 2 = .ok (.bipush 9, 2) := by decide +kernel
theorem dX4_commandAt_4 : decode cX4_commandAt 4 = .ok (.invokestatic 29, 3) := by decide +kernel
theorem dX4_commandAt_7 : decode cX4_commandAt 7 = .ok (.ifCond .eq 12, 3) := by decide +kernel
theorem dX4_commandAt_10 : decode cX4_commandAt 10 = .ok (.aload_n 0, 1) := by decide +kernel
theorem dX4_commandAt_11 : decode cX4_commandAt 11 = .ok (.getfield 17, 3) := by decide +kernel
theorem dX4_commandAt_14 : decode cX4_commandAt 14 = .ok (.iload_n 1, 1) := by decide +kernel
theorem dX4_commandAt_15 : decode cX4_commandAt 15 = .ok (.aaload, 1) := by decide +kernel
theorem dX4_commandAt_16 : decode cX4_commandAt 16 = .ok (.goto 4, 3) := by decide +kernel
theorem dX4_commandAt_19 : decode cX4_commandAt 19 = .ok (.aconst_null, 1) := by decide +kernel
theorem dX4_commandAt_20 : decode cX4_commandAt 20 = .ok (.areturn, 1) := by decide +kernel
theorem dX4_parameterAt_0 : decode cX4_parameterAt 0 = .ok (.iload_n 1, 1) := by decide +kernel
theorem dX4_parameterAt_1 : decode cX4_parameterAt 1 = .ok (.iconst 3, 1) := by decide +kernel
theorem dX4_parameterAt_2 : decode cX4_parameterAt 2 = .ok (.imul, 1) := by decide +kernel
theorem dX4_parameterAt_3 : decode cX4_parameterAt 3 = .ok (.iload_n 2, 1) := by decide +kernel
theorem dX4_parameterAt_4 : decode cX4_parameterAt 4 = .ok (.iadd, 1) := by decide +kernel
theorem dX4_parameterAt_5 : decode cX4_parameterAt 5 = .ok (.istore_n 3, 1) := by decide +kernel
theorem dX4_parameterAt_6 : decode cX4_parameterAt 6 = .ok (.iload_n 3, 1) := by decide +kernel
theorem dX4_parameterAt_7 : decode cX4_parameterAt 7 = .ok (.iconst 0, 1) := by decide +kernel
theorem dX4_parameterAt_8 : decode cX4_parameterAt 8 = .ok (.aload_n 0, 1) := by decide +kernel
theorem dX4_parameterAt_9 : decode cX4_parameterAt 9 = .ok (.getfield 21, 3) := by decide +kernel
theorem dX4_parameterAt_12 : decode cX4_parameterAt 12 = .ok (.arraylength, 1) := by decide +kernel
theorem dX4_parameterAt_13 : decode cX4_parameterAt 13 = .ok (.iconst 1, 1) := by decide +kernel
theorem dX4_parameterAt_14 : decode cX4_parameterAt 14 = .ok (.isub, 1) := by decide +kernel
theorem dX4_parameterAt_15 : decode cX4_parameterAt 15 = .ok (.invokestatic 29, 3) := by decide +kernel
theorem dX4_parameterAt_18 : decode cX4_parameterAt 18 = .ok (.ifCond .eq 12, 3) := by decide +kernel
theorem dX4_parameterAt_21 : decode cX4_parameterAt 21 = .ok (.aload_n 0, 1) := by decide +kernel
theorem dX4_parameterAt_22 : decode cX4_parameterAt 22 = .ok (.getfield 21, 3) := by decide +kernel
theorem dX4_parameterAt_25 : decode cX4_parameterAt 25 = .ok (.iload_n 3, 1) := by decide +kernel
theorem dX4_parameterAt_26 : decode cX4_parameterAt 26 = .ok (.iaload, 1) := by decide +kernel
theorem dX4_parameterAt_27 : decode cX4_parameterAt 27 = .ok (.goto 4, 3) := by decide +kernel
theorem dX4_parameterAt_30 : decode cX4_parameterAt 30 = .ok (.iconst 0, 1) := by decide +kernel
theorem dX4_parameterAt_31 : decode cX4_parameterAt 31 = .ok (.ireturn, 1) := by decide +kernel
theorem dX4_parse_0 : decode cX4_parse 0 = .ok (.aload_n 0, 1) := by decide +kernel
theorem dX4_parse_1 : decode cX4_parse 1 = .ok (.iconst 0, 1) := by decide +kernel
theorem dX4_parse_2 : decode cX4_parse 2 = .ok (.putfield 33, 3) := by decide +kernel
theorem dX4_parse_5 : decode cX4_parse 5 = .ok (.aload_n 0, 1) := by decide +kernel
theorem dX4_parse_6 : decode cX4_parse 6 = .ok (.iconst 0, 1) := by decide +kernel
theorem dX4_parse_7 : decode cX4_parse 7 = .ok (.putfield 36, 3) := by decide +kernel
theorem dX4_parse_10 : decode cX4_parse 10 = .ok (.iconst 0, 1) := by decide +kernel
theorem dX4_parse_11 : decode cX4_parse 11 = .ok (.istore_n 1, 1) := by decide +kernel
theorem dX4_parse_12 : decode cX4_parse 12 = .ok (.iload_n 1, 1) := by decide +kernel
theorem dX4_parse_13 : decode cX4_parse 13 = .ok (.bipush 10, 2) := by decide +kernel
theorem dX4_parse_15 : decode cX4_parse 15 = .ok (.if_icmp .ge 69, 3) := by decide +kernel
theorem dX4_parse_18 : decode cX4_parse 18 = .ok (.aload_n 0, 1) := by decide +kernel
theorem dX4_parse_19 : decode cX4_parse 19 = .ok (.iload_n 1, 1) := by decide +kernel
theorem dX4_parse_20 : decode cX4_parse 20 = .ok (.invokevirtual 39, 3) := by decide +kernel
theorem dX4_parse_23 : decode cX4_parse 23 = .ok (.ifCond .ne 8, 3) := by decide +kernel
theorem dX4_parse_26 : decode cX4_parse 26 = .ok (.aload_n 0, 1) := by decide +kernel
theorem dX4_parse_27 : decode cX4_parse 27 = .ok (.getfield 33, 3) := by decide +kernel
theorem dX4_parse_30 : decode cX4_parse 30 = .ok (.ireturn, 1) := by decide +kernel
theorem dX4_parse_31 : decode cX4_parse 31 = .ok (.aload_n 0, 1) := by decide +kernel
theorem dX4_parse_32 : decode cX4_parse 32 = .ok (.dup, 1) := by decide +kernel
theorem dX4_parse_33 : decode cX4_parse 33 = .ok (.getfield 36, 3) := by decide +kernel
theorem dX4_parse_36 : decode cX4_parse 36 = .ok (.iconst 1, 1) := by decide +kernel
theorem dX4_parse_37 : decode cX4_parse 37 = .ok (.iadd, 1) := by decide +kernel
theorem dX4_parse_38 : decode cX4_parse 38 = .ok (.putfield 36, 3) := by decide +kernel
theorem dX4_parse_41 : decode cX4_parse 41 = .ok (.aload_n 0, 1) := by decide +kernel
theorem dX4_parse_42 : decode cX4_parse 42 = .ok (.getfield 33, 3) := by decide +kernel
theorem dX4_parse_45 : decode cX4_parse 45 = .ok (.aload_n 0, 1) := by decide +kernel
theorem dX4_parse_46 : decode cX4_parse 46 = .ok (.getfield 25, 3) := by decide +kernel
theorem dX4_parse_49 : decode cX4_parse 49 = .ok (.if_icmp .ne 5, 3) := by decide +kernel
theorem dX4_parse_52 : decode cX4_parse 52 = .ok (.iconst (-1), 1) := by decide +kernel
theorem dX4_parse_53 : decode cX4_parse 53 = .ok (.ireturn, 1) := by decide +kernel
theorem dX4_parse_54 : decode cX4_parse 54 = .ok (.aload_n 0, 1) := by decide +kernel
theorem dX4_parse_55 : decode cX4_parse 55 = .ok (.bipush 59, 2) := by decide +kernel
theorem dX4_parse_57 : decode cX4_parse 57 = .ok (.invokevirtual 43, 3) := by decide +kernel
theorem dX4_parse_60 : decode cX4_parse 60 = .ok (.ifCond .ne 8, 3) := by decide +kernel
theorem dX4_parse_63 : decode cX4_parse 63 = .ok (.aload_n 0, 1) := by decide +kernel
theorem dX4_parse_64 : decode cX4_parse 64 = .ok (.getfield 33, 3) := by decide +kernel
theorem dX4_parse_67 : decode cX4_parse 67 = .ok (.ireturn, 1) := by decide +kernel
theorem dX4_parse_68 : decode cX4_parse 68 = .ok (.aload_n 0, 1) := by decide +kernel
theorem dX4_parse_69 : decode cX4_parse 69 = .ok (.dup, 1) := by decide +kernel
theorem dX4_parse_70 : decode cX4_parse 70 = .ok (.getfield 33, 3) := by decide +kernel
theorem dX4_parse_73 : decode cX4_parse 73 = .ok (.iconst 1, 1) := by decide +kernel
theorem dX4_parse_74 : decode cX4_parse 74 = .ok (.iadd, 1) := by decide +kernel
theorem dX4_parse_75 : decode cX4_parse 75 = .ok (.putfield 33, 3) := by decide +kernel
theorem dX4_parse_78 : decode cX4_parse 78 = .ok (.iinc 1 1, 3) := by decide +kernel
theorem dX4_parse_81 : decode cX4_parse 81 = .ok (.goto (-69), 3) := by decide +kernel
theorem dX4_parse_84 : decode cX4_parse 84 = .ok (.aload_n 0, 1) := by decide +kernel
theorem dX4_parse_85 : decode cX4_parse 85 = .ok (.getfield 33, 3) := by decide +kernel
theorem dX4_parse_88 : decode cX4_parse 88 = .ok (.ireturn, 1) := by decide +kernel
theorem dX4_readCommand_0 : decode cX4_readCommand 0 = .ok (.aload_n 0, 1) := by decide +kernel
theorem dX4_readCommand_1 : decode cX4_readCommand 1 = .ok (.invokevirtual 47, 3) := by decide +kernel
theorem dX4_readCommand_4 : decode cX4_readCommand 4 = .ok (.astore_n 2, 1) := by decide +kernel
theorem dX4_readCommand_5 : decode cX4_readCommand 5 = .ok (.aload_n 2, 1) := by decide +kernel
theorem dX4_readCommand_6 : decode cX4_readCommand 6 = .ok (.ifnull 13, 3) := by decide +kernel
theorem dX4_readCommand_9 : decode cX4_readCommand 9 = .ok (.iload_n 1, 1) := by decide +kernel
theorem dX4_readCommand_10 : decode cX4_readCommand 10 = .ok (.iconst 0, 1) := by decide +kernel
theorem dX4_readCommand_11 : decode cX4_readCommand 11 = .ok (.bipush 9, 2) := by decide +kernel
theorem dX4_readCommand_13 : decode cX4_readCommand 13 = .ok (.invokestatic 29, 3) := by decide +kernel
theorem dX4_readCommand_16 : decode cX4_readCommand 16 = .ok (.ifCond .ne 5, 3) := by decide +kernel
theorem dX4_readCommand_19 : decode cX4_readCommand 19 = .ok (.iconst 0, 1) := by decide +kernel
theorem dX4_readCommand_20 : decode cX4_readCommand 20 = .ok (.ireturn, 1) := by decide +kernel
theorem dX4_readCommand_21 : decode cX4_readCommand 21 = .ok (.aload_n 0, 1) := by decide +kernel
theorem dX4_readCommand_22 : decode cX4_readCommand 22 = .ok (.getfield 17, 3) := by decide +kernel
theorem dX4_readCommand_25 : decode cX4_readCommand 25 = .ok (.iload_n 1, 1) := by decide +kernel
theorem dX4_readCommand_26 : decode cX4_readCommand 26 = .ok (.aload_n 2, 1) := by decide +kernel
theorem dX4_readCommand_27 : decode cX4_readCommand 27 = .ok (.aastore, 1) := by decide +kernel
theorem dX4_readCommand_28 : decode cX4_readCommand 28 = .ok (.iconst 0, 1) := by decide +kernel
theorem dX4_readCommand_29 : decode cX4_readCommand 29 = .ok (.istore_n 3, 1) := by decide +kernel
theorem dX4_readCommand_30 : decode cX4_readCommand 30 = .ok (.iload_n 3, 1) := by decide +kernel
theorem dX4_readCommand_31 : decode cX4_readCommand 31 = .ok (.aload_n 2, 1) := by decide +kernel
theorem dX4_readCommand_32 : decode cX4_readCommand 32 = .ok (.getfield 51, 3) := by decide +kernel
theorem dX4_readCommand_35 : decode cX4_readCommand 35 = .ok (.if_icmp .ge 59, 3) := by decide +kernel
theorem dX4_readCommand_38 : decode cX4_readCommand 38 = .ok (.aload_n 0, 1) := by decide +kernel
theorem dX4_readCommand_39 : decode cX4_readCommand 39 = .ok (.aload_n 2, 1) := by decide +kernel
theorem dX4_readCommand_40 : decode cX4_readCommand 40 = .ok (.getfield 53, 3) := by decide +kernel
theorem dX4_readCommand_43 : decode cX4_readCommand 43 = .ok (.invokevirtual 56, 3) := by decide +kernel
theorem dX4_readCommand_46 : decode cX4_readCommand 46 = .ok (.istore 4, 2) := by decide +kernel
theorem dX4_readCommand_48 : decode cX4_readCommand 48 = .ok (.iload_n 1, 1) := by decide +kernel
theorem dX4_readCommand_49 : decode cX4_readCommand 49 = .ok (.iconst 3, 1) := by decide +kernel
theorem dX4_readCommand_50 : decode cX4_readCommand 50 = .ok (.imul, 1) := by decide +kernel
theorem dX4_readCommand_51 : decode cX4_readCommand 51 = .ok (.iload_n 3, 1) := by decide +kernel
theorem dX4_readCommand_52 : decode cX4_readCommand 52 = .ok (.iadd, 1) := by decide +kernel
theorem dX4_readCommand_53 : decode cX4_readCommand 53 = .ok (.istore 5, 2) := by decide +kernel
theorem dX4_readCommand_55 : decode cX4_readCommand 55 = .ok (.iload 4, 2) := by decide +kernel
theorem dX4_readCommand_57 : decode cX4_readCommand 57 = .ok (.iconst (-1), 1) := by decide +kernel
theorem dX4_readCommand_58 : decode cX4_readCommand 58 = .ok (.if_icmp .eq 19, 3) := by decide +kernel
theorem dX4_readCommand_61 : decode cX4_readCommand 61 = .ok (.iload 5, 2) := by decide +kernel
theorem dX4_readCommand_63 : decode cX4_readCommand 63 = .ok (.iconst 0, 1) := by decide +kernel
theorem dX4_readCommand_64 : decode cX4_readCommand 64 = .ok (.aload_n 0, 1) := by decide +kernel
theorem dX4_readCommand_65 : decode cX4_readCommand 65 = .ok (.getfield 21, 3) := by decide +kernel
theorem dX4_readCommand_68 : decode cX4_readCommand 68 = .ok (.arraylength, 1) := by decide +kernel
theorem dX4_readCommand_69 : decode cX4_readCommand 69 = .ok (.iconst 1, 1) := by decide +kernel
theorem dX4_readCommand_70 : decode cX4_readCommand 70 = .ok (.isub, 1) := by decide +kernel
theorem dX4_readCommand_71 : decode cX4_readCommand 71 = .ok (.invokestatic 29, 3) := by decide +kernel
theorem dX4_readCommand_74 : decode cX4_readCommand 74 = .ok (.ifCond .ne 5, 3) := by decide +kernel
theorem dX4_readCommand_77 : decode cX4_readCommand 77 = .ok (.iconst 0, 1) := by decide +kernel
theorem dX4_readCommand_78 : decode cX4_readCommand 78 = .ok (.ireturn, 1) := by decide +kernel
theorem dX4_readCommand_79 : decode cX4_readCommand 79 = .ok (.aload_n 0, 1) := by decide +kernel
theorem dX4_readCommand_80 : decode cX4_readCommand 80 = .ok (.getfield 21, 3) := by decide +kernel
theorem dX4_readCommand_83 : decode cX4_readCommand 83 = .ok (.iload 5, 2) := by decide +kernel
theorem dX4_readCommand_85 : decode cX4_readCommand 85 = .ok (.iload 4, 2) := by decide +kernel
theorem dX4_readCommand_87 : decode cX4_readCommand 87 = .ok (.iastore, 1) := by decide +kernel
theorem dX4_readCommand_88 : decode cX4_readCommand 88 = .ok (.iinc 3 1, 3) := by decide +kernel
theorem dX4_readCommand_91 : decode cX4_readCommand 91 = .ok (.goto (-61), 3) := by decide +kernel
theorem dX4_readCommand_94 : decode cX4_readCommand 94 = .ok (.iconst 1, 1) := by decide +kernel
theorem dX4_readCommand_95 : decode cX4_readCommand 95 = .ok (.ireturn, 1) := by decide +kernel
theorem dX4_readWord_0 : decode cX4_readWord 0 = .ok (.iconst 0, 1) := by decide +kernel
theorem dX4_readWord_1 : decode cX4_readWord 1 = .ok (.istore_n 1, 1) := by decide +kernel
theorem dX4_readWord_2 : decode cX4_readWord 2 = .ok (.getstatic 60, 3) := by decide +kernel
theorem dX4_readWord_5 : decode cX4_readWord 5 = .ok (.astore_n 2, 1) := by decide +kernel
theorem dX4_readWord_6 : decode cX4_readWord 6 = .ok (.aload_n 2, 1) := by decide +kernel
theorem dX4_readWord_7 : decode cX4_readWord 7 = .ok (.arraylength, 1) := by decide +kernel
theorem dX4_readWord_8 : decode cX4_readWord 8 = .ok (.istore_n 3, 1) := by decide +kernel
theorem dX4_readWord_9 : decode cX4_readWord 9 = .ok (.iconst 0, 1) := by decide +kernel
theorem dX4_readWord_10 : decode cX4_readWord 10 = .ok (.istore 4, 2) := by decide +kernel
theorem dX4_readWord_12 : decode cX4_readWord 12 = .ok (.iload 4, 2) := by decide +kernel
theorem dX4_readWord_14 : decode cX4_readWord 14 = .ok (.iload_n 3, 1) := by decide +kernel
theorem dX4_readWord_15 : decode cX4_readWord 15 = .ok (.if_icmp .ge 60, 3) := by decide +kernel
theorem dX4_readWord_18 : decode cX4_readWord 18 = .ok (.aload_n 2, 1) := by decide +kernel
theorem dX4_readWord_19 : decode cX4_readWord 19 = .ok (.iload 4, 2) := by decide +kernel
theorem dX4_readWord_21 : decode cX4_readWord 21 = .ok (.aaload, 1) := by decide +kernel
theorem dX4_readWord_22 : decode cX4_readWord 22 = .ok (.astore 5, 2) := by decide +kernel
theorem dX4_readWord_24 : decode cX4_readWord 24 = .ok (.aload_n 0, 1) := by decide +kernel
theorem dX4_readWord_25 : decode cX4_readWord 25 = .ok (.aload 5, 2) := by decide +kernel
theorem dX4_readWord_27 : decode cX4_readWord 27 = .ok (.getfield 63, 3) := by decide +kernel
theorem dX4_readWord_30 : decode cX4_readWord 30 = .ok (.invokevirtual 67, 3) := by decide +kernel
theorem dX4_readWord_33 : decode cX4_readWord 33 = .ok (.istore 6, 2) := by decide +kernel
theorem dX4_readWord_35 : decode cX4_readWord 35 = .ok (.iload 6, 2) := by decide +kernel
theorem dX4_readWord_37 : decode cX4_readWord 37 = .ok (.aload 5, 2) := by decide +kernel
theorem dX4_readWord_39 : decode cX4_readWord 39 = .ok (.getfield 63, 3) := by decide +kernel
theorem dX4_readWord_42 : decode cX4_readWord 42 = .ok (.invokevirtual 71, 3) := by decide +kernel
theorem dX4_readWord_45 : decode cX4_readWord 45 = .ok (.if_icmp .ne 17, 3) := by decide +kernel
theorem dX4_readWord_48 : decode cX4_readWord 48 = .ok (.aload_n 0, 1) := by decide +kernel
theorem dX4_readWord_49 : decode cX4_readWord 49 = .ok (.dup, 1) := by decide +kernel
theorem dX4_readWord_50 : decode cX4_readWord 50 = .ok (.getfield 33, 3) := by decide +kernel
theorem dX4_readWord_53 : decode cX4_readWord 53 = .ok (.iload 6, 2) := by decide +kernel
theorem dX4_readWord_55 : decode cX4_readWord 55 = .ok (.iadd, 1) := by decide +kernel
theorem dX4_readWord_56 : decode cX4_readWord 56 = .ok (.putfield 33, 3) := by decide +kernel
theorem dX4_readWord_59 : decode cX4_readWord 59 = .ok (.aload 5, 2) := by decide +kernel
theorem dX4_readWord_61 : decode cX4_readWord 61 = .ok (.areturn, 1) := by decide +kernel
theorem dX4_readWord_62 : decode cX4_readWord 62 = .ok (.iload_n 1, 1) := by decide +kernel
theorem dX4_readWord_63 : decode cX4_readWord 63 = .ok (.iload 6, 2) := by decide +kernel
theorem dX4_readWord_65 : decode cX4_readWord 65 = .ok (.invokestatic 76, 3) := by decide +kernel
theorem dX4_readWord_68 : decode cX4_readWord 68 = .ok (.istore_n 1, 1) := by decide +kernel
theorem dX4_readWord_69 : decode cX4_readWord 69 = .ok (.iinc 4 1, 3) := by decide +kernel
theorem dX4_readWord_72 : decode cX4_readWord 72 = .ok (.goto (-60), 3) := by decide +kernel
theorem dX4_readWord_75 : decode cX4_readWord 75 = .ok (.aload_n 0, 1) := by decide +kernel
theorem dX4_readWord_76 : decode cX4_readWord 76 = .ok (.dup, 1) := by decide +kernel
theorem dX4_readWord_77 : decode cX4_readWord 77 = .ok (.getfield 33, 3) := by decide +kernel
theorem dX4_readWord_80 : decode cX4_readWord 80 = .ok (.iload_n 1, 1) := by decide +kernel
theorem dX4_readWord_81 : decode cX4_readWord 81 = .ok (.iadd, 1) := by decide +kernel
theorem dX4_readWord_82 : decode cX4_readWord 82 = .ok (.putfield 33, 3) := by decide +kernel
theorem dX4_readWord_85 : decode cX4_readWord 85 = .ok (.aconst_null, 1) := by decide +kernel
theorem dX4_readWord_86 : decode cX4_readWord 86 = .ok (.areturn, 1) := by decide +kernel
theorem dX4_commonStart_0 : decode cX4_commonStart 0 = .ok (.iconst 0, 1) := by decide +kernel
theorem dX4_commonStart_1 : decode cX4_commonStart 1 = .ok (.istore_n 2, 1) := by decide +kernel
theorem dX4_commonStart_2 : decode cX4_commonStart 2 = .ok (.iload_n 2, 1) := by decide +kernel
theorem dX4_commonStart_3 : decode cX4_commonStart 3 = .ok (.aload_n 1, 1) := by decide +kernel
theorem dX4_commonStart_4 : decode cX4_commonStart 4 = .ok (.invokevirtual 71, 3) := by decide +kernel
theorem dX4_commonStart_7 : decode cX4_commonStart 7 = .ok (.if_icmp .ge 29, 3) := by decide +kernel
theorem dX4_commonStart_10 : decode cX4_commonStart 10 = .ok (.aload_n 0, 1) := by decide +kernel
theorem dX4_commonStart_11 : decode cX4_commonStart 11 = .ok (.aload_n 0, 1) := by decide +kernel
theorem dX4_commonStart_12 : decode cX4_commonStart 12 = .ok (.getfield 33, 3) := by decide +kernel
theorem dX4_commonStart_15 : decode cX4_commonStart 15 = .ok (.iload_n 2, 1) := by decide +kernel
theorem dX4_commonStart_16 : decode cX4_commonStart 16 = .ok (.iadd, 1) := by decide +kernel
theorem dX4_commonStart_17 : decode cX4_commonStart 17 = .ok (.aload_n 1, 1) := by decide +kernel
theorem dX4_commonStart_18 : decode cX4_commonStart 18 = .ok (.iload_n 2, 1) := by decide +kernel
theorem dX4_commonStart_19 : decode cX4_commonStart 19 = .ok (.invokevirtual 82, 3) := by decide +kernel
theorem dX4_commonStart_22 : decode cX4_commonStart 22 = .ok (.invokevirtual 86, 3) := by decide +kernel
theorem dX4_commonStart_25 : decode cX4_commonStart 25 = .ok (.ifCond .ne 5, 3) := by decide +kernel
theorem dX4_commonStart_28 : decode cX4_commonStart 28 = .ok (.iload_n 2, 1) := by decide +kernel
theorem dX4_commonStart_29 : decode cX4_commonStart 29 = .ok (.ireturn, 1) := by decide +kernel
theorem dX4_commonStart_30 : decode cX4_commonStart 30 = .ok (.iinc 2 1, 3) := by decide +kernel
theorem dX4_commonStart_33 : decode cX4_commonStart 33 = .ok (.goto (-31), 3) := by decide +kernel
theorem dX4_commonStart_36 : decode cX4_commonStart 36 = .ok (.aload_n 1, 1) := by decide +kernel
theorem dX4_commonStart_37 : decode cX4_commonStart 37 = .ok (.invokevirtual 71, 3) := by decide +kernel
theorem dX4_commonStart_40 : decode cX4_commonStart 40 = .ok (.ireturn, 1) := by decide +kernel
theorem dX4_readNumber_0 : decode cX4_readNumber 0 = .ok (.aload_n 0, 1) := by decide +kernel
theorem dX4_readNumber_1 : decode cX4_readNumber 1 = .ok (.bipush 32, 2) := by decide +kernel
theorem dX4_readNumber_3 : decode cX4_readNumber 3 = .ok (.invokevirtual 43, 3) := by decide +kernel
theorem dX4_readNumber_6 : decode cX4_readNumber 6 = .ok (.ifCond .ne 5, 3) := by decide +kernel
theorem dX4_readNumber_9 : decode cX4_readNumber 9 = .ok (.iconst (-1), 1) := by decide +kernel
theorem dX4_readNumber_10 : decode cX4_readNumber 10 = .ok (.ireturn, 1) := by decide +kernel
theorem dX4_readNumber_11 : decode cX4_readNumber 11 = .ok (.aload_n 0, 1) := by decide +kernel
theorem dX4_readNumber_12 : decode cX4_readNumber 12 = .ok (.dup, 1) := by decide +kernel
theorem dX4_readNumber_13 : decode cX4_readNumber 13 = .ok (.getfield 33, 3) := by decide +kernel
theorem dX4_readNumber_16 : decode cX4_readNumber 16 = .ok (.iconst 1, 1) := by decide +kernel
theorem dX4_readNumber_17 : decode cX4_readNumber 17 = .ok (.iadd, 1) := by decide +kernel
theorem dX4_readNumber_18 : decode cX4_readNumber 18 = .ok (.putfield 33, 3) := by decide +kernel
theorem dX4_readNumber_21 : decode cX4_readNumber 21 = .ok (.aload_n 0, 1) := by decide +kernel
theorem dX4_readNumber_22 : decode cX4_readNumber 22 = .ok (.invokevirtual 90, 3) := by decide +kernel
theorem dX4_readNumber_25 : decode cX4_readNumber 25 = .ok (.istore_n 2, 1) := by decide +kernel
theorem dX4_readNumber_26 : decode cX4_readNumber 26 = .ok (.iload_n 2, 1) := by decide +kernel
theorem dX4_readNumber_27 : decode cX4_readNumber 27 = .ok (.iconst (-1), 1) := by decide +kernel
theorem dX4_readNumber_28 : decode cX4_readNumber 28 = .ok (.if_icmp .ne 5, 3) := by decide +kernel
theorem dX4_readNumber_31 : decode cX4_readNumber 31 = .ok (.iconst (-1), 1) := by decide +kernel
theorem dX4_readNumber_32 : decode cX4_readNumber 32 = .ok (.ireturn, 1) := by decide +kernel
theorem dX4_readNumber_33 : decode cX4_readNumber 33 = .ok (.aload_n 0, 1) := by decide +kernel
theorem dX4_readNumber_34 : decode cX4_readNumber 34 = .ok (.dup, 1) := by decide +kernel
theorem dX4_readNumber_35 : decode cX4_readNumber 35 = .ok (.getfield 33, 3) := by decide +kernel
theorem dX4_readNumber_38 : decode cX4_readNumber 38 = .ok (.iconst 1, 1) := by decide +kernel
theorem dX4_readNumber_39 : decode cX4_readNumber 39 = .ok (.iadd, 1) := by decide +kernel
theorem dX4_readNumber_40 : decode cX4_readNumber 40 = .ok (.putfield 33, 3) := by decide +kernel
theorem dX4_readNumber_43 : decode cX4_readNumber 43 = .ok (.iload_n 1, 1) := by decide +kernel
theorem dX4_readNumber_44 : decode cX4_readNumber 44 = .ok (.iconst 1, 1) := by decide +kernel
theorem dX4_readNumber_45 : decode cX4_readNumber 45 = .ok (.if_icmp .le 10, 3) := by decide +kernel
theorem dX4_readNumber_48 : decode cX4_readNumber 48 = .ok (.aload_n 0, 1) := by decide +kernel
theorem dX4_readNumber_49 : decode cX4_readNumber 49 = .ok (.invokevirtual 90, 3) := by decide +kernel
theorem dX4_readNumber_52 : decode cX4_readNumber 52 = .ok (.goto 4, 3) := by decide +kernel
theorem dX4_readNumber_55 : decode cX4_readNumber 55 = .ok (.iconst (-1), 1) := by decide +kernel
theorem dX4_readNumber_56 : decode cX4_readNumber 56 = .ok (.istore_n 3, 1) := by decide +kernel
theorem dX4_readNumber_57 : decode cX4_readNumber 57 = .ok (.iload_n 3, 1) := by decide +kernel
theorem dX4_readNumber_58 : decode cX4_readNumber 58 = .ok (.iconst (-1), 1) := by decide +kernel
theorem dX4_readNumber_59 : decode cX4_readNumber 59 = .ok (.if_icmp .ne 5, 3) := by decide +kernel
theorem dX4_readNumber_62 : decode cX4_readNumber 62 = .ok (.iload_n 2, 1) := by decide +kernel
theorem dX4_readNumber_63 : decode cX4_readNumber 63 = .ok (.ireturn, 1) := by decide +kernel
theorem dX4_readNumber_64 : decode cX4_readNumber 64 = .ok (.aload_n 0, 1) := by decide +kernel
theorem dX4_readNumber_65 : decode cX4_readNumber 65 = .ok (.dup, 1) := by decide +kernel
theorem dX4_readNumber_66 : decode cX4_readNumber 66 = .ok (.getfield 33, 3) := by decide +kernel
theorem dX4_readNumber_69 : decode cX4_readNumber 69 = .ok (.iconst 1, 1) := by decide +kernel
theorem dX4_readNumber_70 : decode cX4_readNumber 70 = .ok (.iadd, 1) := by decide +kernel
theorem dX4_readNumber_71 : decode cX4_readNumber 71 = .ok (.putfield 33, 3) := by decide +kernel
theorem dX4_readNumber_74 : decode cX4_readNumber 74 = .ok (.iload_n 2, 1) := by decide +kernel
theorem dX4_readNumber_75 : decode cX4_readNumber 75 = .ok (.bipush 10, 2) := by decide +kernel
theorem dX4_readNumber_77 : decode cX4_readNumber 77 = .ok (.imul, 1) := by decide +kernel
theorem dX4_readNumber_78 : decode cX4_readNumber 78 = .ok (.iload_n 3, 1) := by decide +kernel
theorem dX4_readNumber_79 : decode cX4_readNumber 79 = .ok (.iadd, 1) := by decide +kernel
theorem dX4_readNumber_80 : decode cX4_readNumber 80 = .ok (.ireturn, 1) := by decide +kernel
theorem dX4_nextDigit_0 : decode cX4_nextDigit 0 = .ok (.iconst 0, 1) := by decide +kernel
theorem dX4_nextDigit_1 : decode cX4_nextDigit 1 = .ok (.istore_n 1, 1) := by decide +kernel
theorem dX4_nextDigit_2 : decode cX4_nextDigit 2 = .ok (.iload_n 1, 1) := by decide +kernel
theorem dX4_nextDigit_3 : decode cX4_nextDigit 3 = .ok (.bipush 9, 2) := by decide +kernel
theorem dX4_nextDigit_5 : decode cX4_nextDigit 5 = .ok (.if_icmp .gt 23, 3) := by decide +kernel
theorem dX4_nextDigit_8 : decode cX4_nextDigit 8 = .ok (.aload_n 0, 1) := by decide +kernel
theorem dX4_nextDigit_9 : decode cX4_nextDigit 9 = .ok (.bipush 48, 2) := by decide +kernel
theorem dX4_nextDigit_11 : decode cX4_nextDigit 11 = .ok (.iload_n 1, 1) := by decide +kernel
theorem dX4_nextDigit_12 : decode cX4_nextDigit 12 = .ok (.iadd, 1) := by decide +kernel
theorem dX4_nextDigit_13 : decode cX4_nextDigit 13 = .ok (.i2c, 1) := by decide +kernel
theorem dX4_nextDigit_14 : decode cX4_nextDigit 14 = .ok (.invokevirtual 43, 3) := by decide +kernel
theorem dX4_nextDigit_17 : decode cX4_nextDigit 17 = .ok (.ifCond .eq 5, 3) := by decide +kernel
theorem dX4_nextDigit_20 : decode cX4_nextDigit 20 = .ok (.iload_n 1, 1) := by decide +kernel
theorem dX4_nextDigit_21 : decode cX4_nextDigit 21 = .ok (.ireturn, 1) := by decide +kernel
theorem dX4_nextDigit_22 : decode cX4_nextDigit 22 = .ok (.iinc 1 1, 3) := by decide +kernel
theorem dX4_nextDigit_25 : decode cX4_nextDigit 25 = .ok (.goto (-23), 3) := by decide +kernel
theorem dX4_nextDigit_28 : decode cX4_nextDigit 28 = .ok (.iconst (-1), 1) := by decide +kernel
theorem dX4_nextDigit_29 : decode cX4_nextDigit 29 = .ok (.ireturn, 1) := by decide +kernel
theorem dX4_nextIs_0 : decode cX4_nextIs 0 = .ok (.aload_n 0, 1) := by decide +kernel
theorem dX4_nextIs_1 : decode cX4_nextIs 1 = .ok (.aload_n 0, 1) := by decide +kernel
theorem dX4_nextIs_2 : decode cX4_nextIs 2 = .ok (.getfield 33, 3) := by decide +kernel
theorem dX4_nextIs_5 : decode cX4_nextIs 5 = .ok (.iload_n 1, 1) := by decide +kernel
theorem dX4_nextIs_6 : decode cX4_nextIs 6 = .ok (.invokevirtual 86, 3) := by decide +kernel
theorem dX4_nextIs_9 : decode cX4_nextIs 9 = .ok (.ireturn, 1) := by decide +kernel
theorem dX4_signIs_0 : decode cX4_signIs 0 = .ok (.iload_n 1, 1) := by decide +kernel
theorem dX4_signIs_1 : decode cX4_signIs 1 = .ok (.ifCond .lt 31, 3) := by decide +kernel
theorem dX4_signIs_4 : decode cX4_signIs 4 = .ok (.iload_n 1, 1) := by decide +kernel
theorem dX4_signIs_5 : decode cX4_signIs 5 = .ok (.aload_n 0, 1) := by decide +kernel
theorem dX4_signIs_6 : decode cX4_signIs 6 = .ok (.getfield 25, 3) := by decide +kernel
theorem dX4_signIs_9 : decode cX4_signIs 9 = .ok (.if_icmp .ge 23, 3) := by decide +kernel
theorem dX4_signIs_12 : decode cX4_signIs 12 = .ok (.iload_n 1, 1) := by decide +kernel
theorem dX4_signIs_13 : decode cX4_signIs 13 = .ok (.bipush 60, 2) := by decide +kernel
theorem dX4_signIs_15 : decode cX4_signIs 15 = .ok (.if_icmp .ge 17, 3) := by decide +kernel
theorem dX4_signIs_18 : decode cX4_signIs 18 = .ok (.aload_n 0, 1) := by decide +kernel
theorem dX4_signIs_19 : decode cX4_signIs 19 = .ok (.getfield 11, 3) := by decide +kernel
theorem dX4_signIs_22 : decode cX4_signIs 22 = .ok (.iload_n 1, 1) := by decide +kernel
theorem dX4_signIs_23 : decode cX4_signIs 23 = .ok (.caload, 1) := by decide +kernel
theorem dX4_signIs_24 : decode cX4_signIs 24 = .ok (.iload_n 2, 1) := by decide +kernel
theorem dX4_signIs_25 : decode cX4_signIs 25 = .ok (.if_icmp .ne 7, 3) := by decide +kernel
theorem dX4_signIs_28 : decode cX4_signIs 28 = .ok (.iconst 1, 1) := by decide +kernel
theorem dX4_signIs_29 : decode cX4_signIs 29 = .ok (.goto 4, 3) := by decide +kernel
theorem dX4_signIs_32 : decode cX4_signIs 32 = .ok (.iconst 0, 1) := by decide +kernel
theorem dX4_signIs_33 : decode cX4_signIs 33 = .ok (.ireturn, 1) := by decide +kernel
theorem dX5_init_0 : decode cX5_init 0 = .ok (.aload_n 0, 1) := by decide +kernel
theorem dX5_init_1 : decode cX5_init 1 = .ok (.invokespecial 3, 3) := by decide +kernel
theorem dX5_init_4 : decode cX5_init 4 = .ok (.aload_n 0, 1) := by decide +kernel
theorem dX5_init_5 : decode cX5_init 5 = .ok (.bipush 31, 2) := by decide +kernel
theorem dX5_init_7 : decode cX5_init 7 = .ok (.newarray .int, 2) := by decide +kernel
theorem dX5_init_9 : decode cX5_init 9 = .ok (.putfield 9, 3) := by decide +kernel
theorem dX5_init_12 : decode cX5_init 12 = .ok (.aload_n 0, 1) := by decide +kernel
theorem dX5_init_13 : decode cX5_init 13 = .ok (.bipush 31, 2) := by decide +kernel
theorem dX5_init_15 : decode cX5_init 15 = .ok (.newarray .int, 2) := by decide +kernel
theorem dX5_init_17 : decode cX5_init 17 = .ok (.putfield 15, 3) := by decide +kernel
theorem dX5_init_20 : decode cX5_init 20 = .ok (.return_, 1) := by decide +kernel
theorem dX5_coinsByTable_0 : decode cX5_coinsByTable 0 = .ok (.aload_n 0, 1) := by decide +kernel
theorem dX5_coinsByTable_1 : decode cX5_coinsByTable 1 = .ok (.aload_n 1, 1) := by decide +kernel
theorem dX5_coinsByTable_2 : decode cX5_coinsByTable 2 = .ok (.invokevirtual 18, 3) := by decide +kernel
theorem dX5_coinsByTable_5 : decode cX5_coinsByTable 5 = .ok (.iload_n 2, 1) := by decide +kernel
theorem dX5_coinsByTable_6 : decode cX5_coinsByTable 6 = .ok (.iconst 0, 1) := by decide +kernel
theorem dX5_coinsByTable_7 : decode cX5_coinsByTable 7 = .ok (.bipush 30, 2) := by decide +kernel
theorem dX5_coinsByTable_9 : decode cX5_coinsByTable 9 = .ok (.invokestatic 22, 3) := by decide +kernel
theorem dX5_coinsByTable_12 : decode cX5_coinsByTable 12 = .ok (.ifCond .eq 12, 3) := by decide +kernel
theorem dX5_coinsByTable_15 : decode cX5_coinsByTable 15 = .ok (.aload_n 0, 1) := by decide +kernel
theorem dX5_coinsByTable_16 : decode cX5_coinsByTable 16 = .ok (.getfield 9, 3) := by decide +kernel
theorem dX5_coinsByTable_19 : decode cX5_coinsByTable 19 = .ok (.iload_n 2, 1) := by decide +kernel
theorem dX5_coinsByTable_20 : decode cX5_coinsByTable 20 = .ok (.iaload, 1) := by decide +kernel
theorem dX5_coinsByTable_21 : decode cX5_coinsByTable 21 = .ok (.goto 4, 3) := by decide +kernel
theorem dX5_coinsByTable_24 : decode cX5_coinsByTable 24 = .ok (.iconst 0, 1) := by decide +kernel
theorem dX5_coinsByTable_25 : decode cX5_coinsByTable 25 = .ok (.ireturn, 1) := by decide +kernel
theorem dX5_piecesByTable_0 : decode cX5_piecesByTable 0 = .ok (.aload_n 0, 1) := by decide +kernel
theorem dX5_piecesByTable_1 : decode cX5_piecesByTable 1 = .ok (.aload_n 1, 1) := by decide +kernel
theorem dX5_piecesByTable_2 : decode cX5_piecesByTable 2 = .ok (.invokevirtual 18, 3) := by decide +kernel
theorem dX5_piecesByTable_5 : decode cX5_piecesByTable 5 = .ok (.iload_n 2, 1) := by decide +kernel
theorem dX5_piecesByTable_6 : decode cX5_piecesByTable 6 = .ok (.iconst 0, 1) := by decide +kernel
theorem dX5_piecesByTable_7 : decode cX5_piecesByTable 7 = .ok (.bipush 30, 2) := by decide +kernel
theorem dX5_piecesByTable_9 : decode cX5_piecesByTable 9 = .ok (.invokestatic 22, 3) := by decide +kernel
theorem dX5_piecesByTable_12 : decode cX5_piecesByTable 12 = .ok (.ifCond .eq 12, 3) := by decide +kernel
theorem dX5_piecesByTable_15 : decode cX5_piecesByTable 15 = .ok (.aload_n 0, 1) := by decide +kernel
theorem dX5_piecesByTable_16 : decode cX5_piecesByTable 16 = .ok (.getfield 15, 3) := by decide +kernel
theorem dX5_piecesByTable_19 : decode cX5_piecesByTable 19 = .ok (.iload_n 2, 1) := by decide +kernel
theorem dX5_piecesByTable_20 : decode cX5_piecesByTable 20 = .ok (.iaload, 1) := by decide +kernel
theorem dX5_piecesByTable_21 : decode cX5_piecesByTable 21 = .ok (.goto 4, 3) := by decide +kernel
theorem dX5_piecesByTable_24 : decode cX5_piecesByTable 24 = .ok (.iconst 0, 1) := by decide +kernel
theorem dX5_piecesByTable_25 : decode cX5_piecesByTable 25 = .ok (.ireturn, 1) := by decide +kernel
theorem dX5_fillTable_0 : decode cX5_fillTable 0 = .ok (.aload_n 0, 1) := by decide +kernel
theorem dX5_fillTable_1 : decode cX5_fillTable 1 = .ok (.getfield 9, 3) := by decide +kernel
theorem dX5_fillTable_4 : decode cX5_fillTable 4 = .ok (.iconst 0, 1) := by decide +kernel
theorem dX5_fillTable_5 : decode cX5_fillTable 5 = .ok (.iconst 0, 1) := by decide +kernel
theorem dX5_fillTable_6 : decode cX5_fillTable 6 = .ok (.iastore, 1) := by decide +kernel
theorem dX5_fillTable_7 : decode cX5_fillTable 7 = .ok (.aload_n 0, 1) := by decide +kernel
theorem dX5_fillTable_8 : decode cX5_fillTable 8 = .ok (.getfield 15, 3) := by decide +kernel
theorem dX5_fillTable_11 : decode cX5_fillTable 11 = .ok (.iconst 0, 1) := by decide +kernel
theorem dX5_fillTable_12 : decode cX5_fillTable 12 = .ok (.iconst 0, 1) := by decide +kernel
theorem dX5_fillTable_13 : decode cX5_fillTable 13 = .ok (.iastore, 1) := by decide +kernel
theorem dX5_fillTable_14 : decode cX5_fillTable 14 = .ok (.iconst 1, 1) := by decide +kernel
theorem dX5_fillTable_15 : decode cX5_fillTable 15 = .ok (.istore_n 2, 1) := by decide +kernel
theorem dX5_fillTable_16 : decode cX5_fillTable 16 = .ok (.iload_n 2, 1) := by decide +kernel
theorem dX5_fillTable_17 : decode cX5_fillTable 17 = .ok (.bipush 30, 2) := by decide +kernel
theorem dX5_fillTable_19 : decode cX5_fillTable 19 = .ok (.if_icmp .gt 119, 3) := by decide +kernel
theorem dX5_fillTable_22 : decode cX5_fillTable 22 = .ok (.aload_n 0, 1) := by decide +kernel
theorem dX5_fillTable_23 : decode cX5_fillTable 23 = .ok (.getfield 9, 3) := by decide +kernel
theorem dX5_fillTable_26 : decode cX5_fillTable 26 = .ok (.iload_n 2, 1) := by decide +kernel
theorem dX5_fillTable_27 : decode cX5_fillTable 27 = .ok (.iconst (-1), 1) := by decide +kernel
theorem dX5_fillTable_28 : decode cX5_fillTable 28 = .ok (.iastore, 1) := by decide +kernel
theorem dX5_fillTable_29 : decode cX5_fillTable 29 = .ok (.aload_n 0, 1) := by decide +kernel
theorem dX5_fillTable_30 : decode cX5_fillTable 30 = .ok (.getfield 15, 3) := by decide +kernel
theorem dX5_fillTable_33 : decode cX5_fillTable 33 = .ok (.iload_n 2, 1) := by decide +kernel
theorem dX5_fillTable_34 : decode cX5_fillTable 34 = .ok (.iconst 0, 1) := by decide +kernel
theorem dX5_fillTable_35 : decode cX5_fillTable 35 = .ok (.iastore, 1) := by decide +kernel
theorem dX5_fillTable_36 : decode cX5_fillTable 36 = .ok (.iconst 1, 1) := by decide +kernel
theorem dX5_fillTable_37 : decode cX5_fillTable 37 = .ok (.istore_n 3, 1) := by decide +kernel
theorem dX5_fillTable_38 : decode cX5_fillTable 38 = .ok (.iload_n 3, 1) := by decide +kernel
theorem dX5_fillTable_39 : decode cX5_fillTable 39 = .ok (.bipush 10, 2) := by decide +kernel
theorem dX5_fillTable_41 : decode cX5_fillTable 41 = .ok (.if_icmp .gt 91, 3) := by decide +kernel
theorem dX5_fillTable_44 : decode cX5_fillTable 44 = .ok (.iload_n 3, 1) := by decide +kernel
theorem dX5_fillTable_45 : decode cX5_fillTable 45 = .ok (.iload_n 2, 1) := by decide +kernel
theorem dX5_fillTable_46 : decode cX5_fillTable 46 = .ok (.if_icmp .gt 86, 3) := by decide +kernel
theorem dX5_fillTable_49 : decode cX5_fillTable 49 = .ok (.aload_n 0, 1) := by decide +kernel
theorem dX5_fillTable_50 : decode cX5_fillTable 50 = .ok (.getfield 9, 3) := by decide +kernel
theorem dX5_fillTable_53 : decode cX5_fillTable 53 = .ok (.iload_n 2, 1) := by decide +kernel
theorem dX5_fillTable_54 : decode cX5_fillTable 54 = .ok (.iload_n 3, 1) := by decide +kernel
theorem dX5_fillTable_55 : decode cX5_fillTable 55 = .ok (.isub, 1) := by decide +kernel
theorem dX5_fillTable_56 : decode cX5_fillTable 56 = .ok (.iaload, 1) := by decide +kernel
theorem dX5_fillTable_57 : decode cX5_fillTable 57 = .ok (.aload_n 1, 1) := by decide +kernel
theorem dX5_fillTable_58 : decode cX5_fillTable 58 = .ok (.iload_n 3, 1) := by decide +kernel
theorem dX5_fillTable_59 : decode cX5_fillTable 59 = .ok (.invokevirtual 26, 3) := by decide +kernel
theorem dX5_fillTable_62 : decode cX5_fillTable 62 = .ok (.iadd, 1) := by decide +kernel
theorem dX5_fillTable_63 : decode cX5_fillTable 63 = .ok (.istore 4, 2) := by decide +kernel
theorem dX5_fillTable_65 : decode cX5_fillTable 65 = .ok (.aload_n 0, 1) := by decide +kernel
theorem dX5_fillTable_66 : decode cX5_fillTable 66 = .ok (.getfield 15, 3) := by decide +kernel
theorem dX5_fillTable_69 : decode cX5_fillTable 69 = .ok (.iload_n 2, 1) := by decide +kernel
theorem dX5_fillTable_70 : decode cX5_fillTable 70 = .ok (.iload_n 3, 1) := by decide +kernel
theorem dX5_fillTable_71 : decode cX5_fillTable 71 = .ok (.isub, 1) := by decide +kernel
theorem dX5_fillTable_72 : decode cX5_fillTable 72 = .ok (.iaload, 1) := by decide +kernel
theorem dX5_fillTable_73 : decode cX5_fillTable 73 = .ok (.iconst 1, 1) := by decide +kernel
theorem dX5_fillTable_74 : decode cX5_fillTable 74 = .ok (.iadd, 1) := by decide +kernel
theorem dX5_fillTable_75 : decode cX5_fillTable 75 = .ok (.istore 5, 2) := by decide +kernel
theorem dX5_fillTable_77 : decode cX5_fillTable 77 = .ok (.iload 4, 2) := by decide +kernel
theorem dX5_fillTable_79 : decode cX5_fillTable 79 = .ok (.aload_n 0, 1) := by decide +kernel
theorem dX5_fillTable_80 : decode cX5_fillTable 80 = .ok (.getfield 9, 3) := by decide +kernel
theorem dX5_fillTable_83 : decode cX5_fillTable 83 = .ok (.iload_n 2, 1) := by decide +kernel
theorem dX5_fillTable_84 : decode cX5_fillTable 84 = .ok (.iaload, 1) := by decide +kernel
theorem dX5_fillTable_85 : decode cX5_fillTable 85 = .ok (.if_icmp .gt 25, 3) := by decide +kernel
theorem dX5_fillTable_88 : decode cX5_fillTable 88 = .ok (.iload 4, 2) := by decide +kernel
theorem dX5_fillTable_90 : decode cX5_fillTable 90 = .ok (.aload_n 0, 1) := by decide +kernel
theorem dX5_fillTable_91 : decode cX5_fillTable 91 = .ok (.getfield 9, 3) := by decide +kernel
theorem dX5_fillTable_94 : decode cX5_fillTable 94 = .ok (.iload_n 2, 1) := by decide +kernel
theorem dX5_fillTable_95 : decode cX5_fillTable 95 = .ok (.iaload, 1) := by decide +kernel
theorem dX5_fillTable_96 : decode cX5_fillTable 96 = .ok (.if_icmp .ne 30, 3) := by decide +kernel
theorem dX5_fillTable_99 : decode cX5_fillTable 99 = .ok (.iload 5, 2) := by decide +kernel
theorem dX5_fillTable_101 : decode cX5_fillTable 101 = .ok (.aload_n 0, 1) := by decide +kernel
theorem dX5_fillTable_102 : decode cX5_fillTable 102 = .ok (.getfield 15, 3) := by decide +kernel
theorem dX5_fillTable_105 : decode cX5_fillTable 105 = .ok (.iload_n 2, 1) := by decide +kernel
theorem dX5_fillTable_106 : decode cX5_fillTable 106 = .ok (.iaload, 1) := by decide +kernel
theorem dX5_fillTable_107 : decode cX5_fillTable 107 = .ok (.if_icmp .ge 19, 3) := by decide +kernel
theorem dX5_fillTable_110 : decode cX5_fillTable 110 = .ok (.aload_n 0, 1) := by decide +kernel
theorem dX5_fillTable_111 : decode cX5_fillTable 111 = .ok (.getfield 9, 3) := by decide +kernel
theorem dX5_fillTable_114 : decode cX5_fillTable 114 = .ok (.iload_n 2, 1) := by decide +kernel
theorem dX5_fillTable_115 : decode cX5_fillTable 115 = .ok (.iload 4, 2) := by decide +kernel
theorem dX5_fillTable_117 : decode cX5_fillTable 117 = .ok (.iastore, 1) := by decide +kernel
theorem dX5_fillTable_118 : decode cX5_fillTable 118 = .ok (.aload_n 0, 1) := by decide +kernel
theorem dX5_fillTable_119 : decode cX5_fillTable 119 = .ok (.getfield 15, 3) := by decide +kernel
theorem dX5_fillTable_122 : decode cX5_fillTable 122 = .ok (.iload_n 2, 1) := by decide +kernel
theorem dX5_fillTable_123 : decode cX5_fillTable 123 = .ok (.iload 5, 2) := by decide +kernel
theorem dX5_fillTable_125 : decode cX5_fillTable 125 = .ok (.iastore, 1) := by decide +kernel
theorem dX5_fillTable_126 : decode cX5_fillTable 126 = .ok (.iinc 3 1, 3) := by decide +kernel
theorem dX5_fillTable_129 : decode cX5_fillTable 129 = .ok (.goto (-91), 3) := by decide +kernel
theorem dX5_fillTable_132 : decode cX5_fillTable 132 = .ok (.iinc 2 1, 3) := by decide +kernel
theorem dX5_fillTable_135 : decode cX5_fillTable 135 = .ok (.goto (-119), 3) := by decide +kernel
theorem dX5_fillTable_138 : decode cX5_fillTable 138 = .ok (.return_, 1) := by decide +kernel
theorem dX5_coinsByTrial_0 : decode cX5_coinsByTrial 0 = .ok (.aload_n 0, 1) := by decide +kernel
theorem dX5_coinsByTrial_1 : decode cX5_coinsByTrial 1 = .ok (.iload_n 1, 1) := by decide +kernel
theorem dX5_coinsByTrial_2 : decode cX5_coinsByTrial 2 = .ok (.bipush 10, 2) := by decide +kernel
theorem dX5_coinsByTrial_4 : decode cX5_coinsByTrial 4 = .ok (.iconst 0, 1) := by decide +kernel
theorem dX5_coinsByTrial_5 : decode cX5_coinsByTrial 5 = .ok (.invokestatic 32, 3) := by decide +kernel
theorem dX5_coinsByTrial_8 : decode cX5_coinsByTrial 8 = .ok (.ireturn, 1) := by decide +kernel
theorem dX5_tryPieces_0 : decode cX5_tryPieces 0 = .ok (.iload_n 3, 1) := by decide +kernel
theorem dX5_tryPieces_1 : decode cX5_tryPieces 1 = .ok (.bipush 30, 2) := by decide +kernel
theorem dX5_tryPieces_3 : decode cX5_tryPieces 3 = .ok (.if_icmp .le 5, 3) := by decide +kernel
theorem dX5_tryPieces_6 : decode cX5_tryPieces 6 = .ok (.iconst 0, 1) := by decide +kernel
theorem dX5_tryPieces_7 : decode cX5_tryPieces 7 = .ok (.ireturn, 1) := by decide +kernel
theorem dX5_tryPieces_8 : decode cX5_tryPieces 8 = .ok (.iconst 0, 1) := by decide +kernel
theorem dX5_tryPieces_9 : decode cX5_tryPieces 9 = .ok (.istore 4, 2) := by decide +kernel
theorem dX5_tryPieces_11 : decode cX5_tryPieces 11 = .ok (.iconst 1, 1) := by decide +kernel
theorem dX5_tryPieces_12 : decode cX5_tryPieces 12 = .ok (.istore 5, 2) := by decide +kernel
theorem dX5_tryPieces_14 : decode cX5_tryPieces 14 = .ok (.iload 5, 2) := by decide +kernel
theorem dX5_tryPieces_16 : decode cX5_tryPieces 16 = .ok (.iload_n 2, 1) := by decide +kernel
theorem dX5_tryPieces_17 : decode cX5_tryPieces 17 = .ok (.if_icmp .gt 42, 3) := by decide +kernel
theorem dX5_tryPieces_20 : decode cX5_tryPieces 20 = .ok (.iload 5, 2) := by decide +kernel
theorem dX5_tryPieces_22 : decode cX5_tryPieces 22 = .ok (.iload_n 1, 1) := by decide +kernel
theorem dX5_tryPieces_23 : decode cX5_tryPieces 23 = .ok (.if_icmp .gt 36, 3) := by decide +kernel
theorem dX5_tryPieces_26 : decode cX5_tryPieces 26 = .ok (.iload 4, 2) := by decide +kernel
theorem dX5_tryPieces_28 : decode cX5_tryPieces 28 = .ok (.aload_n 0, 1) := by decide +kernel
theorem dX5_tryPieces_29 : decode cX5_tryPieces 29 = .ok (.iload 5, 2) := by decide +kernel
theorem dX5_tryPieces_31 : decode cX5_tryPieces 31 = .ok (.invokevirtual 26, 3) := by decide +kernel
theorem dX5_tryPieces_34 : decode cX5_tryPieces 34 = .ok (.aload_n 0, 1) := by decide +kernel
theorem dX5_tryPieces_35 : decode cX5_tryPieces 35 = .ok (.iload_n 1, 1) := by decide +kernel
theorem dX5_tryPieces_36 : decode cX5_tryPieces 36 = .ok (.iload 5, 2) := by decide +kernel
theorem dX5_tryPieces_38 : decode cX5_tryPieces 38 = .ok (.isub, 1) := by decide +kernel
theorem dX5_tryPieces_39 : decode cX5_tryPieces 39 = .ok (.iload 5, 2) := by decide +kernel
theorem dX5_tryPieces_41 : decode cX5_tryPieces 41 = .ok (.iload_n 3, 1) := by decide +kernel
theorem dX5_tryPieces_42 : decode cX5_tryPieces 42 = .ok (.iconst 1, 1) := by decide +kernel
theorem dX5_tryPieces_43 : decode cX5_tryPieces 43 = .ok (.iadd, 1) := by decide +kernel
theorem dX5_tryPieces_44 : decode cX5_tryPieces 44 = .ok (.invokestatic 32, 3) := by decide +kernel
theorem dX5_tryPieces_47 : decode cX5_tryPieces 47 = .ok (.iadd, 1) := by decide +kernel
theorem dX5_tryPieces_48 : decode cX5_tryPieces 48 = .ok (.invokestatic 36, 3) := by decide +kernel
theorem dX5_tryPieces_51 : decode cX5_tryPieces 51 = .ok (.istore 4, 2) := by decide +kernel
theorem dX5_tryPieces_53 : decode cX5_tryPieces 53 = .ok (.iinc 5 1, 3) := by decide +kernel
theorem dX5_tryPieces_56 : decode cX5_tryPieces 56 = .ok (.goto (-42), 3) := by decide +kernel
theorem dX5_tryPieces_59 : decode cX5_tryPieces 59 = .ok (.iload 4, 2) := by decide +kernel
theorem dX5_tryPieces_61 : decode cX5_tryPieces 61 = .ok (.ireturn, 1) := by decide +kernel
theorem dX6_init_0 : decode cX6_init 0 = .ok (.aload_n 0, 1) := by decide +kernel
theorem dX6_init_1 : decode cX6_init 1 = .ok (.invokespecial 3, 3) := by decide +kernel
theorem dX6_init_4 : decode cX6_init 4 = .ok (.aload_n 0, 1) := by decide +kernel
theorem dX6_init_5 : decode cX6_init 5 = .ok (.bipush 8, 2) := by decide +kernel
theorem dX6_init_7 : decode cX6_init 7 = .ok (.anewarray 9, 3) := by decide +kernel
theorem dX6_init_10 : decode cX6_init 10 = .ok (.putfield 11, 3) := by decide +kernel
theorem dX6_init_13 : decode cX6_init 13 = .ok (.iconst 0, 1) := by decide +kernel
theorem dX6_init_14 : decode cX6_init 14 = .ok (.istore_n 1, 1) := by decide +kernel
theorem dX6_init_15 : decode cX6_init 15 = .ok (.iload_n 1, 1) := by decide +kernel
theorem dX6_init_16 : decode cX6_init 16 = .ok (.bipush 8, 2) := by decide +kernel
theorem dX6_init_18 : decode cX6_init 18 = .ok (.if_icmp .ge 22, 3) := by decide +kernel
theorem dX6_init_21 : decode cX6_init 21 = .ok (.aload_n 0, 1) := by decide +kernel
theorem dX6_init_22 : decode cX6_init 22 = .ok (.getfield 11, 3) := by decide +kernel
theorem dX6_init_25 : decode cX6_init 25 = .ok (.iload_n 1, 1) := by decide +kernel
theorem dX6_init_26 : decode cX6_init 26 = .ok (.new 9, 3) := by decide +kernel
theorem dX6_init_29 : decode cX6_init 29 = .ok (.dup, 1) := by decide +kernel
theorem dX6_init_30 : decode cX6_init 30 = .ok (.invokespecial 17, 3) := by decide +kernel
theorem dX6_init_33 : decode cX6_init 33 = .ok (.aastore, 1) := by decide +kernel
theorem dX6_init_34 : decode cX6_init 34 = .ok (.iinc 1 1, 3) := by decide +kernel
theorem dX6_init_37 : decode cX6_init 37 = .ok (.goto (-22), 3) := by decide +kernel
theorem dX6_init_40 : decode cX6_init 40 = .ok (.return_, 1) := by decide +kernel
theorem dX6_remember_0 : decode cX6_remember 0 = .ok (.aload_n 0, 1) := by decide +kernel
theorem dX6_remember_1 : decode cX6_remember 1 = .ok (.aload_n 0, 1) := by decide +kernel
theorem dX6_remember_2 : decode cX6_remember 2 = .ok (.getfield 18, 3) := by decide +kernel
theorem dX6_remember_5 : decode cX6_remember 5 = .ok (.invokevirtual 22, 3) := by decide +kernel
theorem dX6_remember_8 : decode cX6_remember 8 = .ok (.astore_n 2, 1) := by decide +kernel
theorem dX6_remember_9 : decode cX6_remember 9 = .ok (.aload_n 2, 1) := by decide +kernel
theorem dX6_remember_10 : decode cX6_remember 10 = .ok (.ifnull 8, 3) := by decide +kernel
theorem dX6_remember_13 : decode cX6_remember 13 = .ok (.aload_n 2, 1) := by decide +kernel
theorem dX6_remember_14 : decode cX6_remember 14 = .ok (.aload_n 1, 1) := by decide +kernel
theorem dX6_remember_15 : decode cX6_remember 15 = .ok (.invokevirtual 26, 3) := by decide +kernel
theorem dX6_remember_18 : decode cX6_remember 18 = .ok (.aload_n 0, 1) := by decide +kernel
theorem dX6_remember_19 : decode cX6_remember 19 = .ok (.aload_n 0, 1) := by decide +kernel
theorem dX6_remember_20 : decode cX6_remember 20 = .ok (.getfield 18, 3) := by decide +kernel
theorem dX6_remember_23 : decode cX6_remember 23 = .ok (.iconst 1, 1) := by decide +kernel
theorem dX6_remember_24 : decode cX6_remember 24 = .ok (.iadd, 1) := by decide +kernel
theorem dX6_remember_25 : decode cX6_remember 25 = .ok (.bipush 8, 2) := by decide +kernel
theorem dX6_remember_27 : decode cX6_remember 27 = .ok (.if_icmp .ge 12, 3) := by decide +kernel
theorem dX6_remember_30 : decode cX6_remember 30 = .ok (.aload_n 0, 1) := by decide +kernel
theorem dX6_remember_31 : decode cX6_remember 31 = .ok (.getfield 18, 3) := by decide +kernel
theorem dX6_remember_34 : decode cX6_remember 34 = .ok (.iconst 1, 1) := by decide +kernel
theorem dX6_remember_35 : decode cX6_remember 35 = .ok (.iadd, 1) := by decide +kernel
theorem dX6_remember_36 : decode cX6_remember 36 = .ok (.goto 4, 3) := by decide +kernel
theorem dX6_remember_39 : decode cX6_remember 39 = .ok (.iconst 0, 1) := by decide +kernel
theorem dX6_remember_40 : decode cX6_remember 40 = .ok (.putfield 18, 3) := by decide +kernel
theorem dX6_remember_43 : decode cX6_remember 43 = .ok (.aload_n 0, 1) := by decide +kernel
theorem dX6_remember_44 : decode cX6_remember 44 = .ok (.aload_n 0, 1) := by decide +kernel
theorem dX6_remember_45 : decode cX6_remember 45 = .ok (.getfield 30, 3) := by decide +kernel
theorem dX6_remember_48 : decode cX6_remember 48 = .ok (.iconst 1, 1) := by decide +kernel
theorem dX6_remember_49 : decode cX6_remember 49 = .ok (.iadd, 1) := by decide +kernel
theorem dX6_remember_50 : decode cX6_remember 50 = .ok (.bipush 8, 2) := by decide +kernel
theorem dX6_remember_52 : decode cX6_remember 52 = .ok (.invokestatic 33, 3) := by decide +kernel
theorem dX6_remember_55 : decode cX6_remember 55 = .ok (.putfield 30, 3) := by decide +kernel
theorem dX6_remember_58 : decode cX6_remember 58 = .ok (.return_, 1) := by decide +kernel
theorem dX6_takeBack_0 : decode cX6_takeBack 0 = .ok (.aload_n 0, 1) := by decide +kernel
theorem dX6_takeBack_1 : decode cX6_takeBack 1 = .ok (.getfield 30, 3) := by decide +kernel
theorem dX6_takeBack_4 : decode cX6_takeBack 4 = .ok (.ifCond .le 53, 3) := by decide +kernel
theorem dX6_takeBack_7 : decode cX6_takeBack 7 = .ok (.aload_n 0, 1) := by decide +kernel
theorem dX6_takeBack_8 : decode cX6_takeBack 8 = .ok (.aload_n 0, 1) := by decide +kernel
theorem dX6_takeBack_9 : decode cX6_takeBack 9 = .ok (.getfield 18, 3) := by decide +kernel
theorem dX6_takeBack_12 : decode cX6_takeBack 12 = .ok (.ifCond .le 12, 3) := by decide +kernel
theorem dX6_takeBack_15 : decode cX6_takeBack 15 = .ok (.aload_n 0, 1) := by decide +kernel
theorem dX6_takeBack_16 : decode cX6_takeBack 16 = .ok (.getfield 18, 3) := by decide +kernel
theorem dX6_takeBack_19 : decode cX6_takeBack 19 = .ok (.iconst 1, 1) := by decide +kernel
theorem dX6_takeBack_20 : decode cX6_takeBack 20 = .ok (.isub, 1) := by decide +kernel
theorem dX6_takeBack_21 : decode cX6_takeBack 21 = .ok (.goto 5, 3) := by decide +kernel
theorem dX6_takeBack_24 : decode cX6_takeBack 24 = .ok (.bipush 7, 2) := by decide +kernel
theorem dX6_takeBack_26 : decode cX6_takeBack 26 = .ok (.putfield 18, 3) := by decide +kernel
theorem dX6_takeBack_29 : decode cX6_takeBack 29 = .ok (.aload_n 0, 1) := by decide +kernel
theorem dX6_takeBack_30 : decode cX6_takeBack 30 = .ok (.dup, 1) := by decide +kernel
theorem dX6_takeBack_31 : decode cX6_takeBack 31 = .ok (.getfield 30, 3) := by decide +kernel
theorem dX6_takeBack_34 : decode cX6_takeBack 34 = .ok (.iconst 1, 1) := by decide +kernel
theorem dX6_takeBack_35 : decode cX6_takeBack 35 = .ok (.isub, 1) := by decide +kernel
theorem dX6_takeBack_36 : decode cX6_takeBack 36 = .ok (.putfield 30, 3) := by decide +kernel
theorem dX6_takeBack_39 : decode cX6_takeBack 39 = .ok (.aload_n 0, 1) := by decide +kernel
theorem dX6_takeBack_40 : decode cX6_takeBack 40 = .ok (.aload_n 0, 1) := by decide +kernel
theorem dX6_takeBack_41 : decode cX6_takeBack 41 = .ok (.getfield 18, 3) := by decide +kernel
theorem dX6_takeBack_44 : decode cX6_takeBack 44 = .ok (.invokevirtual 22, 3) := by decide +kernel
theorem dX6_takeBack_47 : decode cX6_takeBack 47 = .ok (.astore_n 2, 1) := by decide +kernel
theorem dX6_takeBack_48 : decode cX6_takeBack 48 = .ok (.aload_n 2, 1) := by decide +kernel
theorem dX6_takeBack_49 : decode cX6_takeBack 49 = .ok (.ifnull 8, 3) := by decide +kernel
theorem dX6_takeBack_52 : decode cX6_takeBack 52 = .ok (.aload_n 1, 1) := by decide +kernel
theorem dX6_takeBack_53 : decode cX6_takeBack 53 = .ok (.aload_n 2, 1) := by decide +kernel
theorem dX6_takeBack_54 : decode cX6_takeBack 54 = .ok (.invokevirtual 26, 3) := by decide +kernel
theorem dX6_takeBack_57 : decode cX6_takeBack 57 = .ok (.aload_n 0, 1) := by decide +kernel
theorem dX6_takeBack_58 : decode cX6_takeBack 58 = .ok (.getfield 30, 3) := by decide +kernel
theorem dX6_takeBack_61 : decode cX6_takeBack 61 = .ok (.ireturn, 1) := by decide +kernel
theorem dX6_forget_0 : decode cX6_forget 0 = .ok (.aload_n 0, 1) := by decide +kernel
theorem dX6_forget_1 : decode cX6_forget 1 = .ok (.iconst 0, 1) := by decide +kernel
theorem dX6_forget_2 : decode cX6_forget 2 = .ok (.putfield 30, 3) := by decide +kernel
theorem dX6_forget_5 : decode cX6_forget 5 = .ok (.return_, 1) := by decide +kernel
theorem dX6_placeAt_0 : decode cX6_placeAt 0 = .ok (.iload_n 1, 1) := by decide +kernel
theorem dX6_placeAt_1 : decode cX6_placeAt 1 = .ok (.iconst 0, 1) := by decide +kernel
theorem dX6_placeAt_2 : decode cX6_placeAt 2 = .ok (.bipush 7, 2) := by decide +kernel
theorem dX6_placeAt_4 : decode cX6_placeAt 4 = .ok (.invokestatic 39, 3) := by decide +kernel
theorem dX6_placeAt_7 : decode cX6_placeAt 7 = .ok (.ifCond .eq 12, 3) := by decide +kernel
theorem dX6_placeAt_10 : decode cX6_placeAt 10 = .ok (.aload_n 0, 1) := by decide +kernel
theorem dX6_placeAt_11 : decode cX6_placeAt 11 = .ok (.getfield 11, 3) := by decide +kernel
theorem dX6_placeAt_14 : decode cX6_placeAt 14 = .ok (.iload_n 1, 1) := by decide +kernel
theorem dX6_placeAt_15 : decode cX6_placeAt 15 = .ok (.aaload, 1) := by decide +kernel
theorem dX6_placeAt_16 : decode cX6_placeAt 16 = .ok (.goto 4, 3) := by decide +kernel
theorem dX6_placeAt_19 : decode cX6_placeAt 19 = .ok (.aconst_null, 1) := by decide +kernel
theorem dX6_placeAt_20 : decode cX6_placeAt 20 = .ok (.areturn, 1) := by decide +kernel
theorem dX7_init_0 : decode cX7_init 0 = .ok (.aload_n 0, 1) := by decide +kernel
theorem dX7_init_1 : decode cX7_init 1 = .ok (.invokespecial 3, 3) := by decide +kernel
theorem dX7_init_4 : decode cX7_init 4 = .ok (.aload_n 0, 1) := by decide +kernel
theorem dX7_init_5 : decode cX7_init 5 = .ok (.bipush 7, 2) := by decide +kernel
theorem dX7_init_7 : decode cX7_init 7 = .ok (.newarray .char, 2) := by decide +kernel
theorem dX7_init_9 : decode cX7_init 9 = .ok (.putfield 11, 3) := by decide +kernel
theorem dX7_init_12 : decode cX7_init 12 = .ok (.return_, 1) := by decide +kernel
theorem dX7_showRow_0 : decode cX7_showRow 0 = .ok (.aload_n 0, 1) := by decide +kernel
theorem dX7_showRow_1 : decode cX7_showRow 1 = .ok (.iconst 0, 1) := by decide +kernel
theorem dX7_showRow_2 : decode cX7_showRow 2 = .ok (.putfield 15, 3) := by decide +kernel
theorem dX7_showRow_5 : decode cX7_showRow 5 = .ok (.iconst 0, 1) := by decide +kernel
theorem dX7_showRow_6 : decode cX7_showRow 6 = .ok (.istore_n 3, 1) := by decide +kernel
theorem dX7_showRow_7 : decode cX7_showRow 7 = .ok (.iload_n 3, 1) := by decide +kernel
theorem dX7_showRow_8 : decode cX7_showRow 8 = .ok (.bipush 6, 2) := by decide +kernel
theorem dX7_showRow_10 : decode cX7_showRow 10 = .ok (.if_icmp .ge 22, 3) := by decide +kernel
theorem dX7_showRow_13 : decode cX7_showRow 13 = .ok (.aload_n 0, 1) := by decide +kernel
theorem dX7_showRow_14 : decode cX7_showRow 14 = .ok (.aload_n 1, 1) := by decide +kernel
theorem dX7_showRow_15 : decode cX7_showRow 15 = .ok (.iload_n 2, 1) := by decide +kernel
theorem dX7_showRow_16 : decode cX7_showRow 16 = .ok (.iload_n 3, 1) := by decide +kernel
theorem dX7_showRow_17 : decode cX7_showRow 17 = .ok (.invokestatic 19, 3) := by decide +kernel
theorem dX7_showRow_20 : decode cX7_showRow 20 = .ok (.invokestatic 23, 3) := by decide +kernel
theorem dX7_showRow_23 : decode cX7_showRow 23 = .ok (.invokevirtual 27, 3) := by decide +kernel
theorem dX7_showRow_26 : decode cX7_showRow 26 = .ok (.iinc 3 1, 3) := by decide +kernel
theorem dX7_showRow_29 : decode cX7_showRow 29 = .ok (.goto (-22), 3) := by decide +kernel
theorem dX7_showRow_32 : decode cX7_showRow 32 = .ok (.aload_n 0, 1) := by decide +kernel
theorem dX7_showRow_33 : decode cX7_showRow 33 = .ok (.getfield 15, 3) := by decide +kernel
theorem dX7_showRow_36 : decode cX7_showRow 36 = .ok (.ireturn, 1) := by decide +kernel
theorem dX7_showCharge_0 : decode cX7_showCharge 0 = .ok (.aload_n 1, 1) := by decide +kernel
theorem dX7_showCharge_1 : decode cX7_showCharge 1 = .ok (.iload_n 2, 1) := by decide +kernel
theorem dX7_showCharge_2 : decode cX7_showCharge 2 = .ok (.invokevirtual 31, 3) := by decide +kernel
theorem dX7_showCharge_5 : decode cX7_showCharge 5 = .ok (.istore_n 3, 1) := by decide +kernel
theorem dX7_showCharge_6 : decode cX7_showCharge 6 = .ok (.aload_n 0, 1) := by decide +kernel
theorem dX7_showCharge_7 : decode cX7_showCharge 7 = .ok (.iconst 0, 1) := by decide +kernel
theorem dX7_showCharge_8 : decode cX7_showCharge 8 = .ok (.putfield 15, 3) := by decide +kernel
theorem dX7_showCharge_11 : decode cX7_showCharge 11 = .ok (.aload_n 0, 1) := by decide +kernel
theorem dX7_showCharge_12 : decode cX7_showCharge 12 = .ok (.iload_n 2, 1) := by decide +kernel
theorem dX7_showCharge_13 : decode cX7_showCharge 13 = .ok (.invokestatic 37, 3) := by decide +kernel
theorem dX7_showCharge_16 : decode cX7_showCharge 16 = .ok (.invokevirtual 27, 3) := by decide +kernel
theorem dX7_showCharge_19 : decode cX7_showCharge 19 = .ok (.aload_n 0, 1) := by decide +kernel
theorem dX7_showCharge_20 : decode cX7_showCharge 20 = .ok (.bipush 64, 2) := by decide +kernel
theorem dX7_showCharge_22 : decode cX7_showCharge 22 = .ok (.invokevirtual 27, 3) := by decide +kernel
theorem dX7_showCharge_25 : decode cX7_showCharge 25 = .ok (.aload_n 0, 1) := by decide +kernel
theorem dX7_showCharge_26 : decode cX7_showCharge 26 = .ok (.iload_n 3, 1) := by decide +kernel
theorem dX7_showCharge_27 : decode cX7_showCharge 27 = .ok (.bipush 6, 2) := by decide +kernel
theorem dX7_showCharge_29 : decode cX7_showCharge 29 = .ok (.idiv, 1) := by decide +kernel
theorem dX7_showCharge_30 : decode cX7_showCharge 30 = .ok (.invokestatic 37, 3) := by decide +kernel
theorem dX7_showCharge_33 : decode cX7_showCharge 33 = .ok (.invokevirtual 27, 3) := by decide +kernel
theorem dX7_showCharge_36 : decode cX7_showCharge 36 = .ok (.aload_n 0, 1) := by decide +kernel
theorem dX7_showCharge_37 : decode cX7_showCharge 37 = .ok (.bipush 44, 2) := by decide +kernel
theorem dX7_showCharge_39 : decode cX7_showCharge 39 = .ok (.invokevirtual 27, 3) := by decide +kernel
theorem dX7_showCharge_42 : decode cX7_showCharge 42 = .ok (.aload_n 0, 1) := by decide +kernel
theorem dX7_showCharge_43 : decode cX7_showCharge 43 = .ok (.iload_n 3, 1) := by decide +kernel
theorem dX7_showCharge_44 : decode cX7_showCharge 44 = .ok (.bipush 6, 2) := by decide +kernel
theorem dX7_showCharge_46 : decode cX7_showCharge 46 = .ok (.irem, 1) := by decide +kernel
theorem dX7_showCharge_47 : decode cX7_showCharge 47 = .ok (.invokestatic 37, 3) := by decide +kernel
theorem dX7_showCharge_50 : decode cX7_showCharge 50 = .ok (.invokevirtual 27, 3) := by decide +kernel
theorem dX7_showCharge_53 : decode cX7_showCharge 53 = .ok (.aload_n 0, 1) := by decide +kernel
theorem dX7_showCharge_54 : decode cX7_showCharge 54 = .ok (.bipush 58, 2) := by decide +kernel
theorem dX7_showCharge_56 : decode cX7_showCharge 56 = .ok (.invokevirtual 27, 3) := by decide +kernel
theorem dX7_showCharge_59 : decode cX7_showCharge 59 = .ok (.aload_n 0, 1) := by decide +kernel
theorem dX7_showCharge_60 : decode cX7_showCharge 60 = .ok (.aload_n 1, 1) := by decide +kernel
theorem dX7_showCharge_61 : decode cX7_showCharge 61 = .ok (.iload_n 2, 1) := by decide +kernel
theorem dX7_showCharge_62 : decode cX7_showCharge 62 = .ok (.invokevirtual 41, 3) := by decide +kernel
theorem dX7_showCharge_65 : decode cX7_showCharge 65 = .ok (.invokestatic 37, 3) := by decide +kernel
theorem dX7_showCharge_68 : decode cX7_showCharge 68 = .ok (.invokevirtual 27, 3) := by decide +kernel
theorem dX7_showCharge_71 : decode cX7_showCharge 71 = .ok (.aload_n 0, 1) := by decide +kernel
theorem dX7_showCharge_72 : decode cX7_showCharge 72 = .ok (.getfield 15, 3) := by decide +kernel
theorem dX7_showCharge_75 : decode cX7_showCharge 75 = .ok (.ireturn, 1) := by decide +kernel
theorem dX7_hasSign_0 : decode cX7_hasSign 0 = .ok (.iload_n 1, 1) := by decide +kernel
theorem dX7_hasSign_1 : decode cX7_hasSign 1 = .ok (.ifCond .lt 21, 3) := by decide +kernel
theorem dX7_hasSign_4 : decode cX7_hasSign 4 = .ok (.iload_n 1, 1) := by decide +kernel
theorem dX7_hasSign_5 : decode cX7_hasSign 5 = .ok (.aload_n 0, 1) := by decide +kernel
theorem dX7_hasSign_6 : decode cX7_hasSign 6 = .ok (.getfield 15, 3) := by decide +kernel
theorem dX7_hasSign_9 : decode cX7_hasSign 9 = .ok (.if_icmp .ge 13, 3) := by decide +kernel
theorem dX7_hasSign_12 : decode cX7_hasSign 12 = .ok (.iload_n 1, 1) := by decide +kernel
theorem dX7_hasSign_13 : decode cX7_hasSign 13 = .ok (.bipush 7, 2) := by decide +kernel
theorem dX7_hasSign_15 : decode cX7_hasSign 15 = .ok (.if_icmp .ge 7, 3) := by decide +kernel
theorem dX7_hasSign_18 : decode cX7_hasSign 18 = .ok (.iconst 1, 1) := by decide +kernel
theorem dX7_hasSign_19 : decode cX7_hasSign 19 = .ok (.goto 4, 3) := by decide +kernel
theorem dX7_hasSign_22 : decode cX7_hasSign 22 = .ok (.iconst 0, 1) := by decide +kernel
theorem dX7_hasSign_23 : decode cX7_hasSign 23 = .ok (.ireturn, 1) := by decide +kernel
theorem dX7_signAt_0 : decode cX7_signAt 0 = .ok (.aload_n 0, 1) := by decide +kernel
theorem dX7_signAt_1 : decode cX7_signAt 1 = .ok (.iload_n 1, 1) := by decide +kernel
theorem dX7_signAt_2 : decode cX7_signAt 2 = .ok (.invokevirtual 44, 3) := by decide +kernel
theorem dX7_signAt_5 : decode cX7_signAt 5 = .ok (.ifCond .eq 12, 3) := by decide +kernel
theorem dX7_signAt_8 : decode cX7_signAt 8 = .ok (.aload_n 0, 1) := by decide +kernel
theorem dX7_signAt_9 : decode cX7_signAt 9 = .ok (.getfield 11, 3) := by decide +kernel
theorem dX7_signAt_12 : decode cX7_signAt 12 = .ok (.iload_n 1, 1) := by decide +kernel
theorem dX7_signAt_13 : decode cX7_signAt 13 = .ok (.caload, 1) := by decide +kernel
theorem dX7_signAt_14 : decode cX7_signAt 14 = .ok (.goto 5, 3) := by decide +kernel
theorem dX7_signAt_17 : decode cX7_signAt 17 = .ok (.bipush 32, 2) := by decide +kernel
theorem dX7_signAt_19 : decode cX7_signAt 19 = .ok (.ireturn, 1) := by decide +kernel
theorem dX7_put_0 : decode cX7_put 0 = .ok (.aload_n 0, 1) := by decide +kernel
theorem dX7_put_1 : decode cX7_put 1 = .ok (.getfield 15, 3) := by decide +kernel
theorem dX7_put_4 : decode cX7_put 4 = .ok (.iconst 0, 1) := by decide +kernel
theorem dX7_put_5 : decode cX7_put 5 = .ok (.bipush 6, 2) := by decide +kernel
theorem dX7_put_7 : decode cX7_put 7 = .ok (.invokestatic 48, 3) := by decide +kernel
theorem dX7_put_10 : decode cX7_put 10 = .ok (.ifCond .eq 23, 3) := by decide +kernel
theorem dX7_put_13 : decode cX7_put 13 = .ok (.aload_n 0, 1) := by decide +kernel
theorem dX7_put_14 : decode cX7_put 14 = .ok (.getfield 11, 3) := by decide +kernel
theorem dX7_put_17 : decode cX7_put 17 = .ok (.aload_n 0, 1) := by decide +kernel
theorem dX7_put_18 : decode cX7_put 18 = .ok (.getfield 15, 3) := by decide +kernel
theorem dX7_put_21 : decode cX7_put 21 = .ok (.iload_n 1, 1) := by decide +kernel
theorem dX7_put_22 : decode cX7_put 22 = .ok (.castore, 1) := by decide +kernel
theorem dX7_put_23 : decode cX7_put 23 = .ok (.aload_n 0, 1) := by decide +kernel
theorem dX7_put_24 : decode cX7_put 24 = .ok (.dup, 1) := by decide +kernel
theorem dX7_put_25 : decode cX7_put 25 = .ok (.getfield 15, 3) := by decide +kernel
theorem dX7_put_28 : decode cX7_put 28 = .ok (.iconst 1, 1) := by decide +kernel
theorem dX7_put_29 : decode cX7_put 29 = .ok (.iadd, 1) := by decide +kernel
theorem dX7_put_30 : decode cX7_put 30 = .ok (.putfield 15, 3) := by decide +kernel
theorem dX7_put_33 : decode cX7_put 33 = .ok (.return_, 1) := by decide +kernel
theorem dX7_signOf_0 : decode cX7_signOf 0 = .ok (.aload_n 0, 1) := by decide +kernel
theorem dX7_signOf_1 : decode cX7_signOf 1 = .ok (.iload_n 1, 1) := by decide +kernel
theorem dX7_signOf_2 : decode cX7_signOf 2 = .ok (.invokevirtual 52, 3) := by decide +kernel
theorem dX7_signOf_5 : decode cX7_signOf 5 = .ok (.ifCond .eq 6, 3) := by decide +kernel
theorem dX7_signOf_8 : decode cX7_signOf 8 = .ok (.bipush 42, 2) := by decide +kernel
theorem dX7_signOf_10 : decode cX7_signOf 10 = .ok (.ireturn, 1) := by decide +kernel
theorem dX7_signOf_11 : decode cX7_signOf 11 = .ok (.aload_n 0, 1) := by decide +kernel
theorem dX7_signOf_12 : decode cX7_signOf 12 = .ok (.iload_n 1, 1) := by decide +kernel
theorem dX7_signOf_13 : decode cX7_signOf 13 = .ok (.invokevirtual 55, 3) := by decide +kernel
theorem dX7_signOf_16 : decode cX7_signOf 16 = .ok (.ifCond .eq 8, 3) := by decide +kernel
theorem dX7_signOf_19 : decode cX7_signOf 19 = .ok (.bipush 46, 2) := by decide +kernel
theorem dX7_signOf_21 : decode cX7_signOf 21 = .ok (.goto 11, 3) := by decide +kernel
theorem dX7_signOf_24 : decode cX7_signOf 24 = .ok (.aload_n 0, 1) := by decide +kernel
theorem dX7_signOf_25 : decode cX7_signOf 25 = .ok (.iload_n 1, 1) := by decide +kernel
theorem dX7_signOf_26 : decode cX7_signOf 26 = .ok (.invokevirtual 58, 3) := by decide +kernel
theorem dX7_signOf_29 : decode cX7_signOf 29 = .ok (.invokestatic 37, 3) := by decide +kernel
theorem dX7_signOf_32 : decode cX7_signOf 32 = .ok (.ireturn, 1) := by decide +kernel
theorem dX7_digit_0 : decode cX7_digit 0 = .ok (.bipush 48, 2) := by decide +kernel
theorem dX7_digit_2 : decode cX7_digit 2 = .ok (.iload_n 0, 1) := by decide +kernel
theorem dX7_digit_3 : decode cX7_digit 3 = .ok (.iadd, 1) := by decide +kernel
theorem dX7_digit_4 : decode cX7_digit 4 = .ok (.i2c, 1) := by decide +kernel
theorem dX7_digit_5 : decode cX7_digit 5 = .ok (.ireturn, 1) := by decide +kernel
theorem dX8_init_0 : decode cX8_init 0 = .ok (.aload_n 0, 1) := by decide +kernel
theorem dX8_init_1 : decode cX8_init 1 = .ok (.invokespecial 3, 3) := by decide +kernel
theorem dX8_init_4 : decode cX8_init 4 = .ok (.aload_n 0, 1) := by decide +kernel
theorem dX8_init_5 : decode cX8_init 5 = .ok (.bipush 36, 2) := by decide +kernel
theorem dX8_init_7 : decode cX8_init 7 = .ok (.newarray .int, 2) := by decide +kernel
theorem dX8_init_9 : decode cX8_init 9 = .ok (.putfield 9, 3) := by decide +kernel
theorem dX8_init_12 : decode cX8_init 12 = .ok (.aload_n 0, 1) := by decide +kernel
theorem dX8_init_13 : decode cX8_init 13 = .ok (.bipush 6, 2) := by decide +kernel
theorem dX8_init_15 : decode cX8_init 15 = .ok (.newarray .int, 2) := by decide +kernel
theorem dX8_init_17 : decode cX8_init 17 = .ok (.putfield 15, 3) := by decide +kernel
theorem dX8_init_20 : decode cX8_init 20 = .ok (.aload_n 0, 1) := by decide +kernel
theorem dX8_init_21 : decode cX8_init 21 = .ok (.bipush 6, 2) := by decide +kernel
theorem dX8_init_23 : decode cX8_init 23 = .ok (.newarray .int, 2) := by decide +kernel
theorem dX8_init_25 : decode cX8_init 25 = .ok (.putfield 18, 3) := by decide +kernel
theorem dX8_init_28 : decode cX8_init 28 = .ok (.aload_n 0, 1) := by decide +kernel
theorem dX8_init_29 : decode cX8_init 29 = .ok (.bipush 11, 2) := by decide +kernel
theorem dX8_init_31 : decode cX8_init 31 = .ok (.newarray .int, 2) := by decide +kernel
theorem dX8_init_33 : decode cX8_init 33 = .ok (.putfield 21, 3) := by decide +kernel
theorem dX8_init_36 : decode cX8_init 36 = .ok (.aload_n 0, 1) := by decide +kernel
theorem dX8_init_37 : decode cX8_init 37 = .ok (.getfield 9, 3) := by decide +kernel
theorem dX8_init_40 : decode cX8_init 40 = .ok (.iconst 5, 1) := by decide +kernel
theorem dX8_init_41 : decode cX8_init 41 = .ok (.invokestatic 24, 3) := by decide +kernel
theorem dX8_init_44 : decode cX8_init 44 = .ok (.return_, 1) := by decide +kernel
theorem dX8_copyFrom_0 : decode cX8_copyFrom 0 = .ok (.aload_n 1, 1) := by decide +kernel
theorem dX8_copyFrom_1 : decode cX8_copyFrom 1 = .ok (.getfield 9, 3) := by decide +kernel
theorem dX8_copyFrom_4 : decode cX8_copyFrom 4 = .ok (.iconst 0, 1) := by decide +kernel
theorem dX8_copyFrom_5 : decode cX8_copyFrom 5 = .ok (.aload_n 0, 1) := by decide +kernel
theorem dX8_copyFrom_6 : decode cX8_copyFrom 6 = .ok (.getfield 9, 3) := by decide +kernel
theorem dX8_copyFrom_9 : decode cX8_copyFrom 9 = .ok (.iconst 0, 1) := by decide +kernel
theorem dX8_copyFrom_10 : decode cX8_copyFrom 10 = .ok (.bipush 36, 2) := by decide +kernel
theorem dX8_copyFrom_12 : decode cX8_copyFrom 12 = .ok (.invokestatic 30, 3) := by decide +kernel
theorem dX8_copyFrom_15 : decode cX8_copyFrom 15 = .ok (.aload_n 1, 1) := by decide +kernel
theorem dX8_copyFrom_16 : decode cX8_copyFrom 16 = .ok (.getfield 15, 3) := by decide +kernel
theorem dX8_copyFrom_19 : decode cX8_copyFrom 19 = .ok (.iconst 0, 1) := by decide +kernel
theorem dX8_copyFrom_20 : decode cX8_copyFrom 20 = .ok (.aload_n 0, 1) := by decide +kernel
theorem dX8_copyFrom_21 : decode cX8_copyFrom 21 = .ok (.getfield 15, 3) := by decide +kernel
theorem dX8_copyFrom_24 : decode cX8_copyFrom 24 = .ok (.iconst 0, 1) := by decide +kernel
theorem dX8_copyFrom_25 : decode cX8_copyFrom 25 = .ok (.bipush 6, 2) := by decide +kernel
theorem dX8_copyFrom_27 : decode cX8_copyFrom 27 = .ok (.invokestatic 30, 3) := by decide +kernel
theorem dX8_copyFrom_30 : decode cX8_copyFrom 30 = .ok (.aload_n 1, 1) := by decide +kernel
theorem dX8_copyFrom_31 : decode cX8_copyFrom 31 = .ok (.getfield 18, 3) := by decide +kernel
theorem dX8_copyFrom_34 : decode cX8_copyFrom 34 = .ok (.iconst 0, 1) := by decide +kernel
theorem dX8_copyFrom_35 : decode cX8_copyFrom 35 = .ok (.aload_n 0, 1) := by decide +kernel
theorem dX8_copyFrom_36 : decode cX8_copyFrom 36 = .ok (.getfield 18, 3) := by decide +kernel
theorem dX8_copyFrom_39 : decode cX8_copyFrom 39 = .ok (.iconst 0, 1) := by decide +kernel
theorem dX8_copyFrom_40 : decode cX8_copyFrom 40 = .ok (.bipush 6, 2) := by decide +kernel
theorem dX8_copyFrom_42 : decode cX8_copyFrom 42 = .ok (.invokestatic 30, 3) := by decide +kernel
theorem dX8_copyFrom_45 : decode cX8_copyFrom 45 = .ok (.aload_n 1, 1) := by decide +kernel
theorem dX8_copyFrom_46 : decode cX8_copyFrom 46 = .ok (.getfield 21, 3) := by decide +kernel
theorem dX8_copyFrom_49 : decode cX8_copyFrom 49 = .ok (.iconst 0, 1) := by decide +kernel
theorem dX8_copyFrom_50 : decode cX8_copyFrom 50 = .ok (.aload_n 0, 1) := by decide +kernel
theorem dX8_copyFrom_51 : decode cX8_copyFrom 51 = .ok (.getfield 21, 3) := by decide +kernel
theorem dX8_copyFrom_54 : decode cX8_copyFrom 54 = .ok (.iconst 0, 1) := by decide +kernel
theorem dX8_copyFrom_55 : decode cX8_copyFrom 55 = .ok (.bipush 11, 2) := by decide +kernel
theorem dX8_copyFrom_57 : decode cX8_copyFrom 57 = .ok (.invokestatic 30, 3) := by decide +kernel
theorem dX8_copyFrom_60 : decode cX8_copyFrom 60 = .ok (.aload_n 0, 1) := by decide +kernel
theorem dX8_copyFrom_61 : decode cX8_copyFrom 61 = .ok (.aload_n 1, 1) := by decide +kernel
theorem dX8_copyFrom_62 : decode cX8_copyFrom 62 = .ok (.getfield 36, 3) := by decide +kernel
theorem dX8_copyFrom_65 : decode cX8_copyFrom 65 = .ok (.putfield 36, 3) := by decide +kernel
theorem dX8_copyFrom_68 : decode cX8_copyFrom 68 = .ok (.aload_n 0, 1) := by decide +kernel
theorem dX8_copyFrom_69 : decode cX8_copyFrom 69 = .ok (.aload_n 1, 1) := by decide +kernel
theorem dX8_copyFrom_70 : decode cX8_copyFrom 70 = .ok (.getfield 40, 3) := by decide +kernel
theorem dX8_copyFrom_73 : decode cX8_copyFrom 73 = .ok (.putfield 40, 3) := by decide +kernel
theorem dX8_copyFrom_76 : decode cX8_copyFrom 76 = .ok (.aload_n 0, 1) := by decide +kernel
theorem dX8_copyFrom_77 : decode cX8_copyFrom 77 = .ok (.aload_n 1, 1) := by decide +kernel
theorem dX8_copyFrom_78 : decode cX8_copyFrom 78 = .ok (.getfield 43, 3) := by decide +kernel
theorem dX8_copyFrom_81 : decode cX8_copyFrom 81 = .ok (.putfield 43, 3) := by decide +kernel
theorem dX8_copyFrom_84 : decode cX8_copyFrom 84 = .ok (.aload_n 0, 1) := by decide +kernel
theorem dX8_copyFrom_85 : decode cX8_copyFrom 85 = .ok (.aload_n 1, 1) := by decide +kernel
theorem dX8_copyFrom_86 : decode cX8_copyFrom 86 = .ok (.getfield 46, 3) := by decide +kernel
theorem dX8_copyFrom_89 : decode cX8_copyFrom 89 = .ok (.putfield 46, 3) := by decide +kernel
theorem dX8_copyFrom_92 : decode cX8_copyFrom 92 = .ok (.aload_n 0, 1) := by decide +kernel
theorem dX8_copyFrom_93 : decode cX8_copyFrom 93 = .ok (.aload_n 1, 1) := by decide +kernel
theorem dX8_copyFrom_94 : decode cX8_copyFrom 94 = .ok (.getfield 49, 3) := by decide +kernel
theorem dX8_copyFrom_97 : decode cX8_copyFrom 97 = .ok (.putfield 49, 3) := by decide +kernel
theorem dX8_copyFrom_100 : decode cX8_copyFrom 100 = .ok (.return_, 1) := by decide +kernel
theorem dX8_hardnessAt_0 : decode cX8_hardnessAt 0 = .ok (.iload_n 1, 1) := by decide +kernel
theorem dX8_hardnessAt_1 : decode cX8_hardnessAt 1 = .ok (.invokestatic 53, 3) := by decide +kernel
theorem dX8_hardnessAt_4 : decode cX8_hardnessAt 4 = .ok (.ifCond .eq 12, 3) := by decide +kernel
theorem dX8_hardnessAt_7 : decode cX8_hardnessAt 7 = .ok (.aload_n 0, 1) := by decide +kernel
theorem dX8_hardnessAt_8 : decode cX8_hardnessAt 8 = .ok (.getfield 9, 3) := by decide +kernel
theorem dX8_hardnessAt_11 : decode cX8_hardnessAt 11 = .ok (.iload_n 1, 1) := by decide +kernel
theorem dX8_hardnessAt_12 : decode cX8_hardnessAt 12 = .ok (.iaload, 1) := by decide +kernel
theorem dX8_hardnessAt_13 : decode cX8_hardnessAt 13 = .ok (.goto 4, 3) := by decide +kernel
theorem dX8_hardnessAt_16 : decode cX8_hardnessAt 16 = .ok (.iconst 0, 1) := by decide +kernel
theorem dX8_hardnessAt_17 : decode cX8_hardnessAt 17 = .ok (.ireturn, 1) := by decide +kernel
theorem dX8_openAt_0 : decode cX8_openAt 0 = .ok (.iload_n 1, 1) := by decide +kernel
theorem dX8_openAt_1 : decode cX8_openAt 1 = .ok (.invokestatic 53, 3) := by decide +kernel
theorem dX8_openAt_4 : decode cX8_openAt 4 = .ok (.ifCond .eq 16, 3) := by decide +kernel
theorem dX8_openAt_7 : decode cX8_openAt 7 = .ok (.aload_n 0, 1) := by decide +kernel
theorem dX8_openAt_8 : decode cX8_openAt 8 = .ok (.getfield 9, 3) := by decide +kernel
theorem dX8_openAt_11 : decode cX8_openAt 11 = .ok (.iload_n 1, 1) := by decide +kernel
theorem dX8_openAt_12 : decode cX8_openAt 12 = .ok (.iaload, 1) := by decide +kernel
theorem dX8_openAt_13 : decode cX8_openAt 13 = .ok (.ifCond .ne 7, 3) := by decide +kernel
theorem dX8_openAt_16 : decode cX8_openAt 16 = .ok (.iconst 1, 1) := by decide +kernel
theorem dX8_openAt_17 : decode cX8_openAt 17 = .ok (.goto 4, 3) := by decide +kernel
theorem dX8_openAt_20 : decode cX8_openAt 20 = .ok (.iconst 0, 1) := by decide +kernel
theorem dX8_openAt_21 : decode cX8_openAt 21 = .ok (.ireturn, 1) := by decide +kernel
theorem dX8_breaksAt_0 : decode cX8_breaksAt 0 = .ok (.iload_n 1, 1) := by decide +kernel
theorem dX8_breaksAt_1 : decode cX8_breaksAt 1 = .ok (.invokestatic 53, 3) := by decide +kernel
theorem dX8_breaksAt_4 : decode cX8_breaksAt 4 = .ok (.ifCond .eq 26, 3) := by decide +kernel
theorem dX8_breaksAt_7 : decode cX8_breaksAt 7 = .ok (.aload_n 0, 1) := by decide +kernel
theorem dX8_breaksAt_8 : decode cX8_breaksAt 8 = .ok (.getfield 9, 3) := by decide +kernel
theorem dX8_breaksAt_11 : decode cX8_breaksAt 11 = .ok (.iload_n 1, 1) := by decide +kernel
theorem dX8_breaksAt_12 : decode cX8_breaksAt 12 = .ok (.iaload, 1) := by decide +kernel
theorem dX8_breaksAt_13 : decode cX8_breaksAt 13 = .ok (.ifCond .eq 17, 3) := by decide +kernel
theorem dX8_breaksAt_16 : decode cX8_breaksAt 16 = .ok (.aload_n 0, 1) := by decide +kernel
theorem dX8_breaksAt_17 : decode cX8_breaksAt 17 = .ok (.getfield 9, 3) := by decide +kernel
theorem dX8_breaksAt_20 : decode cX8_breaksAt 20 = .ok (.iload_n 1, 1) := by decide +kernel
theorem dX8_breaksAt_21 : decode cX8_breaksAt 21 = .ok (.iaload, 1) := by decide +kernel
theorem dX8_breaksAt_22 : decode cX8_breaksAt 22 = .ok (.iload_n 2, 1) := by decide +kernel
theorem dX8_breaksAt_23 : decode cX8_breaksAt 23 = .ok (.if_icmp .gt 7, 3) := by decide +kernel
theorem dX8_breaksAt_26 : decode cX8_breaksAt 26 = .ok (.iconst 1, 1) := by decide +kernel
theorem dX8_breaksAt_27 : decode cX8_breaksAt 27 = .ok (.goto 4, 3) := by decide +kernel
theorem dX8_breaksAt_30 : decode cX8_breaksAt 30 = .ok (.iconst 0, 1) := by decide +kernel
theorem dX8_breaksAt_31 : decode cX8_breaksAt 31 = .ok (.ireturn, 1) := by decide +kernel
theorem dX8_countOpen_0 : decode cX8_countOpen 0 = .ok (.iconst 0, 1) := by decide +kernel
theorem dX8_countOpen_1 : decode cX8_countOpen 1 = .ok (.istore_n 1, 1) := by decide +kernel
theorem dX8_countOpen_2 : decode cX8_countOpen 2 = .ok (.iconst 0, 1) := by decide +kernel
theorem dX8_countOpen_3 : decode cX8_countOpen 3 = .ok (.istore_n 2, 1) := by decide +kernel
theorem dX8_countOpen_4 : decode cX8_countOpen 4 = .ok (.iload_n 2, 1) := by decide +kernel
theorem dX8_countOpen_5 : decode cX8_countOpen 5 = .ok (.bipush 36, 2) := by decide +kernel
theorem dX8_countOpen_7 : decode cX8_countOpen 7 = .ok (.if_icmp .ge 21, 3) := by decide +kernel
theorem dX8_countOpen_10 : decode cX8_countOpen 10 = .ok (.aload_n 0, 1) := by decide +kernel
theorem dX8_countOpen_11 : decode cX8_countOpen 11 = .ok (.getfield 9, 3) := by decide +kernel
theorem dX8_countOpen_14 : decode cX8_countOpen 14 = .ok (.iload_n 2, 1) := by decide +kernel
theorem dX8_countOpen_15 : decode cX8_countOpen 15 = .ok (.iaload, 1) := by decide +kernel
theorem dX8_countOpen_16 : decode cX8_countOpen 16 = .ok (.ifCond .ne 6, 3) := by decide +kernel
theorem dX8_countOpen_19 : decode cX8_countOpen 19 = .ok (.iinc 1 1, 3) := by decide +kernel
theorem dX8_countOpen_22 : decode cX8_countOpen 22 = .ok (.iinc 2 1, 3) := by decide +kernel
theorem dX8_countOpen_25 : decode cX8_countOpen 25 = .ok (.goto (-21), 3) := by decide +kernel
theorem dX8_countOpen_28 : decode cX8_countOpen 28 = .ok (.iload_n 1, 1) := by decide +kernel
theorem dX8_countOpen_29 : decode cX8_countOpen 29 = .ok (.ireturn, 1) := by decide +kernel
theorem dX8_sumOfHardness_0 : decode cX8_sumOfHardness 0 = .ok (.iconst 0, 1) := by decide +kernel
theorem dX8_sumOfHardness_1 : decode cX8_sumOfHardness 1 = .ok (.istore_n 1, 1) := by decide +kernel
theorem dX8_sumOfHardness_2 : decode cX8_sumOfHardness 2 = .ok (.iconst 0, 1) := by decide +kernel
theorem dX8_sumOfHardness_3 : decode cX8_sumOfHardness 3 = .ok (.istore_n 2, 1) := by decide +kernel
theorem dX8_sumOfHardness_4 : decode cX8_sumOfHardness 4 = .ok (.iload_n 2, 1) := by decide +kernel
theorem dX8_sumOfHardness_5 : decode cX8_sumOfHardness 5 = .ok (.bipush 36, 2) := by decide +kernel
theorem dX8_sumOfHardness_7 : decode cX8_sumOfHardness 7 = .ok (.if_icmp .ge 18, 3) := by decide +kernel
theorem dX8_sumOfHardness_10 : decode cX8_sumOfHardness 10 = .ok (.iload_n 1, 1) := by decide +kernel
theorem dX8_sumOfHardness_11 : decode cX8_sumOfHardness 11 = .ok (.aload_n 0, 1) := by decide +kernel
theorem dX8_sumOfHardness_12 : decode cX8_sumOfHardness 12 = .ok (.getfield 9, 3) := by decide +kernel
theorem dX8_sumOfHardness_15 : decode cX8_sumOfHardness 15 = .ok (.iload_n 2, 1) := by decide +kernel
theorem dX8_sumOfHardness_16 : decode cX8_sumOfHardness 16 = .ok (.iaload, 1) := by decide +kernel
theorem dX8_sumOfHardness_17 : decode cX8_sumOfHardness 17 = .ok (.iadd, 1) := by decide +kernel
theorem dX8_sumOfHardness_18 : decode cX8_sumOfHardness 18 = .ok (.istore_n 1, 1) := by decide +kernel
theorem dX8_sumOfHardness_19 : decode cX8_sumOfHardness 19 = .ok (.iinc 2 1, 3) := by decide +kernel
theorem dX8_sumOfHardness_22 : decode cX8_sumOfHardness 22 = .ok (.goto (-18), 3) := by decide +kernel
theorem dX8_sumOfHardness_25 : decode cX8_sumOfHardness 25 = .ok (.iload_n 1, 1) := by decide +kernel
theorem dX8_sumOfHardness_26 : decode cX8_sumOfHardness 26 = .ok (.ireturn, 1) := by decide +kernel
theorem dX8_hasCharge_0 : decode cX8_hasCharge 0 = .ok (.iload_n 1, 1) := by decide +kernel
theorem dX8_hasCharge_1 : decode cX8_hasCharge 1 = .ok (.ifCond .lt 21, 3) := by decide +kernel
theorem dX8_hasCharge_4 : decode cX8_hasCharge 4 = .ok (.iload_n 1, 1) := by decide +kernel
theorem dX8_hasCharge_5 : decode cX8_hasCharge 5 = .ok (.aload_n 0, 1) := by decide +kernel
theorem dX8_hasCharge_6 : decode cX8_hasCharge 6 = .ok (.getfield 36, 3) := by decide +kernel
theorem dX8_hasCharge_9 : decode cX8_hasCharge 9 = .ok (.if_icmp .ge 13, 3) := by decide +kernel
theorem dX8_hasCharge_12 : decode cX8_hasCharge 12 = .ok (.iload_n 1, 1) := by decide +kernel
theorem dX8_hasCharge_13 : decode cX8_hasCharge 13 = .ok (.bipush 6, 2) := by decide +kernel
theorem dX8_hasCharge_15 : decode cX8_hasCharge 15 = .ok (.if_icmp .ge 7, 3) := by decide +kernel
theorem dX8_hasCharge_18 : decode cX8_hasCharge 18 = .ok (.iconst 1, 1) := by decide +kernel
theorem dX8_hasCharge_19 : decode cX8_hasCharge 19 = .ok (.goto 4, 3) := by decide +kernel
theorem dX8_hasCharge_22 : decode cX8_hasCharge 22 = .ok (.iconst 0, 1) := by decide +kernel
theorem dX8_hasCharge_23 : decode cX8_hasCharge 23 = .ok (.ireturn, 1) := by decide +kernel
theorem dX8_cellOf_0 : decode cX8_cellOf 0 = .ok (.aload_n 0, 1) := by decide +kernel
theorem dX8_cellOf_1 : decode cX8_cellOf 1 = .ok (.iload_n 1, 1) := by decide +kernel
theorem dX8_cellOf_2 : decode cX8_cellOf 2 = .ok (.invokevirtual 57, 3) := by decide +kernel
theorem dX8_cellOf_5 : decode cX8_cellOf 5 = .ok (.ifCond .eq 12, 3) := by decide +kernel
theorem dX8_cellOf_8 : decode cX8_cellOf 8 = .ok (.aload_n 0, 1) := by decide +kernel
theorem dX8_cellOf_9 : decode cX8_cellOf 9 = .ok (.getfield 15, 3) := by decide +kernel
theorem dX8_cellOf_12 : decode cX8_cellOf 12 = .ok (.iload_n 1, 1) := by decide +kernel
theorem dX8_cellOf_13 : decode cX8_cellOf 13 = .ok (.iaload, 1) := by decide +kernel
theorem dX8_cellOf_14 : decode cX8_cellOf 14 = .ok (.goto 4, 3) := by decide +kernel
theorem dX8_cellOf_17 : decode cX8_cellOf 17 = .ok (.iconst 0, 1) := by decide +kernel
theorem dX8_cellOf_18 : decode cX8_cellOf 18 = .ok (.ireturn, 1) := by decide +kernel
theorem dX8_strengthOf_0 : decode cX8_strengthOf 0 = .ok (.aload_n 0, 1) := by decide +kernel
theorem dX8_strengthOf_1 : decode cX8_strengthOf 1 = .ok (.iload_n 1, 1) := by decide +kernel
theorem dX8_strengthOf_2 : decode cX8_strengthOf 2 = .ok (.invokevirtual 57, 3) := by decide +kernel
theorem dX8_strengthOf_5 : decode cX8_strengthOf 5 = .ok (.ifCond .eq 12, 3) := by decide +kernel
theorem dX8_strengthOf_8 : decode cX8_strengthOf 8 = .ok (.aload_n 0, 1) := by decide +kernel
theorem dX8_strengthOf_9 : decode cX8_strengthOf 9 = .ok (.getfield 18, 3) := by decide +kernel
theorem dX8_strengthOf_12 : decode cX8_strengthOf 12 = .ok (.iload_n 1, 1) := by decide +kernel
theorem dX8_strengthOf_13 : decode cX8_strengthOf 13 = .ok (.iaload, 1) := by decide +kernel
theorem dX8_strengthOf_14 : decode cX8_strengthOf 14 = .ok (.goto 4, 3) := by decide +kernel
theorem dX8_strengthOf_17 : decode cX8_strengthOf 17 = .ok (.iconst 0, 1) := by decide +kernel
theorem dX8_strengthOf_18 : decode cX8_strengthOf 18 = .ok (.ireturn, 1) := by decide +kernel
theorem dX8_chargedAt_0 : decode cX8_chargedAt 0 = .ok (.iconst 0, 1) := by decide +kernel
theorem dX8_chargedAt_1 : decode cX8_chargedAt 1 = .ok (.istore_n 2, 1) := by decide +kernel
theorem dX8_chargedAt_2 : decode cX8_chargedAt 2 = .ok (.iload_n 2, 1) := by decide +kernel
theorem dX8_chargedAt_3 : decode cX8_chargedAt 3 = .ok (.aload_n 0, 1) := by decide +kernel
theorem dX8_chargedAt_4 : decode cX8_chargedAt 4 = .ok (.getfield 36, 3) := by decide +kernel
theorem dX8_chargedAt_7 : decode cX8_chargedAt 7 = .ok (.if_icmp .ge 20, 3) := by decide +kernel
theorem dX8_chargedAt_10 : decode cX8_chargedAt 10 = .ok (.aload_n 0, 1) := by decide +kernel
theorem dX8_chargedAt_11 : decode cX8_chargedAt 11 = .ok (.iload_n 2, 1) := by decide +kernel
theorem dX8_chargedAt_12 : decode cX8_chargedAt 12 = .ok (.invokevirtual 60, 3) := by decide +kernel
theorem dX8_chargedAt_15 : decode cX8_chargedAt 15 = .ok (.iload_n 1, 1) := by decide +kernel
theorem dX8_chargedAt_16 : decode cX8_chargedAt 16 = .ok (.if_icmp .ne 5, 3) := by decide +kernel
theorem dX8_chargedAt_19 : decode cX8_chargedAt 19 = .ok (.iconst 1, 1) := by decide +kernel
theorem dX8_chargedAt_20 : decode cX8_chargedAt 20 = .ok (.ireturn, 1) := by decide +kernel
theorem dX8_chargedAt_21 : decode cX8_chargedAt 21 = .ok (.iinc 2 1, 3) := by decide +kernel
theorem dX8_chargedAt_24 : decode cX8_chargedAt 24 = .ok (.goto (-22), 3) := by decide +kernel
theorem dX8_chargedAt_27 : decode cX8_chargedAt 27 = .ok (.iconst 0, 1) := by decide +kernel
theorem dX8_chargedAt_28 : decode cX8_chargedAt 28 = .ok (.ireturn, 1) := by decide +kernel
theorem dX8_priceAt_0 : decode cX8_priceAt 0 = .ok (.iload_n 1, 1) := by decide +kernel
theorem dX8_priceAt_1 : decode cX8_priceAt 1 = .ok (.iconst 1, 1) := by decide +kernel
theorem dX8_priceAt_2 : decode cX8_priceAt 2 = .ok (.bipush 10, 2) := by decide +kernel
theorem dX8_priceAt_4 : decode cX8_priceAt 4 = .ok (.invokestatic 64, 3) := by decide +kernel
theorem dX8_priceAt_7 : decode cX8_priceAt 7 = .ok (.ifCond .eq 12, 3) := by decide +kernel
theorem dX8_priceAt_10 : decode cX8_priceAt 10 = .ok (.aload_n 0, 1) := by decide +kernel
theorem dX8_priceAt_11 : decode cX8_priceAt 11 = .ok (.getfield 21, 3) := by decide +kernel
theorem dX8_priceAt_14 : decode cX8_priceAt 14 = .ok (.iload_n 1, 1) := by decide +kernel
theorem dX8_priceAt_15 : decode cX8_priceAt 15 = .ok (.iaload, 1) := by decide +kernel
theorem dX8_priceAt_16 : decode cX8_priceAt 16 = .ok (.goto 4, 3) := by decide +kernel
theorem dX8_priceAt_19 : decode cX8_priceAt 19 = .ok (.iconst 0, 1) := by decide +kernel
theorem dX8_priceAt_20 : decode cX8_priceAt 20 = .ok (.ireturn, 1) := by decide +kernel
theorem dX8_faultOfHardness_0 : decode cX8_faultOfHardness 0 = .ok (.iload_n 1, 1) := by decide +kernel
theorem dX8_faultOfHardness_1 : decode cX8_faultOfHardness 1 = .ok (.iload_n 2, 1) := by decide +kernel
theorem dX8_faultOfHardness_2 : decode cX8_faultOfHardness 2 = .ok (.invokestatic 68, 3) := by decide +kernel
theorem dX8_faultOfHardness_5 : decode cX8_faultOfHardness 5 = .ok (.istore 4, 2) := by decide +kernel
theorem dX8_faultOfHardness_7 : decode cX8_faultOfHardness 7 = .ok (.iload 4, 2) := by decide +kernel
theorem dX8_faultOfHardness_9 : decode cX8_faultOfHardness 9 = .ok (.iconst (-1), 1) := by decide +kernel
theorem dX8_faultOfHardness_10 : decode cX8_faultOfHardness 10 = .ok (.if_icmp .eq 13, 3) := by decide +kernel
theorem dX8_faultOfHardness_13 : decode cX8_faultOfHardness 13 = .ok (.iload_n 3, 1) := by decide +kernel
theorem dX8_faultOfHardness_14 : decode cX8_faultOfHardness 14 = .ok (.iconst 1, 1) := by decide +kernel
theorem dX8_faultOfHardness_15 : decode cX8_faultOfHardness 15 = .ok (.bipush 9, 2) := by decide +kernel
theorem dX8_faultOfHardness_17 : decode cX8_faultOfHardness 17 = .ok (.invokestatic 64, 3) := by decide +kernel
theorem dX8_faultOfHardness_20 : decode cX8_faultOfHardness 20 = .ok (.ifCond .ne 5, 3) := by decide +kernel
theorem dX8_faultOfHardness_23 : decode cX8_faultOfHardness 23 = .ok (.iconst 1, 1) := by decide +kernel
theorem dX8_faultOfHardness_24 : decode cX8_faultOfHardness 24 = .ok (.ireturn, 1) := by decide +kernel
theorem dX8_faultOfHardness_25 : decode cX8_faultOfHardness 25 = .ok (.aload_n 0, 1) := by decide +kernel
theorem dX8_faultOfHardness_26 : decode cX8_faultOfHardness 26 = .ok (.iload 4, 2) := by decide +kernel
theorem dX8_faultOfHardness_28 : decode cX8_faultOfHardness 28 = .ok (.invokevirtual 72, 3) := by decide +kernel
theorem dX8_faultOfHardness_31 : decode cX8_faultOfHardness 31 = .ok (.ifCond .eq 7, 3) := by decide +kernel
theorem dX8_faultOfHardness_34 : decode cX8_faultOfHardness 34 = .ok (.iconst 2, 1) := by decide +kernel
theorem dX8_faultOfHardness_35 : decode cX8_faultOfHardness 35 = .ok (.goto 4, 3) := by decide +kernel
theorem dX8_faultOfHardness_38 : decode cX8_faultOfHardness 38 = .ok (.iconst 0, 1) := by decide +kernel
theorem dX8_faultOfHardness_39 : decode cX8_faultOfHardness 39 = .ok (.ireturn, 1) := by decide +kernel
theorem dX8_faultOfDigging_0 : decode cX8_faultOfDigging 0 = .ok (.iload_n 1, 1) := by decide +kernel
theorem dX8_faultOfDigging_1 : decode cX8_faultOfDigging 1 = .ok (.iload_n 2, 1) := by decide +kernel
theorem dX8_faultOfDigging_2 : decode cX8_faultOfDigging 2 = .ok (.invokestatic 68, 3) := by decide +kernel
theorem dX8_faultOfDigging_5 : decode cX8_faultOfDigging 5 = .ok (.istore_n 3, 1) := by decide +kernel
theorem dX8_faultOfDigging_6 : decode cX8_faultOfDigging 6 = .ok (.iload_n 3, 1) := by decide +kernel
theorem dX8_faultOfDigging_7 : decode cX8_faultOfDigging 7 = .ok (.iconst (-1), 1) := by decide +kernel
theorem dX8_faultOfDigging_8 : decode cX8_faultOfDigging 8 = .ok (.if_icmp .ne 5, 3) := by decide +kernel
theorem dX8_faultOfDigging_11 : decode cX8_faultOfDigging 11 = .ok (.iconst 1, 1) := by decide +kernel
theorem dX8_faultOfDigging_12 : decode cX8_faultOfDigging 12 = .ok (.ireturn, 1) := by decide +kernel
theorem dX8_faultOfDigging_13 : decode cX8_faultOfDigging 13 = .ok (.aload_n 0, 1) := by decide +kernel
theorem dX8_faultOfDigging_14 : decode cX8_faultOfDigging 14 = .ok (.iload_n 3, 1) := by decide +kernel
theorem dX8_faultOfDigging_15 : decode cX8_faultOfDigging 15 = .ok (.invokevirtual 72, 3) := by decide +kernel
theorem dX8_faultOfDigging_18 : decode cX8_faultOfDigging 18 = .ok (.ifCond .ne 19, 3) := by decide +kernel
theorem dX8_faultOfDigging_21 : decode cX8_faultOfDigging 21 = .ok (.aload_n 0, 1) := by decide +kernel
theorem dX8_faultOfDigging_22 : decode cX8_faultOfDigging 22 = .ok (.iload_n 3, 1) := by decide +kernel
theorem dX8_faultOfDigging_23 : decode cX8_faultOfDigging 23 = .ok (.invokevirtual 75, 3) := by decide +kernel
theorem dX8_faultOfDigging_26 : decode cX8_faultOfDigging 26 = .ok (.ifCond .ne 11, 3) := by decide +kernel
theorem dX8_faultOfDigging_29 : decode cX8_faultOfDigging 29 = .ok (.aload_n 0, 1) := by decide +kernel
theorem dX8_faultOfDigging_30 : decode cX8_faultOfDigging 30 = .ok (.iload_n 3, 1) := by decide +kernel
theorem dX8_faultOfDigging_31 : decode cX8_faultOfDigging 31 = .ok (.invokevirtual 78, 3) := by decide +kernel
theorem dX8_faultOfDigging_34 : decode cX8_faultOfDigging 34 = .ok (.ifCond .ne 5, 3) := by decide +kernel
theorem dX8_faultOfDigging_37 : decode cX8_faultOfDigging 37 = .ok (.iconst 2, 1) := by decide +kernel
theorem dX8_faultOfDigging_38 : decode cX8_faultOfDigging 38 = .ok (.ireturn, 1) := by decide +kernel
theorem dX8_faultOfDigging_39 : decode cX8_faultOfDigging 39 = .ok (.aload_n 0, 1) := by decide +kernel
theorem dX8_faultOfDigging_40 : decode cX8_faultOfDigging 40 = .ok (.getfield 49, 3) := by decide +kernel
theorem dX8_faultOfDigging_43 : decode cX8_faultOfDigging 43 = .ok (.aload_n 0, 1) := by decide +kernel
theorem dX8_faultOfDigging_44 : decode cX8_faultOfDigging 44 = .ok (.iload_n 3, 1) := by decide +kernel
theorem dX8_faultOfDigging_45 : decode cX8_faultOfDigging 45 = .ok (.invokevirtual 81, 3) := by decide +kernel
theorem dX8_faultOfDigging_48 : decode cX8_faultOfDigging 48 = .ok (.i2l, 1) := by decide +kernel
theorem dX8_faultOfDigging_49 : decode cX8_faultOfDigging 49 = .ok (.lcmp, 1) := by decide +kernel
theorem dX8_faultOfDigging_50 : decode cX8_faultOfDigging 50 = .ok (.ifCond .ge 7, 3) := by decide +kernel
theorem dX8_faultOfDigging_53 : decode cX8_faultOfDigging 53 = .ok (.iconst 3, 1) := by decide +kernel
theorem dX8_faultOfDigging_54 : decode cX8_faultOfDigging 54 = .ok (.goto 4, 3) := by decide +kernel
theorem dX8_faultOfDigging_57 : decode cX8_faultOfDigging 57 = .ok (.iconst 0, 1) := by decide +kernel
theorem dX8_faultOfDigging_58 : decode cX8_faultOfDigging 58 = .ok (.ireturn, 1) := by decide +kernel
theorem dX8_canBeReached_0 : decode cX8_canBeReached 0 = .ok (.iload_n 1, 1) := by decide +kernel
theorem dX8_canBeReached_1 : decode cX8_canBeReached 1 = .ok (.bipush 6, 2) := by decide +kernel
theorem dX8_canBeReached_3 : decode cX8_canBeReached 3 = .ok (.irem, 1) := by decide +kernel
theorem dX8_canBeReached_4 : decode cX8_canBeReached 4 = .ok (.ifCond .ne 5, 3) := by decide +kernel
theorem dX8_canBeReached_7 : decode cX8_canBeReached 7 = .ok (.iconst 1, 1) := by decide +kernel
theorem dX8_canBeReached_8 : decode cX8_canBeReached 8 = .ok (.ireturn, 1) := by decide +kernel
theorem dX8_canBeReached_9 : decode cX8_canBeReached 9 = .ok (.iconst 0, 1) := by decide +kernel
theorem dX8_canBeReached_10 : decode cX8_canBeReached 10 = .ok (.istore_n 2, 1) := by decide +kernel
theorem dX8_canBeReached_11 : decode cX8_canBeReached 11 = .ok (.iload_n 2, 1) := by decide +kernel
theorem dX8_canBeReached_12 : decode cX8_canBeReached 12 = .ok (.iconst 4, 1) := by decide +kernel
theorem dX8_canBeReached_13 : decode cX8_canBeReached 13 = .ok (.if_icmp .ge 23, 3) := by decide +kernel
theorem dX8_canBeReached_16 : decode cX8_canBeReached 16 = .ok (.aload_n 0, 1) := by decide +kernel
theorem dX8_canBeReached_17 : decode cX8_canBeReached 17 = .ok (.iload_n 1, 1) := by decide +kernel
theorem dX8_canBeReached_18 : decode cX8_canBeReached 18 = .ok (.iload_n 2, 1) := by decide +kernel
theorem dX8_canBeReached_19 : decode cX8_canBeReached 19 = .ok (.invokestatic 84, 3) := by decide +kernel
theorem dX8_canBeReached_22 : decode cX8_canBeReached 22 = .ok (.invokevirtual 72, 3) := by decide +kernel
theorem dX8_canBeReached_25 : decode cX8_canBeReached 25 = .ok (.ifCond .eq 5, 3) := by decide +kernel
theorem dX8_canBeReached_28 : decode cX8_canBeReached 28 = .ok (.iconst 1, 1) := by decide +kernel
theorem dX8_canBeReached_29 : decode cX8_canBeReached 29 = .ok (.ireturn, 1) := by decide +kernel
theorem dX8_canBeReached_30 : decode cX8_canBeReached 30 = .ok (.iinc 2 1, 3) := by decide +kernel
theorem dX8_canBeReached_33 : decode cX8_canBeReached 33 = .ok (.goto (-22), 3) := by decide +kernel
theorem dX8_canBeReached_36 : decode cX8_canBeReached 36 = .ok (.iconst 0, 1) := by decide +kernel
theorem dX8_canBeReached_37 : decode cX8_canBeReached 37 = .ok (.ireturn, 1) := by decide +kernel
theorem dX8_faultOfLaying_0 : decode cX8_faultOfLaying 0 = .ok (.iload_n 1, 1) := by decide +kernel
theorem dX8_faultOfLaying_1 : decode cX8_faultOfLaying 1 = .ok (.iload_n 2, 1) := by decide +kernel
theorem dX8_faultOfLaying_2 : decode cX8_faultOfLaying 2 = .ok (.invokestatic 68, 3) := by decide +kernel
theorem dX8_faultOfLaying_5 : decode cX8_faultOfLaying 5 = .ok (.istore 4, 2) := by decide +kernel
theorem dX8_faultOfLaying_7 : decode cX8_faultOfLaying 7 = .ok (.iload 4, 2) := by decide +kernel
theorem dX8_faultOfLaying_9 : decode cX8_faultOfLaying 9 = .ok (.iconst (-1), 1) := by decide +kernel
theorem dX8_faultOfLaying_10 : decode cX8_faultOfLaying 10 = .ok (.if_icmp .eq 13, 3) := by decide +kernel
theorem dX8_faultOfLaying_13 : decode cX8_faultOfLaying 13 = .ok (.iload_n 3, 1) := by decide +kernel
theorem dX8_faultOfLaying_14 : decode cX8_faultOfLaying 14 = .ok (.iconst 1, 1) := by decide +kernel
theorem dX8_faultOfLaying_15 : decode cX8_faultOfLaying 15 = .ok (.bipush 9, 2) := by decide +kernel
theorem dX8_faultOfLaying_17 : decode cX8_faultOfLaying 17 = .ok (.invokestatic 64, 3) := by decide +kernel
theorem dX8_faultOfLaying_20 : decode cX8_faultOfLaying 20 = .ok (.ifCond .ne 5, 3) := by decide +kernel
theorem dX8_faultOfLaying_23 : decode cX8_faultOfLaying 23 = .ok (.iconst 1, 1) := by decide +kernel
theorem dX8_faultOfLaying_24 : decode cX8_faultOfLaying 24 = .ok (.ireturn, 1) := by decide +kernel
theorem dX8_faultOfLaying_25 : decode cX8_faultOfLaying 25 = .ok (.aload_n 0, 1) := by decide +kernel
theorem dX8_faultOfLaying_26 : decode cX8_faultOfLaying 26 = .ok (.getfield 36, 3) := by decide +kernel
theorem dX8_faultOfLaying_29 : decode cX8_faultOfLaying 29 = .ok (.bipush 6, 2) := by decide +kernel
theorem dX8_faultOfLaying_31 : decode cX8_faultOfLaying 31 = .ok (.if_icmp .ge 21, 3) := by decide +kernel
theorem dX8_faultOfLaying_34 : decode cX8_faultOfLaying 34 = .ok (.aload_n 0, 1) := by decide +kernel
theorem dX8_faultOfLaying_35 : decode cX8_faultOfLaying 35 = .ok (.iload 4, 2) := by decide +kernel
theorem dX8_faultOfLaying_37 : decode cX8_faultOfLaying 37 = .ok (.invokevirtual 72, 3) := by decide +kernel
theorem dX8_faultOfLaying_40 : decode cX8_faultOfLaying 40 = .ok (.ifCond .ne 12, 3) := by decide +kernel
theorem dX8_faultOfLaying_43 : decode cX8_faultOfLaying 43 = .ok (.aload_n 0, 1) := by decide +kernel
theorem dX8_faultOfLaying_44 : decode cX8_faultOfLaying 44 = .ok (.iload 4, 2) := by decide +kernel
theorem dX8_faultOfLaying_46 : decode cX8_faultOfLaying 46 = .ok (.invokevirtual 75, 3) := by decide +kernel
theorem dX8_faultOfLaying_49 : decode cX8_faultOfLaying 49 = .ok (.ifCond .eq 7, 3) := by decide +kernel
theorem dX8_faultOfLaying_52 : decode cX8_faultOfLaying 52 = .ok (.iconst 2, 1) := by decide +kernel
theorem dX8_faultOfLaying_53 : decode cX8_faultOfLaying 53 = .ok (.goto 4, 3) := by decide +kernel
theorem dX8_faultOfLaying_56 : decode cX8_faultOfLaying 56 = .ok (.iconst 0, 1) := by decide +kernel
theorem dX8_faultOfLaying_57 : decode cX8_faultOfLaying 57 = .ok (.ireturn, 1) := by decide +kernel
theorem dX8_faultOfPrice_0 : decode cX8_faultOfPrice 0 = .ok (.iload_n 1, 1) := by decide +kernel
theorem dX8_faultOfPrice_1 : decode cX8_faultOfPrice 1 = .ok (.iconst 1, 1) := by decide +kernel
theorem dX8_faultOfPrice_2 : decode cX8_faultOfPrice 2 = .ok (.bipush 10, 2) := by decide +kernel
theorem dX8_faultOfPrice_4 : decode cX8_faultOfPrice 4 = .ok (.invokestatic 64, 3) := by decide +kernel
theorem dX8_faultOfPrice_7 : decode cX8_faultOfPrice 7 = .ok (.ifCond .eq 17, 3) := by decide +kernel
theorem dX8_faultOfPrice_10 : decode cX8_faultOfPrice 10 = .ok (.iload_n 2, 1) := by decide +kernel
theorem dX8_faultOfPrice_11 : decode cX8_faultOfPrice 11 = .ok (.iconst 0, 1) := by decide +kernel
theorem dX8_faultOfPrice_12 : decode cX8_faultOfPrice 12 = .ok (.bipush 99, 2) := by decide +kernel
theorem dX8_faultOfPrice_14 : decode cX8_faultOfPrice 14 = .ok (.invokestatic 64, 3) := by decide +kernel
theorem dX8_faultOfPrice_17 : decode cX8_faultOfPrice 17 = .ok (.ifCond .eq 7, 3) := by decide +kernel
theorem dX8_faultOfPrice_20 : decode cX8_faultOfPrice 20 = .ok (.iconst 0, 1) := by decide +kernel
theorem dX8_faultOfPrice_21 : decode cX8_faultOfPrice 21 = .ok (.goto 4, 3) := by decide +kernel
theorem dX8_faultOfPrice_24 : decode cX8_faultOfPrice 24 = .ok (.iconst 1, 1) := by decide +kernel
theorem dX8_faultOfPrice_25 : decode cX8_faultOfPrice 25 = .ok (.ireturn, 1) := by decide +kernel
theorem dX8_faultOfSelling_0 : decode cX8_faultOfSelling 0 = .ok (.iload_n 1, 1) := by decide +kernel
theorem dX8_faultOfSelling_1 : decode cX8_faultOfSelling 1 = .ok (.iconst 1, 1) := by decide +kernel
theorem dX8_faultOfSelling_2 : decode cX8_faultOfSelling 2 = .ok (.bipush 30, 2) := by decide +kernel
theorem dX8_faultOfSelling_4 : decode cX8_faultOfSelling 4 = .ok (.invokestatic 64, 3) := by decide +kernel
theorem dX8_faultOfSelling_7 : decode cX8_faultOfSelling 7 = .ok (.ifCond .ne 5, 3) := by decide +kernel
theorem dX8_faultOfSelling_10 : decode cX8_faultOfSelling 10 = .ok (.iconst 1, 1) := by decide +kernel
theorem dX8_faultOfSelling_11 : decode cX8_faultOfSelling 11 = .ok (.ireturn, 1) := by decide +kernel
theorem dX8_faultOfSelling_12 : decode cX8_faultOfSelling 12 = .ok (.aload_n 0, 1) := by decide +kernel
theorem dX8_faultOfSelling_13 : decode cX8_faultOfSelling 13 = .ok (.getfield 40, 3) := by decide +kernel
theorem dX8_faultOfSelling_16 : decode cX8_faultOfSelling 16 = .ok (.iload_n 1, 1) := by decide +kernel
theorem dX8_faultOfSelling_17 : decode cX8_faultOfSelling 17 = .ok (.if_icmp .ge 7, 3) := by decide +kernel
theorem dX8_faultOfSelling_20 : decode cX8_faultOfSelling 20 = .ok (.iconst 3, 1) := by decide +kernel
theorem dX8_faultOfSelling_21 : decode cX8_faultOfSelling 21 = .ok (.goto 4, 3) := by decide +kernel
theorem dX8_faultOfSelling_24 : decode cX8_faultOfSelling 24 = .ok (.iconst 0, 1) := by decide +kernel
theorem dX8_faultOfSelling_25 : decode cX8_faultOfSelling 25 = .ok (.ireturn, 1) := by decide +kernel
theorem dX8_harden_0 : decode cX8_harden 0 = .ok (.iload_n 1, 1) := by decide +kernel
theorem dX8_harden_1 : decode cX8_harden 1 = .ok (.invokestatic 53, 3) := by decide +kernel
theorem dX8_harden_4 : decode cX8_harden 4 = .ok (.ifCond .ne 5, 3) := by decide +kernel
theorem dX8_harden_7 : decode cX8_harden 7 = .ok (.iconst 0, 1) := by decide +kernel
theorem dX8_harden_8 : decode cX8_harden 8 = .ok (.ireturn, 1) := by decide +kernel
theorem dX8_harden_9 : decode cX8_harden 9 = .ok (.aload_n 0, 1) := by decide +kernel
theorem dX8_harden_10 : decode cX8_harden 10 = .ok (.getfield 9, 3) := by decide +kernel
theorem dX8_harden_13 : decode cX8_harden 13 = .ok (.iload_n 1, 1) := by decide +kernel
theorem dX8_harden_14 : decode cX8_harden 14 = .ok (.iaload, 1) := by decide +kernel
theorem dX8_harden_15 : decode cX8_harden 15 = .ok (.istore_n 3, 1) := by decide +kernel
theorem dX8_harden_16 : decode cX8_harden 16 = .ok (.aload_n 0, 1) := by decide +kernel
theorem dX8_harden_17 : decode cX8_harden 17 = .ok (.getfield 9, 3) := by decide +kernel
theorem dX8_harden_20 : decode cX8_harden 20 = .ok (.iload_n 1, 1) := by decide +kernel
theorem dX8_harden_21 : decode cX8_harden 21 = .ok (.iload_n 2, 1) := by decide +kernel
theorem dX8_harden_22 : decode cX8_harden 22 = .ok (.iastore, 1) := by decide +kernel
theorem dX8_harden_23 : decode cX8_harden 23 = .ok (.iload_n 3, 1) := by decide +kernel
theorem dX8_harden_24 : decode cX8_harden 24 = .ok (.ireturn, 1) := by decide +kernel
theorem dX8_makeOpen_0 : decode cX8_makeOpen 0 = .ok (.aload_n 0, 1) := by decide +kernel
theorem dX8_makeOpen_1 : decode cX8_makeOpen 1 = .ok (.iload_n 1, 1) := by decide +kernel
theorem dX8_makeOpen_2 : decode cX8_makeOpen 2 = .ok (.iconst 0, 1) := by decide +kernel
theorem dX8_makeOpen_3 : decode cX8_makeOpen 3 = .ok (.invokevirtual 87, 3) := by decide +kernel
theorem dX8_makeOpen_6 : decode cX8_makeOpen 6 = .ok (.istore_n 2, 1) := by decide +kernel
theorem dX8_makeOpen_7 : decode cX8_makeOpen 7 = .ok (.aload_n 0, 1) := by decide +kernel
theorem dX8_makeOpen_8 : decode cX8_makeOpen 8 = .ok (.dup, 1) := by decide +kernel
theorem dX8_makeOpen_9 : decode cX8_makeOpen 9 = .ok (.getfield 43, 3) := by decide +kernel
theorem dX8_makeOpen_12 : decode cX8_makeOpen 12 = .ok (.iload_n 2, 1) := by decide +kernel
theorem dX8_makeOpen_13 : decode cX8_makeOpen 13 = .ok (.iadd, 1) := by decide +kernel
theorem dX8_makeOpen_14 : decode cX8_makeOpen 14 = .ok (.putfield 43, 3) := by decide +kernel
theorem dX8_makeOpen_17 : decode cX8_makeOpen 17 = .ok (.aload_n 0, 1) := by decide +kernel
theorem dX8_makeOpen_18 : decode cX8_makeOpen 18 = .ok (.dup, 1) := by decide +kernel
theorem dX8_makeOpen_19 : decode cX8_makeOpen 19 = .ok (.getfield 40, 3) := by decide +kernel
theorem dX8_makeOpen_22 : decode cX8_makeOpen 22 = .ok (.iload_n 2, 1) := by decide +kernel
theorem dX8_makeOpen_23 : decode cX8_makeOpen 23 = .ok (.iadd, 1) := by decide +kernel
theorem dX8_makeOpen_24 : decode cX8_makeOpen 24 = .ok (.putfield 40, 3) := by decide +kernel
theorem dX8_makeOpen_27 : decode cX8_makeOpen 27 = .ok (.return_, 1) := by decide +kernel
theorem dX8_digOut_0 : decode cX8_digOut 0 = .ok (.aload_n 0, 1) := by decide +kernel
theorem dX8_digOut_1 : decode cX8_digOut 1 = .ok (.dup, 1) := by decide +kernel
theorem dX8_digOut_2 : decode cX8_digOut 2 = .ok (.getfield 49, 3) := by decide +kernel
theorem dX8_digOut_5 : decode cX8_digOut 5 = .ok (.aload_n 0, 1) := by decide +kernel
theorem dX8_digOut_6 : decode cX8_digOut 6 = .ok (.iload_n 1, 1) := by decide +kernel
theorem dX8_digOut_7 : decode cX8_digOut 7 = .ok (.invokevirtual 81, 3) := by decide +kernel
theorem dX8_digOut_10 : decode cX8_digOut 10 = .ok (.i2l, 1) := by decide +kernel
theorem dX8_digOut_11 : decode cX8_digOut 11 = .ok (.lsub, 1) := by decide +kernel
theorem dX8_digOut_12 : decode cX8_digOut 12 = .ok (.putfield 49, 3) := by decide +kernel
theorem dX8_digOut_15 : decode cX8_digOut 15 = .ok (.aload_n 0, 1) := by decide +kernel
theorem dX8_digOut_16 : decode cX8_digOut 16 = .ok (.iload_n 1, 1) := by decide +kernel
theorem dX8_digOut_17 : decode cX8_digOut 17 = .ok (.invokevirtual 90, 3) := by decide +kernel
theorem dX8_digOut_20 : decode cX8_digOut 20 = .ok (.aload_n 0, 1) := by decide +kernel
theorem dX8_digOut_21 : decode cX8_digOut 21 = .ok (.getfield 49, 3) := by decide +kernel
theorem dX8_digOut_24 : decode cX8_digOut 24 = .ok (.lreturn, 1) := by decide +kernel
theorem dX8_lay_0 : decode cX8_lay 0 = .ok (.aload_n 0, 1) := by decide +kernel
theorem dX8_lay_1 : decode cX8_lay 1 = .ok (.getfield 36, 3) := by decide +kernel
theorem dX8_lay_4 : decode cX8_lay 4 = .ok (.istore_n 3, 1) := by decide +kernel
theorem dX8_lay_5 : decode cX8_lay 5 = .ok (.iload_n 3, 1) := by decide +kernel
theorem dX8_lay_6 : decode cX8_lay 6 = .ok (.iconst 0, 1) := by decide +kernel
theorem dX8_lay_7 : decode cX8_lay 7 = .ok (.iconst 5, 1) := by decide +kernel
theorem dX8_lay_8 : decode cX8_lay 8 = .ok (.invokestatic 64, 3) := by decide +kernel
theorem dX8_lay_11 : decode cX8_lay 11 = .ok (.ifCond .eq 27, 3) := by decide +kernel
theorem dX8_lay_14 : decode cX8_lay 14 = .ok (.aload_n 0, 1) := by decide +kernel
theorem dX8_lay_15 : decode cX8_lay 15 = .ok (.getfield 15, 3) := by decide +kernel
theorem dX8_lay_18 : decode cX8_lay 18 = .ok (.iload_n 3, 1) := by decide +kernel
theorem dX8_lay_19 : decode cX8_lay 19 = .ok (.iload_n 1, 1) := by decide +kernel
theorem dX8_lay_20 : decode cX8_lay 20 = .ok (.iastore, 1) := by decide +kernel
theorem dX8_lay_21 : decode cX8_lay 21 = .ok (.aload_n 0, 1) := by decide +kernel
theorem dX8_lay_22 : decode cX8_lay 22 = .ok (.getfield 18, 3) := by decide +kernel
theorem dX8_lay_25 : decode cX8_lay 25 = .ok (.iload_n 3, 1) := by decide +kernel
theorem dX8_lay_26 : decode cX8_lay 26 = .ok (.iload_n 2, 1) := by decide +kernel
theorem dX8_lay_27 : decode cX8_lay 27 = .ok (.iastore, 1) := by decide +kernel
theorem dX8_lay_28 : decode cX8_lay 28 = .ok (.aload_n 0, 1) := by decide +kernel
theorem dX8_lay_29 : decode cX8_lay 29 = .ok (.dup, 1) := by decide +kernel
theorem dX8_lay_30 : decode cX8_lay 30 = .ok (.getfield 36, 3) := by decide +kernel
theorem dX8_lay_33 : decode cX8_lay 33 = .ok (.iconst 1, 1) := by decide +kernel
theorem dX8_lay_34 : decode cX8_lay 34 = .ok (.iadd, 1) := by decide +kernel
theorem dX8_lay_35 : decode cX8_lay 35 = .ok (.putfield 36, 3) := by decide +kernel
theorem dX8_lay_38 : decode cX8_lay 38 = .ok (.iload_n 3, 1) := by decide +kernel
theorem dX8_lay_39 : decode cX8_lay 39 = .ok (.ireturn, 1) := by decide +kernel
theorem dX8_takeAway_0 : decode cX8_takeAway 0 = .ok (.iconst 0, 1) := by decide +kernel
theorem dX8_takeAway_1 : decode cX8_takeAway 1 = .ok (.istore_n 2, 1) := by decide +kernel
theorem dX8_takeAway_2 : decode cX8_takeAway 2 = .ok (.iconst 0, 1) := by decide +kernel
theorem dX8_takeAway_3 : decode cX8_takeAway 3 = .ok (.istore_n 3, 1) := by decide +kernel
theorem dX8_takeAway_4 : decode cX8_takeAway 4 = .ok (.iload_n 3, 1) := by decide +kernel
theorem dX8_takeAway_5 : decode cX8_takeAway 5 = .ok (.aload_n 0, 1) := by decide +kernel
theorem dX8_takeAway_6 : decode cX8_takeAway 6 = .ok (.getfield 36, 3) := by decide +kernel
theorem dX8_takeAway_9 : decode cX8_takeAway 9 = .ok (.if_icmp .ge 23, 3) := by decide +kernel
theorem dX8_takeAway_12 : decode cX8_takeAway 12 = .ok (.iload_n 3, 1) := by decide +kernel
theorem dX8_takeAway_13 : decode cX8_takeAway 13 = .ok (.iload_n 1, 1) := by decide +kernel
theorem dX8_takeAway_14 : decode cX8_takeAway 14 = .ok (.if_icmp .eq 12, 3) := by decide +kernel
theorem dX8_takeAway_17 : decode cX8_takeAway 17 = .ok (.aload_n 0, 1) := by decide +kernel
theorem dX8_takeAway_18 : decode cX8_takeAway 18 = .ok (.iload_n 3, 1) := by decide +kernel
theorem dX8_takeAway_19 : decode cX8_takeAway 19 = .ok (.iload_n 2, 1) := by decide +kernel
theorem dX8_takeAway_20 : decode cX8_takeAway 20 = .ok (.invokevirtual 94, 3) := by decide +kernel
theorem dX8_takeAway_23 : decode cX8_takeAway 23 = .ok (.iinc 2 1, 3) := by decide +kernel
theorem dX8_takeAway_26 : decode cX8_takeAway 26 = .ok (.iinc 3 1, 3) := by decide +kernel
theorem dX8_takeAway_29 : decode cX8_takeAway 29 = .ok (.goto (-25), 3) := by decide +kernel
theorem dX8_takeAway_32 : decode cX8_takeAway 32 = .ok (.aload_n 0, 1) := by decide +kernel
theorem dX8_takeAway_33 : decode cX8_takeAway 33 = .ok (.iload_n 2, 1) := by decide +kernel
theorem dX8_takeAway_34 : decode cX8_takeAway 34 = .ok (.putfield 36, 3) := by decide +kernel
theorem dX8_takeAway_37 : decode cX8_takeAway 37 = .ok (.iload_n 2, 1) := by decide +kernel
theorem dX8_takeAway_38 : decode cX8_takeAway 38 = .ok (.ireturn, 1) := by decide +kernel
theorem dX8_applyBlast_0 : decode cX8_applyBlast 0 = .ok (.iconst 0, 1) := by decide +kernel
theorem dX8_applyBlast_1 : decode cX8_applyBlast 1 = .ok (.istore_n 2, 1) := by decide +kernel
theorem dX8_applyBlast_2 : decode cX8_applyBlast 2 = .ok (.iload_n 2, 1) := by decide +kernel
theorem dX8_applyBlast_3 : decode cX8_applyBlast 3 = .ok (.bipush 36, 2) := by decide +kernel
theorem dX8_applyBlast_5 : decode cX8_applyBlast 5 = .ok (.if_icmp .ge 22, 3) := by decide +kernel
theorem dX8_applyBlast_8 : decode cX8_applyBlast 8 = .ok (.aload_n 1, 1) := by decide +kernel
theorem dX8_applyBlast_9 : decode cX8_applyBlast 9 = .ok (.iload_n 2, 1) := by decide +kernel
theorem dX8_applyBlast_10 : decode cX8_applyBlast 10 = .ok (.invokevirtual 98, 3) := by decide +kernel
theorem dX8_applyBlast_13 : decode cX8_applyBlast 13 = .ok (.ifCond .eq 8, 3) := by decide +kernel
theorem dX8_applyBlast_16 : decode cX8_applyBlast 16 = .ok (.aload_n 0, 1) := by decide +kernel
theorem dX8_applyBlast_17 : decode cX8_applyBlast 17 = .ok (.iload_n 2, 1) := by decide +kernel
theorem dX8_applyBlast_18 : decode cX8_applyBlast 18 = .ok (.invokevirtual 90, 3) := by decide +kernel
theorem dX8_applyBlast_21 : decode cX8_applyBlast 21 = .ok (.iinc 2 1, 3) := by decide +kernel
theorem dX8_applyBlast_24 : decode cX8_applyBlast 24 = .ok (.goto (-22), 3) := by decide +kernel
theorem dX8_applyBlast_27 : decode cX8_applyBlast 27 = .ok (.iconst 0, 1) := by decide +kernel
theorem dX8_applyBlast_28 : decode cX8_applyBlast 28 = .ok (.istore_n 2, 1) := by decide +kernel
theorem dX8_applyBlast_29 : decode cX8_applyBlast 29 = .ok (.iconst 0, 1) := by decide +kernel
theorem dX8_applyBlast_30 : decode cX8_applyBlast 30 = .ok (.istore_n 3, 1) := by decide +kernel
theorem dX8_applyBlast_31 : decode cX8_applyBlast 31 = .ok (.iload_n 3, 1) := by decide +kernel
theorem dX8_applyBlast_32 : decode cX8_applyBlast 32 = .ok (.aload_n 0, 1) := by decide +kernel
theorem dX8_applyBlast_33 : decode cX8_applyBlast 33 = .ok (.getfield 36, 3) := by decide +kernel
theorem dX8_applyBlast_36 : decode cX8_applyBlast 36 = .ok (.if_icmp .ge 26, 3) := by decide +kernel
theorem dX8_applyBlast_39 : decode cX8_applyBlast 39 = .ok (.aload_n 1, 1) := by decide +kernel
theorem dX8_applyBlast_40 : decode cX8_applyBlast 40 = .ok (.iload_n 3, 1) := by decide +kernel
theorem dX8_applyBlast_41 : decode cX8_applyBlast 41 = .ok (.invokevirtual 103, 3) := by decide +kernel
theorem dX8_applyBlast_44 : decode cX8_applyBlast 44 = .ok (.ifCond .ne 12, 3) := by decide +kernel
theorem dX8_applyBlast_47 : decode cX8_applyBlast 47 = .ok (.aload_n 0, 1) := by decide +kernel
theorem dX8_applyBlast_48 : decode cX8_applyBlast 48 = .ok (.iload_n 3, 1) := by decide +kernel
theorem dX8_applyBlast_49 : decode cX8_applyBlast 49 = .ok (.iload_n 2, 1) := by decide +kernel
theorem dX8_applyBlast_50 : decode cX8_applyBlast 50 = .ok (.invokevirtual 94, 3) := by decide +kernel
theorem dX8_applyBlast_53 : decode cX8_applyBlast 53 = .ok (.iinc 2 1, 3) := by decide +kernel
theorem dX8_applyBlast_56 : decode cX8_applyBlast 56 = .ok (.iinc 3 1, 3) := by decide +kernel
theorem dX8_applyBlast_59 : decode cX8_applyBlast 59 = .ok (.goto (-28), 3) := by decide +kernel
theorem dX8_applyBlast_62 : decode cX8_applyBlast 62 = .ok (.aload_n 0, 1) := by decide +kernel
theorem dX8_applyBlast_63 : decode cX8_applyBlast 63 = .ok (.iload_n 2, 1) := by decide +kernel
theorem dX8_applyBlast_64 : decode cX8_applyBlast 64 = .ok (.putfield 36, 3) := by decide +kernel
theorem dX8_applyBlast_67 : decode cX8_applyBlast 67 = .ok (.return_, 1) := by decide +kernel
theorem dX8_renumber_0 : decode cX8_renumber 0 = .ok (.aload_n 0, 1) := by decide +kernel
theorem dX8_renumber_1 : decode cX8_renumber 1 = .ok (.iload_n 1, 1) := by decide +kernel
theorem dX8_renumber_2 : decode cX8_renumber 2 = .ok (.invokevirtual 57, 3) := by decide +kernel
theorem dX8_renumber_5 : decode cX8_renumber 5 = .ok (.ifCond .eq 35, 3) := by decide +kernel
theorem dX8_renumber_8 : decode cX8_renumber 8 = .ok (.aload_n 0, 1) := by decide +kernel
theorem dX8_renumber_9 : decode cX8_renumber 9 = .ok (.iload_n 2, 1) := by decide +kernel
theorem dX8_renumber_10 : decode cX8_renumber 10 = .ok (.invokevirtual 57, 3) := by decide +kernel
theorem dX8_renumber_13 : decode cX8_renumber 13 = .ok (.ifCond .eq 27, 3) := by decide +kernel
theorem dX8_renumber_16 : decode cX8_renumber 16 = .ok (.aload_n 0, 1) := by decide +kernel
theorem dX8_renumber_17 : decode cX8_renumber 17 = .ok (.getfield 15, 3) := by decide +kernel
theorem dX8_renumber_20 : decode cX8_renumber 20 = .ok (.iload_n 2, 1) := by decide +kernel
theorem dX8_renumber_21 : decode cX8_renumber 21 = .ok (.aload_n 0, 1) := by decide +kernel
theorem dX8_renumber_22 : decode cX8_renumber 22 = .ok (.getfield 15, 3) := by decide +kernel
theorem dX8_renumber_25 : decode cX8_renumber 25 = .ok (.iload_n 1, 1) := by decide +kernel
theorem dX8_renumber_26 : decode cX8_renumber 26 = .ok (.iaload, 1) := by decide +kernel
theorem dX8_renumber_27 : decode cX8_renumber 27 = .ok (.iastore, 1) := by decide +kernel
theorem dX8_renumber_28 : decode cX8_renumber 28 = .ok (.aload_n 0, 1) := by decide +kernel
theorem dX8_renumber_29 : decode cX8_renumber 29 = .ok (.getfield 18, 3) := by decide +kernel
theorem dX8_renumber_32 : decode cX8_renumber 32 = .ok (.iload_n 2, 1) := by decide +kernel
theorem dX8_renumber_33 : decode cX8_renumber 33 = .ok (.aload_n 0, 1) := by decide +kernel
theorem dX8_renumber_34 : decode cX8_renumber 34 = .ok (.getfield 18, 3) := by decide +kernel
theorem dX8_renumber_37 : decode cX8_renumber 37 = .ok (.iload_n 1, 1) := by decide +kernel
theorem dX8_renumber_38 : decode cX8_renumber 38 = .ok (.iaload, 1) := by decide +kernel
theorem dX8_renumber_39 : decode cX8_renumber 39 = .ok (.iastore, 1) := by decide +kernel
theorem dX8_renumber_40 : decode cX8_renumber 40 = .ok (.return_, 1) := by decide +kernel
theorem dX8_putPrice_0 : decode cX8_putPrice 0 = .ok (.aload_n 0, 1) := by decide +kernel
theorem dX8_putPrice_1 : decode cX8_putPrice 1 = .ok (.iload_n 1, 1) := by decide +kernel
theorem dX8_putPrice_2 : decode cX8_putPrice 2 = .ok (.invokevirtual 106, 3) := by decide +kernel
theorem dX8_putPrice_5 : decode cX8_putPrice 5 = .ok (.istore_n 3, 1) := by decide +kernel
theorem dX8_putPrice_6 : decode cX8_putPrice 6 = .ok (.iload_n 1, 1) := by decide +kernel
theorem dX8_putPrice_7 : decode cX8_putPrice 7 = .ok (.iconst 1, 1) := by decide +kernel
theorem dX8_putPrice_8 : decode cX8_putPrice 8 = .ok (.bipush 10, 2) := by decide +kernel
theorem dX8_putPrice_10 : decode cX8_putPrice 10 = .ok (.invokestatic 64, 3) := by decide +kernel
theorem dX8_putPrice_13 : decode cX8_putPrice 13 = .ok (.ifCond .eq 10, 3) := by decide +kernel
theorem dX8_putPrice_16 : decode cX8_putPrice 16 = .ok (.aload_n 0, 1) := by decide +kernel
theorem dX8_putPrice_17 : decode cX8_putPrice 17 = .ok (.getfield 21, 3) := by decide +kernel
theorem dX8_putPrice_20 : decode cX8_putPrice 20 = .ok (.iload_n 1, 1) := by decide +kernel
theorem dX8_putPrice_21 : decode cX8_putPrice 21 = .ok (.iload_n 2, 1) := by decide +kernel
theorem dX8_putPrice_22 : decode cX8_putPrice 22 = .ok (.iastore, 1) := by decide +kernel
theorem dX8_putPrice_23 : decode cX8_putPrice 23 = .ok (.iload_n 3, 1) := by decide +kernel
theorem dX8_putPrice_24 : decode cX8_putPrice 24 = .ok (.ireturn, 1) := by decide +kernel
theorem dX8_handOver_0 : decode cX8_handOver 0 = .ok (.aload_n 0, 1) := by decide +kernel
theorem dX8_handOver_1 : decode cX8_handOver 1 = .ok (.dup, 1) := by decide +kernel
theorem dX8_handOver_2 : decode cX8_handOver 2 = .ok (.getfield 40, 3) := by decide +kernel
theorem dX8_handOver_5 : decode cX8_handOver 5 = .ok (.iload_n 1, 1) := by decide +kernel
theorem dX8_handOver_6 : decode cX8_handOver 6 = .ok (.isub, 1) := by decide +kernel
theorem dX8_handOver_7 : decode cX8_handOver 7 = .ok (.putfield 40, 3) := by decide +kernel
theorem dX8_handOver_10 : decode cX8_handOver 10 = .ok (.aload_n 0, 1) := by decide +kernel
theorem dX8_handOver_11 : decode cX8_handOver 11 = .ok (.dup, 1) := by decide +kernel
theorem dX8_handOver_12 : decode cX8_handOver 12 = .ok (.getfield 46, 3) := by decide +kernel
theorem dX8_handOver_15 : decode cX8_handOver 15 = .ok (.iload_n 1, 1) := by decide +kernel
theorem dX8_handOver_16 : decode cX8_handOver 16 = .ok (.iadd, 1) := by decide +kernel
theorem dX8_handOver_17 : decode cX8_handOver 17 = .ok (.putfield 46, 3) := by decide +kernel
theorem dX8_handOver_20 : decode cX8_handOver 20 = .ok (.aload_n 0, 1) := by decide +kernel
theorem dX8_handOver_21 : decode cX8_handOver 21 = .ok (.dup, 1) := by decide +kernel
theorem dX8_handOver_22 : decode cX8_handOver 22 = .ok (.getfield 49, 3) := by decide +kernel
theorem dX8_handOver_25 : decode cX8_handOver 25 = .ok (.iload_n 2, 1) := by decide +kernel
theorem dX8_handOver_26 : decode cX8_handOver 26 = .ok (.i2l, 1) := by decide +kernel
theorem dX8_handOver_27 : decode cX8_handOver 27 = .ok (.ladd, 1) := by decide +kernel
theorem dX8_handOver_28 : decode cX8_handOver 28 = .ok (.putfield 49, 3) := by decide +kernel
theorem dX8_handOver_31 : decode cX8_handOver 31 = .ok (.return_, 1) := by decide +kernel
theorem dX9_init_0 : decode cX9_init 0 = .ok (.aload_n 0, 1) := by decide +kernel
theorem dX9_init_1 : decode cX9_init 1 = .ok (.invokespecial 3, 3) := by decide +kernel
theorem dX9_init_4 : decode cX9_init 4 = .ok (.aload_n 0, 1) := by decide +kernel
theorem dX9_init_5 : decode cX9_init 5 = .ok (.bipush 36, 2) := by decide +kernel
theorem dX9_init_7 : decode cX9_init 7 = .ok (.newarray .int, 2) := by decide +kernel
theorem dX9_init_9 : decode cX9_init 9 = .ok (.putfield 9, 3) := by decide +kernel
theorem dX9_init_12 : decode cX9_init 12 = .ok (.aload_n 0, 1) := by decide +kernel
theorem dX9_init_13 : decode cX9_init 13 = .ok (.bipush 36, 2) := by decide +kernel
theorem dX9_init_15 : decode cX9_init 15 = .ok (.newarray .boolean, 2) := by decide +kernel
theorem dX9_init_17 : decode cX9_init 17 = .ok (.putfield 15, 3) := by decide +kernel
theorem dX9_init_20 : decode cX9_init 20 = .ok (.aload_n 0, 1) := by decide +kernel
theorem dX9_init_21 : decode cX9_init 21 = .ok (.bipush 64, 2) := by decide +kernel
theorem dX9_init_23 : decode cX9_init 23 = .ok (.newarray .int, 2) := by decide +kernel
theorem dX9_init_25 : decode cX9_init 25 = .ok (.putfield 19, 3) := by decide +kernel
theorem dX9_init_28 : decode cX9_init 28 = .ok (.aload_n 0, 1) := by decide +kernel
theorem dX9_init_29 : decode cX9_init 29 = .ok (.bipush 64, 2) := by decide +kernel
theorem dX9_init_31 : decode cX9_init 31 = .ok (.newarray .int, 2) := by decide +kernel
theorem dX9_init_33 : decode cX9_init 33 = .ok (.putfield 22, 3) := by decide +kernel
theorem dX9_init_36 : decode cX9_init 36 = .ok (.return_, 1) := by decide +kernel
theorem dX9_countByMoving_0 : decode cX9_countByMoving 0 = .ok (.aload_n 0, 1) := by decide +kernel
theorem dX9_countByMoving_1 : decode cX9_countByMoving 1 = .ok (.getfield 9, 3) := by decide +kernel
theorem dX9_countByMoving_4 : decode cX9_countByMoving 4 = .ok (.iconst (-1), 1) := by decide +kernel
theorem dX9_countByMoving_5 : decode cX9_countByMoving 5 = .ok (.invokestatic 25, 3) := by decide +kernel
theorem dX9_countByMoving_8 : decode cX9_countByMoving 8 = .ok (.iconst 0, 1) := by decide +kernel
theorem dX9_countByMoving_9 : decode cX9_countByMoving 9 = .ok (.istore_n 2, 1) := by decide +kernel
theorem dX9_countByMoving_10 : decode cX9_countByMoving 10 = .ok (.iconst 0, 1) := by decide +kernel
theorem dX9_countByMoving_11 : decode cX9_countByMoving 11 = .ok (.istore_n 3, 1) := by decide +kernel
theorem dX9_countByMoving_12 : decode cX9_countByMoving 12 = .ok (.iload_n 3, 1) := by decide +kernel
theorem dX9_countByMoving_13 : decode cX9_countByMoving 13 = .ok (.bipush 36, 2) := by decide +kernel
theorem dX9_countByMoving_15 : decode cX9_countByMoving 15 = .ok (.if_icmp .ge 51, 3) := by decide +kernel
theorem dX9_countByMoving_18 : decode cX9_countByMoving 18 = .ok (.iload_n 3, 1) := by decide +kernel
theorem dX9_countByMoving_19 : decode cX9_countByMoving 19 = .ok (.bipush 6, 2) := by decide +kernel
theorem dX9_countByMoving_21 : decode cX9_countByMoving 21 = .ok (.idiv, 1) := by decide +kernel
theorem dX9_countByMoving_22 : decode cX9_countByMoving 22 = .ok (.iload_n 3, 1) := by decide +kernel
theorem dX9_countByMoving_23 : decode cX9_countByMoving 23 = .ok (.bipush 6, 2) := by decide +kernel
theorem dX9_countByMoving_25 : decode cX9_countByMoving 25 = .ok (.irem, 1) := by decide +kernel
theorem dX9_countByMoving_26 : decode cX9_countByMoving 26 = .ok (.iadd, 1) := by decide +kernel
theorem dX9_countByMoving_27 : decode cX9_countByMoving 27 = .ok (.iconst 2, 1) := by decide +kernel
theorem dX9_countByMoving_28 : decode cX9_countByMoving 28 = .ok (.irem, 1) := by decide +kernel
theorem dX9_countByMoving_29 : decode cX9_countByMoving 29 = .ok (.ifCond .ne 31, 3) := by decide +kernel
theorem dX9_countByMoving_32 : decode cX9_countByMoving 32 = .ok (.aload_n 1, 1) := by decide +kernel
theorem dX9_countByMoving_33 : decode cX9_countByMoving 33 = .ok (.iload_n 3, 1) := by decide +kernel
theorem dX9_countByMoving_34 : decode cX9_countByMoving 34 = .ok (.invokevirtual 31, 3) := by decide +kernel
theorem dX9_countByMoving_37 : decode cX9_countByMoving 37 = .ok (.ifCond .eq 23, 3) := by decide +kernel
theorem dX9_countByMoving_40 : decode cX9_countByMoving 40 = .ok (.aload_n 0, 1) := by decide +kernel
theorem dX9_countByMoving_41 : decode cX9_countByMoving 41 = .ok (.getfield 15, 3) := by decide +kernel
theorem dX9_countByMoving_44 : decode cX9_countByMoving 44 = .ok (.invokestatic 37, 3) := by decide +kernel
theorem dX9_countByMoving_47 : decode cX9_countByMoving 47 = .ok (.aload_n 0, 1) := by decide +kernel
theorem dX9_countByMoving_48 : decode cX9_countByMoving 48 = .ok (.aload_n 1, 1) := by decide +kernel
theorem dX9_countByMoving_49 : decode cX9_countByMoving 49 = .ok (.iload_n 3, 1) := by decide +kernel
theorem dX9_countByMoving_50 : decode cX9_countByMoving 50 = .ok (.iconst 0, 1) := by decide +kernel
theorem dX9_countByMoving_51 : decode cX9_countByMoving 51 = .ok (.invokestatic 41, 3) := by decide +kernel
theorem dX9_countByMoving_54 : decode cX9_countByMoving 54 = .ok (.ifCond .eq 6, 3) := by decide +kernel
theorem dX9_countByMoving_57 : decode cX9_countByMoving 57 = .ok (.iinc 2 1, 3) := by decide +kernel
theorem dX9_countByMoving_60 : decode cX9_countByMoving 60 = .ok (.iinc 3 1, 3) := by decide +kernel
theorem dX9_countByMoving_63 : decode cX9_countByMoving 63 = .ok (.goto (-51), 3) := by decide +kernel
theorem dX9_countByMoving_66 : decode cX9_countByMoving 66 = .ok (.iload_n 2, 1) := by decide +kernel
theorem dX9_countByMoving_67 : decode cX9_countByMoving 67 = .ok (.ireturn, 1) := by decide +kernel
theorem dX9_makeRoom_0 : decode cX9_makeRoom 0 = .ok (.iload_n 3, 1) := by decide +kernel
theorem dX9_makeRoom_1 : decode cX9_makeRoom 1 = .ok (.bipush 36, 2) := by decide +kernel
theorem dX9_makeRoom_3 : decode cX9_makeRoom 3 = .ok (.if_icmp .lt 5, 3) := by decide +kernel
theorem dX9_makeRoom_6 : decode cX9_makeRoom 6 = .ok (.iconst 0, 1) := by decide +kernel
theorem dX9_makeRoom_7 : decode cX9_makeRoom 7 = .ok (.ireturn, 1) := by decide +kernel
theorem dX9_makeRoom_8 : decode cX9_makeRoom 8 = .ok (.iconst 0, 1) := by decide +kernel
theorem dX9_makeRoom_9 : decode cX9_makeRoom 9 = .ok (.istore 4, 2) := by decide +kernel
theorem dX9_makeRoom_11 : decode cX9_makeRoom 11 = .ok (.iload 4, 2) := by decide +kernel
theorem dX9_makeRoom_13 : decode cX9_makeRoom 13 = .ok (.iconst 4, 1) := by decide +kernel
theorem dX9_makeRoom_14 : decode cX9_makeRoom 14 = .ok (.if_icmp .ge 90, 3) := by decide +kernel
theorem dX9_makeRoom_17 : decode cX9_makeRoom 17 = .ok (.iload_n 2, 1) := by decide +kernel
theorem dX9_makeRoom_18 : decode cX9_makeRoom 18 = .ok (.iload 4, 2) := by decide +kernel
theorem dX9_makeRoom_20 : decode cX9_makeRoom 20 = .ok (.invokestatic 45, 3) := by decide +kernel
theorem dX9_makeRoom_23 : decode cX9_makeRoom 23 = .ok (.istore 5, 2) := by decide +kernel
theorem dX9_makeRoom_25 : decode cX9_makeRoom 25 = .ok (.iload 5, 2) := by decide +kernel
theorem dX9_makeRoom_27 : decode cX9_makeRoom 27 = .ok (.invokestatic 49, 3) := by decide +kernel
theorem dX9_makeRoom_30 : decode cX9_makeRoom 30 = .ok (.ifCond .eq 68, 3) := by decide +kernel
theorem dX9_makeRoom_33 : decode cX9_makeRoom 33 = .ok (.aload_n 1, 1) := by decide +kernel
theorem dX9_makeRoom_34 : decode cX9_makeRoom 34 = .ok (.iload 5, 2) := by decide +kernel
theorem dX9_makeRoom_36 : decode cX9_makeRoom 36 = .ok (.invokevirtual 31, 3) := by decide +kernel
theorem dX9_makeRoom_39 : decode cX9_makeRoom 39 = .ok (.ifCond .eq 59, 3) := by decide +kernel
theorem dX9_makeRoom_42 : decode cX9_makeRoom 42 = .ok (.aload_n 0, 1) := by decide +kernel
theorem dX9_makeRoom_43 : decode cX9_makeRoom 43 = .ok (.getfield 15, 3) := by decide +kernel
theorem dX9_makeRoom_46 : decode cX9_makeRoom 46 = .ok (.iload 5, 2) := by decide +kernel
theorem dX9_makeRoom_48 : decode cX9_makeRoom 48 = .ok (.baload, 1) := by decide +kernel
theorem dX9_makeRoom_49 : decode cX9_makeRoom 49 = .ok (.ifCond .ne 49, 3) := by decide +kernel
theorem dX9_makeRoom_52 : decode cX9_makeRoom 52 = .ok (.aload_n 0, 1) := by decide +kernel
theorem dX9_makeRoom_53 : decode cX9_makeRoom 53 = .ok (.getfield 15, 3) := by decide +kernel
theorem dX9_makeRoom_56 : decode cX9_makeRoom 56 = .ok (.iload 5, 2) := by decide +kernel
theorem dX9_makeRoom_58 : decode cX9_makeRoom 58 = .ok (.iconst 1, 1) := by decide +kernel
theorem dX9_makeRoom_59 : decode cX9_makeRoom 59 = .ok (.bastore, 1) := by decide +kernel
theorem dX9_makeRoom_60 : decode cX9_makeRoom 60 = .ok (.aload_n 0, 1) := by decide +kernel
theorem dX9_makeRoom_61 : decode cX9_makeRoom 61 = .ok (.getfield 9, 3) := by decide +kernel
theorem dX9_makeRoom_64 : decode cX9_makeRoom 64 = .ok (.iload 5, 2) := by decide +kernel
theorem dX9_makeRoom_66 : decode cX9_makeRoom 66 = .ok (.iaload, 1) := by decide +kernel
theorem dX9_makeRoom_67 : decode cX9_makeRoom 67 = .ok (.istore 6, 2) := by decide +kernel
theorem dX9_makeRoom_69 : decode cX9_makeRoom 69 = .ok (.iload 6, 2) := by decide +kernel
theorem dX9_makeRoom_71 : decode cX9_makeRoom 71 = .ok (.iconst (-1), 1) := by decide +kernel
theorem dX9_makeRoom_72 : decode cX9_makeRoom 72 = .ok (.if_icmp .eq 16, 3) := by decide +kernel
theorem dX9_makeRoom_75 : decode cX9_makeRoom 75 = .ok (.aload_n 0, 1) := by decide +kernel
theorem dX9_makeRoom_76 : decode cX9_makeRoom 76 = .ok (.aload_n 1, 1) := by decide +kernel
theorem dX9_makeRoom_77 : decode cX9_makeRoom 77 = .ok (.iload 6, 2) := by decide +kernel
theorem dX9_makeRoom_79 : decode cX9_makeRoom 79 = .ok (.iload_n 3, 1) := by decide +kernel
theorem dX9_makeRoom_80 : decode cX9_makeRoom 80 = .ok (.iconst 1, 1) := by decide +kernel
theorem dX9_makeRoom_81 : decode cX9_makeRoom 81 = .ok (.iadd, 1) := by decide +kernel
theorem dX9_makeRoom_82 : decode cX9_makeRoom 82 = .ok (.invokestatic 41, 3) := by decide +kernel
theorem dX9_makeRoom_85 : decode cX9_makeRoom 85 = .ok (.ifCond .eq 13, 3) := by decide +kernel
theorem dX9_makeRoom_88 : decode cX9_makeRoom 88 = .ok (.aload_n 0, 1) := by decide +kernel
theorem dX9_makeRoom_89 : decode cX9_makeRoom 89 = .ok (.getfield 9, 3) := by decide +kernel
theorem dX9_makeRoom_92 : decode cX9_makeRoom 92 = .ok (.iload 5, 2) := by decide +kernel
theorem dX9_makeRoom_94 : decode cX9_makeRoom 94 = .ok (.iload_n 2, 1) := by decide +kernel
theorem dX9_makeRoom_95 : decode cX9_makeRoom 95 = .ok (.iastore, 1) := by decide +kernel
theorem dX9_makeRoom_96 : decode cX9_makeRoom 96 = .ok (.iconst 1, 1) := by decide +kernel
theorem dX9_makeRoom_97 : decode cX9_makeRoom 97 = .ok (.ireturn, 1) := by decide +kernel
theorem dX9_makeRoom_98 : decode cX9_makeRoom 98 = .ok (.iinc 4 1, 3) := by decide +kernel
theorem dX9_makeRoom_101 : decode cX9_makeRoom 101 = .ok (.goto (-90), 3) := by decide +kernel
theorem dX9_makeRoom_104 : decode cX9_makeRoom 104 = .ok (.iconst 0, 1) := by decide +kernel
theorem dX9_makeRoom_105 : decode cX9_makeRoom 105 = .ok (.ireturn, 1) := by decide +kernel
theorem dX9_countByCells_0 : decode cX9_countByCells 0 = .ok (.aload_n 0, 1) := by decide +kernel
theorem dX9_countByCells_1 : decode cX9_countByCells 1 = .ok (.getfield 19, 3) := by decide +kernel
theorem dX9_countByCells_4 : decode cX9_countByCells 4 = .ok (.iconst (-1), 1) := by decide +kernel
theorem dX9_countByCells_5 : decode cX9_countByCells 5 = .ok (.invokestatic 25, 3) := by decide +kernel
theorem dX9_countByCells_8 : decode cX9_countByCells 8 = .ok (.aload_n 0, 1) := by decide +kernel
theorem dX9_countByCells_9 : decode cX9_countByCells 9 = .ok (.getfield 19, 3) := by decide +kernel
theorem dX9_countByCells_12 : decode cX9_countByCells 12 = .ok (.iconst 0, 1) := by decide +kernel
theorem dX9_countByCells_13 : decode cX9_countByCells 13 = .ok (.iconst 0, 1) := by decide +kernel
theorem dX9_countByCells_14 : decode cX9_countByCells 14 = .ok (.iastore, 1) := by decide +kernel
theorem dX9_countByCells_15 : decode cX9_countByCells 15 = .ok (.iconst 0, 1) := by decide +kernel
theorem dX9_countByCells_16 : decode cX9_countByCells 16 = .ok (.istore_n 2, 1) := by decide +kernel
theorem dX9_countByCells_17 : decode cX9_countByCells 17 = .ok (.iload_n 2, 1) := by decide +kernel
theorem dX9_countByCells_18 : decode cX9_countByCells 18 = .ok (.bipush 36, 2) := by decide +kernel
theorem dX9_countByCells_20 : decode cX9_countByCells 20 = .ok (.if_icmp .ge 63, 3) := by decide +kernel
theorem dX9_countByCells_23 : decode cX9_countByCells 23 = .ok (.aload_n 0, 1) := by decide +kernel
theorem dX9_countByCells_24 : decode cX9_countByCells 24 = .ok (.getfield 22, 3) := by decide +kernel
theorem dX9_countByCells_27 : decode cX9_countByCells 27 = .ok (.iconst (-1), 1) := by decide +kernel
theorem dX9_countByCells_28 : decode cX9_countByCells 28 = .ok (.invokestatic 25, 3) := by decide +kernel
theorem dX9_countByCells_31 : decode cX9_countByCells 31 = .ok (.iconst 0, 1) := by decide +kernel
theorem dX9_countByCells_32 : decode cX9_countByCells 32 = .ok (.istore_n 3, 1) := by decide +kernel
theorem dX9_countByCells_33 : decode cX9_countByCells 33 = .ok (.iload_n 3, 1) := by decide +kernel
theorem dX9_countByCells_34 : decode cX9_countByCells 34 = .ok (.bipush 64, 2) := by decide +kernel
theorem dX9_countByCells_36 : decode cX9_countByCells 36 = .ok (.if_icmp .ge 26, 3) := by decide +kernel
theorem dX9_countByCells_39 : decode cX9_countByCells 39 = .ok (.aload_n 0, 1) := by decide +kernel
theorem dX9_countByCells_40 : decode cX9_countByCells 40 = .ok (.getfield 19, 3) := by decide +kernel
theorem dX9_countByCells_43 : decode cX9_countByCells 43 = .ok (.iload_n 3, 1) := by decide +kernel
theorem dX9_countByCells_44 : decode cX9_countByCells 44 = .ok (.iaload, 1) := by decide +kernel
theorem dX9_countByCells_45 : decode cX9_countByCells 45 = .ok (.iconst (-1), 1) := by decide +kernel
theorem dX9_countByCells_46 : decode cX9_countByCells 46 = .ok (.if_icmp .eq 10, 3) := by decide +kernel
theorem dX9_countByCells_49 : decode cX9_countByCells 49 = .ok (.aload_n 0, 1) := by decide +kernel
theorem dX9_countByCells_50 : decode cX9_countByCells 50 = .ok (.aload_n 1, 1) := by decide +kernel
theorem dX9_countByCells_51 : decode cX9_countByCells 51 = .ok (.iload_n 2, 1) := by decide +kernel
theorem dX9_countByCells_52 : decode cX9_countByCells 52 = .ok (.iload_n 3, 1) := by decide +kernel
theorem dX9_countByCells_53 : decode cX9_countByCells 53 = .ok (.invokevirtual 52, 3) := by decide +kernel
theorem dX9_countByCells_56 : decode cX9_countByCells 56 = .ok (.iinc 3 1, 3) := by decide +kernel
theorem dX9_countByCells_59 : decode cX9_countByCells 59 = .ok (.goto (-26), 3) := by decide +kernel
theorem dX9_countByCells_62 : decode cX9_countByCells 62 = .ok (.aload_n 0, 1) := by decide +kernel
theorem dX9_countByCells_63 : decode cX9_countByCells 63 = .ok (.getfield 22, 3) := by decide +kernel
theorem dX9_countByCells_66 : decode cX9_countByCells 66 = .ok (.iconst 0, 1) := by decide +kernel
theorem dX9_countByCells_67 : decode cX9_countByCells 67 = .ok (.aload_n 0, 1) := by decide +kernel
theorem dX9_countByCells_68 : decode cX9_countByCells 68 = .ok (.getfield 19, 3) := by decide +kernel
theorem dX9_countByCells_71 : decode cX9_countByCells 71 = .ok (.iconst 0, 1) := by decide +kernel
theorem dX9_countByCells_72 : decode cX9_countByCells 72 = .ok (.bipush 64, 2) := by decide +kernel
theorem dX9_countByCells_74 : decode cX9_countByCells 74 = .ok (.invokestatic 56, 3) := by decide +kernel
theorem dX9_countByCells_77 : decode cX9_countByCells 77 = .ok (.iinc 2 1, 3) := by decide +kernel
theorem dX9_countByCells_80 : decode cX9_countByCells 80 = .ok (.goto (-63), 3) := by decide +kernel
theorem dX9_countByCells_83 : decode cX9_countByCells 83 = .ok (.aload_n 0, 1) := by decide +kernel
theorem dX9_countByCells_84 : decode cX9_countByCells 84 = .ok (.getfield 19, 3) := by decide +kernel
theorem dX9_countByCells_87 : decode cX9_countByCells 87 = .ok (.iconst 0, 1) := by decide +kernel
theorem dX9_countByCells_88 : decode cX9_countByCells 88 = .ok (.iaload, 1) := by decide +kernel
theorem dX9_countByCells_89 : decode cX9_countByCells 89 = .ok (.ireturn, 1) := by decide +kernel
theorem dX9_passCell_0 : decode cX9_passCell 0 = .ok (.iload_n 3, 1) := by decide +kernel
theorem dX9_passCell_1 : decode cX9_passCell 1 = .ok (.ifCond .lt 18, 3) := by decide +kernel
theorem dX9_passCell_4 : decode cX9_passCell 4 = .ok (.iload_n 3, 1) := by decide +kernel
theorem dX9_passCell_5 : decode cX9_passCell 5 = .ok (.bipush 64, 2) := by decide +kernel
theorem dX9_passCell_7 : decode cX9_passCell 7 = .ok (.if_icmp .ge 12, 3) := by decide +kernel
theorem dX9_passCell_10 : decode cX9_passCell 10 = .ok (.aload_n 0, 1) := by decide +kernel
theorem dX9_passCell_11 : decode cX9_passCell 11 = .ok (.getfield 19, 3) := by decide +kernel
theorem dX9_passCell_14 : decode cX9_passCell 14 = .ok (.iload_n 3, 1) := by decide +kernel
theorem dX9_passCell_15 : decode cX9_passCell 15 = .ok (.iaload, 1) := by decide +kernel
theorem dX9_passCell_16 : decode cX9_passCell 16 = .ok (.goto 4, 3) := by decide +kernel
theorem dX9_passCell_19 : decode cX9_passCell 19 = .ok (.iconst (-1), 1) := by decide +kernel
theorem dX9_passCell_20 : decode cX9_passCell 20 = .ok (.istore 4, 2) := by decide +kernel
theorem dX9_passCell_22 : decode cX9_passCell 22 = .ok (.iload_n 3, 1) := by decide +kernel
theorem dX9_passCell_23 : decode cX9_passCell 23 = .ok (.iconst 1, 1) := by decide +kernel
theorem dX9_passCell_24 : decode cX9_passCell 24 = .ok (.ishr, 1) := by decide +kernel
theorem dX9_passCell_25 : decode cX9_passCell 25 = .ok (.istore 5, 2) := by decide +kernel
theorem dX9_passCell_27 : decode cX9_passCell 27 = .ok (.aload_n 0, 1) := by decide +kernel
theorem dX9_passCell_28 : decode cX9_passCell 28 = .ok (.iload 5, 2) := by decide +kernel
theorem dX9_passCell_30 : decode cX9_passCell 30 = .ok (.iload 4, 2) := by decide +kernel
theorem dX9_passCell_32 : decode cX9_passCell 32 = .ok (.invokevirtual 62, 3) := by decide +kernel
theorem dX9_passCell_35 : decode cX9_passCell 35 = .ok (.iload_n 3, 1) := by decide +kernel
theorem dX9_passCell_36 : decode cX9_passCell 36 = .ok (.iconst 1, 1) := by decide +kernel
theorem dX9_passCell_37 : decode cX9_passCell 37 = .ok (.iand, 1) := by decide +kernel
theorem dX9_passCell_38 : decode cX9_passCell 38 = .ok (.ifCond .ne 11, 3) := by decide +kernel
theorem dX9_passCell_41 : decode cX9_passCell 41 = .ok (.aload_n 1, 1) := by decide +kernel
theorem dX9_passCell_42 : decode cX9_passCell 42 = .ok (.iload_n 2, 1) := by decide +kernel
theorem dX9_passCell_43 : decode cX9_passCell 43 = .ok (.invokevirtual 31, 3) := by decide +kernel
theorem dX9_passCell_46 : decode cX9_passCell 46 = .ok (.ifCond .ne 4, 3) := by decide +kernel
theorem dX9_passCell_49 : decode cX9_passCell 49 = .ok (.return_, 1) := by decide +kernel
theorem dX9_passCell_50 : decode cX9_passCell 50 = .ok (.iload_n 2, 1) := by decide +kernel
theorem dX9_passCell_51 : decode cX9_passCell 51 = .ok (.bipush 6, 2) := by decide +kernel
theorem dX9_passCell_53 : decode cX9_passCell 53 = .ok (.irem, 1) := by decide +kernel
theorem dX9_passCell_54 : decode cX9_passCell 54 = .ok (.iconst 5, 1) := by decide +kernel
theorem dX9_passCell_55 : decode cX9_passCell 55 = .ok (.if_icmp .ge 32, 3) := by decide +kernel
theorem dX9_passCell_58 : decode cX9_passCell 58 = .ok (.aload_n 1, 1) := by decide +kernel
theorem dX9_passCell_59 : decode cX9_passCell 59 = .ok (.iload_n 2, 1) := by decide +kernel
theorem dX9_passCell_60 : decode cX9_passCell 60 = .ok (.iconst 1, 1) := by decide +kernel
theorem dX9_passCell_61 : decode cX9_passCell 61 = .ok (.iadd, 1) := by decide +kernel
theorem dX9_passCell_62 : decode cX9_passCell 62 = .ok (.invokevirtual 31, 3) := by decide +kernel
theorem dX9_passCell_65 : decode cX9_passCell 65 = .ok (.ifCond .eq 22, 3) := by decide +kernel
theorem dX9_passCell_68 : decode cX9_passCell 68 = .ok (.iload 5, 2) := by decide +kernel
theorem dX9_passCell_70 : decode cX9_passCell 70 = .ok (.iconst 1, 1) := by decide +kernel
theorem dX9_passCell_71 : decode cX9_passCell 71 = .ok (.iand, 1) := by decide +kernel
theorem dX9_passCell_72 : decode cX9_passCell 72 = .ok (.ifCond .ne 15, 3) := by decide +kernel
theorem dX9_passCell_75 : decode cX9_passCell 75 = .ok (.aload_n 0, 1) := by decide +kernel
theorem dX9_passCell_76 : decode cX9_passCell 76 = .ok (.iload 5, 2) := by decide +kernel
theorem dX9_passCell_78 : decode cX9_passCell 78 = .ok (.iconst 1, 1) := by decide +kernel
theorem dX9_passCell_79 : decode cX9_passCell 79 = .ok (.ior, 1) := by decide +kernel
theorem dX9_passCell_80 : decode cX9_passCell 80 = .ok (.iload 4, 2) := by decide +kernel
theorem dX9_passCell_82 : decode cX9_passCell 82 = .ok (.iconst 1, 1) := by decide +kernel
theorem dX9_passCell_83 : decode cX9_passCell 83 = .ok (.iadd, 1) := by decide +kernel
theorem dX9_passCell_84 : decode cX9_passCell 84 = .ok (.invokevirtual 62, 3) := by decide +kernel
theorem dX9_passCell_87 : decode cX9_passCell 87 = .ok (.aload_n 1, 1) := by decide +kernel
theorem dX9_passCell_88 : decode cX9_passCell 88 = .ok (.iload_n 2, 1) := by decide +kernel
theorem dX9_passCell_89 : decode cX9_passCell 89 = .ok (.bipush 6, 2) := by decide +kernel
theorem dX9_passCell_91 : decode cX9_passCell 91 = .ok (.iadd, 1) := by decide +kernel
theorem dX9_passCell_92 : decode cX9_passCell 92 = .ok (.invokevirtual 31, 3) := by decide +kernel
theorem dX9_passCell_95 : decode cX9_passCell 95 = .ok (.ifCond .eq 16, 3) := by decide +kernel
theorem dX9_passCell_98 : decode cX9_passCell 98 = .ok (.aload_n 0, 1) := by decide +kernel
theorem dX9_passCell_99 : decode cX9_passCell 99 = .ok (.iload 5, 2) := by decide +kernel
theorem dX9_passCell_101 : decode cX9_passCell 101 = .ok (.bipush 32, 2) := by decide +kernel
theorem dX9_passCell_103 : decode cX9_passCell 103 = .ok (.ior, 1) := by decide +kernel
theorem dX9_passCell_104 : decode cX9_passCell 104 = .ok (.iload 4, 2) := by decide +kernel
theorem dX9_passCell_106 : decode cX9_passCell 106 = .ok (.iconst 1, 1) := by decide +kernel
theorem dX9_passCell_107 : decode cX9_passCell 107 = .ok (.iadd, 1) := by decide +kernel
theorem dX9_passCell_108 : decode cX9_passCell 108 = .ok (.invokevirtual 62, 3) := by decide +kernel
theorem dX9_passCell_111 : decode cX9_passCell 111 = .ok (.return_, 1) := by decide +kernel
theorem dX9_reach_0 : decode cX9_reach 0 = .ok (.iload_n 1, 1) := by decide +kernel
theorem dX9_reach_1 : decode cX9_reach 1 = .ok (.ifCond .lt 26, 3) := by decide +kernel
theorem dX9_reach_4 : decode cX9_reach 4 = .ok (.iload_n 1, 1) := by decide +kernel
theorem dX9_reach_5 : decode cX9_reach 5 = .ok (.bipush 64, 2) := by decide +kernel
theorem dX9_reach_7 : decode cX9_reach 7 = .ok (.if_icmp .ge 20, 3) := by decide +kernel
theorem dX9_reach_10 : decode cX9_reach 10 = .ok (.iload_n 2, 1) := by decide +kernel
theorem dX9_reach_11 : decode cX9_reach 11 = .ok (.aload_n 0, 1) := by decide +kernel
theorem dX9_reach_12 : decode cX9_reach 12 = .ok (.getfield 22, 3) := by decide +kernel
theorem dX9_reach_15 : decode cX9_reach 15 = .ok (.iload_n 1, 1) := by decide +kernel
theorem dX9_reach_16 : decode cX9_reach 16 = .ok (.iaload, 1) := by decide +kernel
theorem dX9_reach_17 : decode cX9_reach 17 = .ok (.if_icmp .le 10, 3) := by decide +kernel
theorem dX9_reach_20 : decode cX9_reach 20 = .ok (.aload_n 0, 1) := by decide +kernel
theorem dX9_reach_21 : decode cX9_reach 21 = .ok (.getfield 22, 3) := by decide +kernel
theorem dX9_reach_24 : decode cX9_reach 24 = .ok (.iload_n 1, 1) := by decide +kernel
theorem dX9_reach_25 : decode cX9_reach 25 = .ok (.iload_n 2, 1) := by decide +kernel
theorem dX9_reach_26 : decode cX9_reach 26 = .ok (.iastore, 1) := by decide +kernel
theorem dX9_reach_27 : decode cX9_reach 27 = .ok (.return_, 1) := by decide +kernel
theorem dX10_init_0 : decode cX10_init 0 = .ok (.aload_n 0, 1) := by decide +kernel
theorem dX10_init_1 : decode cX10_init 1 = .ok (.invokespecial 3, 3) := by decide +kernel
theorem dX10_init_4 : decode cX10_init 4 = .ok (.aload_n 0, 1) := by decide +kernel
theorem dX10_init_5 : decode cX10_init 5 = .ok (.bipush 36, 2) := by decide +kernel
theorem dX10_init_7 : decode cX10_init 7 = .ok (.newarray .int, 2) := by decide +kernel
theorem dX10_init_9 : decode cX10_init 9 = .ok (.putfield 9, 3) := by decide +kernel
theorem dX10_init_12 : decode cX10_init 12 = .ok (.aload_n 0, 1) := by decide +kernel
theorem dX10_init_13 : decode cX10_init 13 = .ok (.bipush 36, 2) := by decide +kernel
theorem dX10_init_15 : decode cX10_init 15 = .ok (.newarray .boolean, 2) := by decide +kernel
theorem dX10_init_17 : decode cX10_init 17 = .ok (.putfield 15, 3) := by decide +kernel
theorem dX10_init_20 : decode cX10_init 20 = .ok (.return_, 1) := by decide +kernel
theorem dX10_costByNearest_0 : decode cX10_costByNearest 0 = .ok (.aload_n 0, 1) := by decide +kernel
theorem dX10_costByNearest_1 : decode cX10_costByNearest 1 = .ok (.aload_n 1, 1) := by decide +kernel
theorem dX10_costByNearest_2 : decode cX10_costByNearest 2 = .ok (.invokevirtual 19, 3) := by decide +kernel
theorem dX10_costByNearest_5 : decode cX10_costByNearest 5 = .ok (.aload_n 0, 1) := by decide +kernel
theorem dX10_costByNearest_6 : decode cX10_costByNearest 6 = .ok (.getfield 15, 3) := by decide +kernel
theorem dX10_costByNearest_9 : decode cX10_costByNearest 9 = .ok (.invokestatic 23, 3) := by decide +kernel
theorem dX10_costByNearest_12 : decode cX10_costByNearest 12 = .ok (.iconst 0, 1) := by decide +kernel
theorem dX10_costByNearest_13 : decode cX10_costByNearest 13 = .ok (.istore_n 2, 1) := by decide +kernel
theorem dX10_costByNearest_14 : decode cX10_costByNearest 14 = .ok (.iload_n 2, 1) := by decide +kernel
theorem dX10_costByNearest_15 : decode cX10_costByNearest 15 = .ok (.bipush 36, 2) := by decide +kernel
theorem dX10_costByNearest_17 : decode cX10_costByNearest 17 = .ok (.if_icmp .ge 53, 3) := by decide +kernel
theorem dX10_costByNearest_20 : decode cX10_costByNearest 20 = .ok (.aload_n 0, 1) := by decide +kernel
theorem dX10_costByNearest_21 : decode cX10_costByNearest 21 = .ok (.invokevirtual 27, 3) := by decide +kernel
theorem dX10_costByNearest_24 : decode cX10_costByNearest 24 = .ok (.istore_n 3, 1) := by decide +kernel
theorem dX10_costByNearest_25 : decode cX10_costByNearest 25 = .ok (.iload_n 3, 1) := by decide +kernel
theorem dX10_costByNearest_26 : decode cX10_costByNearest 26 = .ok (.invokestatic 31, 3) := by decide +kernel
theorem dX10_costByNearest_29 : decode cX10_costByNearest 29 = .ok (.ifCond .ne 6, 3) := by decide +kernel
theorem dX10_costByNearest_32 : decode cX10_costByNearest 32 = .ok (.goto 38, 3) := by decide +kernel
theorem dX10_costByNearest_35 : decode cX10_costByNearest 35 = .ok (.iload_n 3, 1) := by decide +kernel
theorem dX10_costByNearest_36 : decode cX10_costByNearest 36 = .ok (.bipush 6, 2) := by decide +kernel
theorem dX10_costByNearest_38 : decode cX10_costByNearest 38 = .ok (.irem, 1) := by decide +kernel
theorem dX10_costByNearest_39 : decode cX10_costByNearest 39 = .ok (.iconst 5, 1) := by decide +kernel
theorem dX10_costByNearest_40 : decode cX10_costByNearest 40 = .ok (.if_icmp .ne 10, 3) := by decide +kernel
theorem dX10_costByNearest_43 : decode cX10_costByNearest 43 = .ok (.aload_n 0, 1) := by decide +kernel
theorem dX10_costByNearest_44 : decode cX10_costByNearest 44 = .ok (.getfield 9, 3) := by decide +kernel
theorem dX10_costByNearest_47 : decode cX10_costByNearest 47 = .ok (.iload_n 3, 1) := by decide +kernel
theorem dX10_costByNearest_48 : decode cX10_costByNearest 48 = .ok (.iaload, 1) := by decide +kernel
theorem dX10_costByNearest_49 : decode cX10_costByNearest 49 = .ok (.ireturn, 1) := by decide +kernel
theorem dX10_costByNearest_50 : decode cX10_costByNearest 50 = .ok (.aload_n 0, 1) := by decide +kernel
theorem dX10_costByNearest_51 : decode cX10_costByNearest 51 = .ok (.getfield 15, 3) := by decide +kernel
theorem dX10_costByNearest_54 : decode cX10_costByNearest 54 = .ok (.iload_n 3, 1) := by decide +kernel
theorem dX10_costByNearest_55 : decode cX10_costByNearest 55 = .ok (.iconst 1, 1) := by decide +kernel
theorem dX10_costByNearest_56 : decode cX10_costByNearest 56 = .ok (.bastore, 1) := by decide +kernel
theorem dX10_costByNearest_57 : decode cX10_costByNearest 57 = .ok (.aload_n 0, 1) := by decide +kernel
theorem dX10_costByNearest_58 : decode cX10_costByNearest 58 = .ok (.aload_n 1, 1) := by decide +kernel
theorem dX10_costByNearest_59 : decode cX10_costByNearest 59 = .ok (.iload_n 3, 1) := by decide +kernel
theorem dX10_costByNearest_60 : decode cX10_costByNearest 60 = .ok (.invokevirtual 35, 3) := by decide +kernel
theorem dX10_costByNearest_63 : decode cX10_costByNearest 63 = .ok (.pop, 1) := by decide +kernel
theorem dX10_costByNearest_64 : decode cX10_costByNearest 64 = .ok (.iinc 2 1, 3) := by decide +kernel
theorem dX10_costByNearest_67 : decode cX10_costByNearest 67 = .ok (.goto (-53), 3) := by decide +kernel
theorem dX10_costByNearest_70 : decode cX10_costByNearest 70 = .ok (.aload_n 0, 1) := by decide +kernel
theorem dX10_costByNearest_71 : decode cX10_costByNearest 71 = .ok (.invokevirtual 39, 3) := by decide +kernel
theorem dX10_costByNearest_74 : decode cX10_costByNearest 74 = .ok (.ireturn, 1) := by decide +kernel
theorem dX10_costByRounds_0 : decode cX10_costByRounds 0 = .ok (.aload_n 0, 1) := by decide +kernel
theorem dX10_costByRounds_1 : decode cX10_costByRounds 1 = .ok (.aload_n 1, 1) := by decide +kernel
theorem dX10_costByRounds_2 : decode cX10_costByRounds 2 = .ok (.invokevirtual 19, 3) := by decide +kernel
theorem dX10_costByRounds_5 : decode cX10_costByRounds 5 = .ok (.iconst 1, 1) := by decide +kernel
theorem dX10_costByRounds_6 : decode cX10_costByRounds 6 = .ok (.istore_n 2, 1) := by decide +kernel
theorem dX10_costByRounds_7 : decode cX10_costByRounds 7 = .ok (.iconst 0, 1) := by decide +kernel
theorem dX10_costByRounds_8 : decode cX10_costByRounds 8 = .ok (.istore_n 3, 1) := by decide +kernel
theorem dX10_costByRounds_9 : decode cX10_costByRounds 9 = .ok (.iload_n 3, 1) := by decide +kernel
theorem dX10_costByRounds_10 : decode cX10_costByRounds 10 = .ok (.bipush 36, 2) := by decide +kernel
theorem dX10_costByRounds_12 : decode cX10_costByRounds 12 = .ok (.if_icmp .ge 51, 3) := by decide +kernel
theorem dX10_costByRounds_15 : decode cX10_costByRounds 15 = .ok (.iload_n 2, 1) := by decide +kernel
theorem dX10_costByRounds_16 : decode cX10_costByRounds 16 = .ok (.ifCond .eq 47, 3) := by decide +kernel
theorem dX10_costByRounds_19 : decode cX10_costByRounds 19 = .ok (.iconst 0, 1) := by decide +kernel
theorem dX10_costByRounds_20 : decode cX10_costByRounds 20 = .ok (.istore_n 2, 1) := by decide +kernel
theorem dX10_costByRounds_21 : decode cX10_costByRounds 21 = .ok (.iconst 0, 1) := by decide +kernel
theorem dX10_costByRounds_22 : decode cX10_costByRounds 22 = .ok (.istore 4, 2) := by decide +kernel
theorem dX10_costByRounds_24 : decode cX10_costByRounds 24 = .ok (.iload 4, 2) := by decide +kernel
theorem dX10_costByRounds_26 : decode cX10_costByRounds 26 = .ok (.bipush 36, 2) := by decide +kernel
theorem dX10_costByRounds_28 : decode cX10_costByRounds 28 = .ok (.if_icmp .ge 29, 3) := by decide +kernel
theorem dX10_costByRounds_31 : decode cX10_costByRounds 31 = .ok (.aload_n 0, 1) := by decide +kernel
theorem dX10_costByRounds_32 : decode cX10_costByRounds 32 = .ok (.aload_n 1, 1) := by decide +kernel
theorem dX10_costByRounds_33 : decode cX10_costByRounds 33 = .ok (.iload 4, 2) := by decide +kernel
theorem dX10_costByRounds_35 : decode cX10_costByRounds 35 = .ok (.invokevirtual 35, 3) := by decide +kernel
theorem dX10_costByRounds_38 : decode cX10_costByRounds 38 = .ok (.ifCond .ne 7, 3) := by decide +kernel
theorem dX10_costByRounds_41 : decode cX10_costByRounds 41 = .ok (.iload_n 2, 1) := by decide +kernel
theorem dX10_costByRounds_42 : decode cX10_costByRounds 42 = .ok (.ifCond .eq 7, 3) := by decide +kernel
theorem dX10_costByRounds_45 : decode cX10_costByRounds 45 = .ok (.iconst 1, 1) := by decide +kernel
theorem dX10_costByRounds_46 : decode cX10_costByRounds 46 = .ok (.goto 4, 3) := by decide +kernel
theorem dX10_costByRounds_49 : decode cX10_costByRounds 49 = .ok (.iconst 0, 1) := by decide +kernel
theorem dX10_costByRounds_50 : decode cX10_costByRounds 50 = .ok (.istore_n 2, 1) := by decide +kernel
theorem dX10_costByRounds_51 : decode cX10_costByRounds 51 = .ok (.iinc 4 1, 3) := by decide +kernel
theorem dX10_costByRounds_54 : decode cX10_costByRounds 54 = .ok (.goto (-30), 3) := by decide +kernel
theorem dX10_costByRounds_57 : decode cX10_costByRounds 57 = .ok (.iinc 3 1, 3) := by decide +kernel
theorem dX10_costByRounds_60 : decode cX10_costByRounds 60 = .ok (.goto (-51), 3) := by decide +kernel
theorem dX10_costByRounds_63 : decode cX10_costByRounds 63 = .ok (.aload_n 0, 1) := by decide +kernel
theorem dX10_costByRounds_64 : decode cX10_costByRounds 64 = .ok (.invokevirtual 39, 3) := by decide +kernel
theorem dX10_costByRounds_67 : decode cX10_costByRounds 67 = .ok (.ireturn, 1) := by decide +kernel
theorem dX10_start_0 : decode cX10_start 0 = .ok (.iconst 0, 1) := by decide +kernel
theorem dX10_start_1 : decode cX10_start 1 = .ok (.istore_n 2, 1) := by decide +kernel
theorem dX10_start_2 : decode cX10_start 2 = .ok (.iload_n 2, 1) := by decide +kernel
theorem dX10_start_3 : decode cX10_start 3 = .ok (.bipush 36, 2) := by decide +kernel
theorem dX10_start_5 : decode cX10_start 5 = .ok (.if_icmp .ge 32, 3) := by decide +kernel
theorem dX10_start_8 : decode cX10_start 8 = .ok (.aload_n 0, 1) := by decide +kernel
theorem dX10_start_9 : decode cX10_start 9 = .ok (.getfield 9, 3) := by decide +kernel
theorem dX10_start_12 : decode cX10_start 12 = .ok (.iload_n 2, 1) := by decide +kernel
theorem dX10_start_13 : decode cX10_start 13 = .ok (.iload_n 2, 1) := by decide +kernel
theorem dX10_start_14 : decode cX10_start 14 = .ok (.bipush 6, 2) := by decide +kernel
theorem dX10_start_16 : decode cX10_start 16 = .ok (.irem, 1) := by decide +kernel
theorem dX10_start_17 : decode cX10_start 17 = .ok (.ifCond .ne 11, 3) := by decide +kernel
theorem dX10_start_20 : decode cX10_start 20 = .ok (.aload_n 1, 1) := by decide +kernel
theorem dX10_start_21 : decode cX10_start 21 = .ok (.iload_n 2, 1) := by decide +kernel
theorem dX10_start_22 : decode cX10_start 22 = .ok (.invokevirtual 42, 3) := by decide +kernel
theorem dX10_start_25 : decode cX10_start 25 = .ok (.goto 5, 3) := by decide +kernel
theorem dX10_start_28 : decode cX10_start 28 = .ok (.ldc 48, 2) := by decide +kernel
theorem dX10_start_30 : decode cX10_start 30 = .ok (.iastore, 1) := by decide +kernel
theorem dX10_start_31 : decode cX10_start 31 = .ok (.iinc 2 1, 3) := by decide +kernel
theorem dX10_start_34 : decode cX10_start 34 = .ok (.goto (-32), 3) := by decide +kernel
theorem dX10_start_37 : decode cX10_start 37 = .ok (.return_, 1) := by decide +kernel
theorem dX10_nearest_0 : decode cX10_nearest 0 = .ok (.iconst (-1), 1) := by decide +kernel
theorem dX10_nearest_1 : decode cX10_nearest 1 = .ok (.istore_n 1, 1) := by decide +kernel
theorem dX10_nearest_2 : decode cX10_nearest 2 = .ok (.ldc 48, 2) := by decide +kernel
theorem dX10_nearest_4 : decode cX10_nearest 4 = .ok (.istore_n 2, 1) := by decide +kernel
theorem dX10_nearest_5 : decode cX10_nearest 5 = .ok (.iconst 0, 1) := by decide +kernel
theorem dX10_nearest_6 : decode cX10_nearest 6 = .ok (.istore_n 3, 1) := by decide +kernel
theorem dX10_nearest_7 : decode cX10_nearest 7 = .ok (.iload_n 3, 1) := by decide +kernel
theorem dX10_nearest_8 : decode cX10_nearest 8 = .ok (.bipush 36, 2) := by decide +kernel
theorem dX10_nearest_10 : decode cX10_nearest 10 = .ok (.if_icmp .ge 37, 3) := by decide +kernel
theorem dX10_nearest_13 : decode cX10_nearest 13 = .ok (.aload_n 0, 1) := by decide +kernel
theorem dX10_nearest_14 : decode cX10_nearest 14 = .ok (.getfield 15, 3) := by decide +kernel
theorem dX10_nearest_17 : decode cX10_nearest 17 = .ok (.iload_n 3, 1) := by decide +kernel
theorem dX10_nearest_18 : decode cX10_nearest 18 = .ok (.baload, 1) := by decide +kernel
theorem dX10_nearest_19 : decode cX10_nearest 19 = .ok (.ifCond .ne 22, 3) := by decide +kernel
theorem dX10_nearest_22 : decode cX10_nearest 22 = .ok (.aload_n 0, 1) := by decide +kernel
theorem dX10_nearest_23 : decode cX10_nearest 23 = .ok (.getfield 9, 3) := by decide +kernel
theorem dX10_nearest_26 : decode cX10_nearest 26 = .ok (.iload_n 3, 1) := by decide +kernel
theorem dX10_nearest_27 : decode cX10_nearest 27 = .ok (.iaload, 1) := by decide +kernel
theorem dX10_nearest_28 : decode cX10_nearest 28 = .ok (.iload_n 2, 1) := by decide +kernel
theorem dX10_nearest_29 : decode cX10_nearest 29 = .ok (.if_icmp .ge 12, 3) := by decide +kernel
theorem dX10_nearest_32 : decode cX10_nearest 32 = .ok (.iload_n 3, 1) := by decide +kernel
theorem dX10_nearest_33 : decode cX10_nearest 33 = .ok (.istore_n 1, 1) := by decide +kernel
theorem dX10_nearest_34 : decode cX10_nearest 34 = .ok (.aload_n 0, 1) := by decide +kernel
theorem dX10_nearest_35 : decode cX10_nearest 35 = .ok (.getfield 9, 3) := by decide +kernel
theorem dX10_nearest_38 : decode cX10_nearest 38 = .ok (.iload_n 3, 1) := by decide +kernel
theorem dX10_nearest_39 : decode cX10_nearest 39 = .ok (.iaload, 1) := by decide +kernel
theorem dX10_nearest_40 : decode cX10_nearest 40 = .ok (.istore_n 2, 1) := by decide +kernel
theorem dX10_nearest_41 : decode cX10_nearest 41 = .ok (.iinc 3 1, 3) := by decide +kernel
theorem dX10_nearest_44 : decode cX10_nearest 44 = .ok (.goto (-37), 3) := by decide +kernel
theorem dX10_nearest_47 : decode cX10_nearest 47 = .ok (.iload_n 1, 1) := by decide +kernel
theorem dX10_nearest_48 : decode cX10_nearest 48 = .ok (.ireturn, 1) := by decide +kernel
theorem dX10_goOn_0 : decode cX10_goOn 0 = .ok (.iconst 0, 1) := by decide +kernel
theorem dX10_goOn_1 : decode cX10_goOn 1 = .ok (.istore_n 3, 1) := by decide +kernel
theorem dX10_goOn_2 : decode cX10_goOn 2 = .ok (.iconst 0, 1) := by decide +kernel
theorem dX10_goOn_3 : decode cX10_goOn 3 = .ok (.istore 4, 2) := by decide +kernel
theorem dX10_goOn_5 : decode cX10_goOn 5 = .ok (.iload 4, 2) := by decide +kernel
theorem dX10_goOn_7 : decode cX10_goOn 7 = .ok (.iconst 4, 1) := by decide +kernel
theorem dX10_goOn_8 : decode cX10_goOn 8 = .ok (.if_icmp .ge 77, 3) := by decide +kernel
theorem dX10_goOn_11 : decode cX10_goOn 11 = .ok (.iload_n 2, 1) := by decide +kernel
theorem dX10_goOn_12 : decode cX10_goOn 12 = .ok (.iload 4, 2) := by decide +kernel
theorem dX10_goOn_14 : decode cX10_goOn 14 = .ok (.invokestatic 49, 3) := by decide +kernel
theorem dX10_goOn_17 : decode cX10_goOn 17 = .ok (.istore 5, 2) := by decide +kernel
theorem dX10_goOn_19 : decode cX10_goOn 19 = .ok (.iload_n 2, 1) := by decide +kernel
theorem dX10_goOn_20 : decode cX10_goOn 20 = .ok (.invokestatic 31, 3) := by decide +kernel
theorem dX10_goOn_23 : decode cX10_goOn 23 = .ok (.ifCond .eq 56, 3) := by decide +kernel
theorem dX10_goOn_26 : decode cX10_goOn 26 = .ok (.iload 5, 2) := by decide +kernel
theorem dX10_goOn_28 : decode cX10_goOn 28 = .ok (.invokestatic 31, 3) := by decide +kernel
theorem dX10_goOn_31 : decode cX10_goOn 31 = .ok (.ifCond .eq 48, 3) := by decide +kernel
theorem dX10_goOn_34 : decode cX10_goOn 34 = .ok (.aload_n 0, 1) := by decide +kernel
theorem dX10_goOn_35 : decode cX10_goOn 35 = .ok (.getfield 9, 3) := by decide +kernel
theorem dX10_goOn_38 : decode cX10_goOn 38 = .ok (.iload_n 2, 1) := by decide +kernel
theorem dX10_goOn_39 : decode cX10_goOn 39 = .ok (.iaload, 1) := by decide +kernel
theorem dX10_goOn_40 : decode cX10_goOn 40 = .ok (.aload_n 1, 1) := by decide +kernel
theorem dX10_goOn_41 : decode cX10_goOn 41 = .ok (.iload 5, 2) := by decide +kernel
theorem dX10_goOn_43 : decode cX10_goOn 43 = .ok (.invokevirtual 42, 3) := by decide +kernel
theorem dX10_goOn_46 : decode cX10_goOn 46 = .ok (.iadd, 1) := by decide +kernel
theorem dX10_goOn_47 : decode cX10_goOn 47 = .ok (.aload_n 0, 1) := by decide +kernel
theorem dX10_goOn_48 : decode cX10_goOn 48 = .ok (.getfield 9, 3) := by decide +kernel
theorem dX10_goOn_51 : decode cX10_goOn 51 = .ok (.iload 5, 2) := by decide +kernel
theorem dX10_goOn_53 : decode cX10_goOn 53 = .ok (.iaload, 1) := by decide +kernel
theorem dX10_goOn_54 : decode cX10_goOn 54 = .ok (.if_icmp .ge 25, 3) := by decide +kernel
theorem dX10_goOn_57 : decode cX10_goOn 57 = .ok (.aload_n 0, 1) := by decide +kernel
theorem dX10_goOn_58 : decode cX10_goOn 58 = .ok (.getfield 9, 3) := by decide +kernel
theorem dX10_goOn_61 : decode cX10_goOn 61 = .ok (.iload 5, 2) := by decide +kernel
theorem dX10_goOn_63 : decode cX10_goOn 63 = .ok (.aload_n 0, 1) := by decide +kernel
theorem dX10_goOn_64 : decode cX10_goOn 64 = .ok (.getfield 9, 3) := by decide +kernel
theorem dX10_goOn_67 : decode cX10_goOn 67 = .ok (.iload_n 2, 1) := by decide +kernel
theorem dX10_goOn_68 : decode cX10_goOn 68 = .ok (.iaload, 1) := by decide +kernel
theorem dX10_goOn_69 : decode cX10_goOn 69 = .ok (.aload_n 1, 1) := by decide +kernel
theorem dX10_goOn_70 : decode cX10_goOn 70 = .ok (.iload 5, 2) := by decide +kernel
theorem dX10_goOn_72 : decode cX10_goOn 72 = .ok (.invokevirtual 42, 3) := by decide +kernel
theorem dX10_goOn_75 : decode cX10_goOn 75 = .ok (.iadd, 1) := by decide +kernel
theorem dX10_goOn_76 : decode cX10_goOn 76 = .ok (.iastore, 1) := by decide +kernel
theorem dX10_goOn_77 : decode cX10_goOn 77 = .ok (.iconst 1, 1) := by decide +kernel
theorem dX10_goOn_78 : decode cX10_goOn 78 = .ok (.istore_n 3, 1) := by decide +kernel
theorem dX10_goOn_79 : decode cX10_goOn 79 = .ok (.iinc 4 1, 3) := by decide +kernel
theorem dX10_goOn_82 : decode cX10_goOn 82 = .ok (.goto (-77), 3) := by decide +kernel
theorem dX10_goOn_85 : decode cX10_goOn 85 = .ok (.iload_n 3, 1) := by decide +kernel
theorem dX10_goOn_86 : decode cX10_goOn 86 = .ok (.ireturn, 1) := by decide +kernel
theorem dX10_leastAtEnd_0 : decode cX10_leastAtEnd 0 = .ok (.ldc 48, 2) := by decide +kernel
theorem dX10_leastAtEnd_2 : decode cX10_leastAtEnd 2 = .ok (.istore_n 1, 1) := by decide +kernel
theorem dX10_leastAtEnd_3 : decode cX10_leastAtEnd 3 = .ok (.iconst 0, 1) := by decide +kernel
theorem dX10_leastAtEnd_4 : decode cX10_leastAtEnd 4 = .ok (.istore_n 2, 1) := by decide +kernel
theorem dX10_leastAtEnd_5 : decode cX10_leastAtEnd 5 = .ok (.iload_n 2, 1) := by decide +kernel
theorem dX10_leastAtEnd_6 : decode cX10_leastAtEnd 6 = .ok (.bipush 6, 2) := by decide +kernel
theorem dX10_leastAtEnd_8 : decode cX10_leastAtEnd 8 = .ok (.if_icmp .ge 28, 3) := by decide +kernel
theorem dX10_leastAtEnd_11 : decode cX10_leastAtEnd 11 = .ok (.iload_n 1, 1) := by decide +kernel
theorem dX10_leastAtEnd_12 : decode cX10_leastAtEnd 12 = .ok (.aload_n 0, 1) := by decide +kernel
theorem dX10_leastAtEnd_13 : decode cX10_leastAtEnd 13 = .ok (.getfield 9, 3) := by decide +kernel
theorem dX10_leastAtEnd_16 : decode cX10_leastAtEnd 16 = .ok (.iload_n 2, 1) := by decide +kernel
theorem dX10_leastAtEnd_17 : decode cX10_leastAtEnd 17 = .ok (.bipush 6, 2) := by decide +kernel
theorem dX10_leastAtEnd_19 : decode cX10_leastAtEnd 19 = .ok (.imul, 1) := by decide +kernel
theorem dX10_leastAtEnd_20 : decode cX10_leastAtEnd 20 = .ok (.bipush 6, 2) := by decide +kernel
theorem dX10_leastAtEnd_22 : decode cX10_leastAtEnd 22 = .ok (.iadd, 1) := by decide +kernel
theorem dX10_leastAtEnd_23 : decode cX10_leastAtEnd 23 = .ok (.iconst 1, 1) := by decide +kernel
theorem dX10_leastAtEnd_24 : decode cX10_leastAtEnd 24 = .ok (.isub, 1) := by decide +kernel
theorem dX10_leastAtEnd_25 : decode cX10_leastAtEnd 25 = .ok (.iaload, 1) := by decide +kernel
theorem dX10_leastAtEnd_26 : decode cX10_leastAtEnd 26 = .ok (.invokestatic 53, 3) := by decide +kernel
theorem dX10_leastAtEnd_29 : decode cX10_leastAtEnd 29 = .ok (.istore_n 1, 1) := by decide +kernel
theorem dX10_leastAtEnd_30 : decode cX10_leastAtEnd 30 = .ok (.iinc 2 1, 3) := by decide +kernel
theorem dX10_leastAtEnd_33 : decode cX10_leastAtEnd 33 = .ok (.goto (-28), 3) := by decide +kernel
theorem dX10_leastAtEnd_36 : decode cX10_leastAtEnd 36 = .ok (.iload_n 1, 1) := by decide +kernel
theorem dX10_leastAtEnd_37 : decode cX10_leastAtEnd 37 = .ok (.ireturn, 1) := by decide +kernel
theorem dX11_init_0 : decode cX11_init 0 = .ok (.aload_n 0, 1) := by decide +kernel
theorem dX11_init_1 : decode cX11_init 1 = .ok (.invokespecial 3, 3) := by decide +kernel
theorem dX11_init_4 : decode cX11_init 4 = .ok (.aload_n 0, 1) := by decide +kernel
theorem dX11_init_5 : decode cX11_init 5 = .ok (.bipush 36, 2) := by decide +kernel
theorem dX11_init_7 : decode cX11_init 7 = .ok (.newarray .boolean, 2) := by decide +kernel
theorem dX11_init_9 : decode cX11_init 9 = .ok (.putfield 9, 3) := by decide +kernel
theorem dX11_init_12 : decode cX11_init 12 = .ok (.aload_n 0, 1) := by decide +kernel
theorem dX11_init_13 : decode cX11_init 13 = .ok (.bipush 36, 2) := by decide +kernel
theorem dX11_init_15 : decode cX11_init 15 = .ok (.newarray .int, 2) := by decide +kernel
theorem dX11_init_17 : decode cX11_init 17 = .ok (.putfield 15, 3) := by decide +kernel
theorem dX11_init_20 : decode cX11_init 20 = .ok (.return_, 1) := by decide +kernel
theorem dX11_sizeFrom_0 : decode cX11_sizeFrom 0 = .ok (.aload_n 0, 1) := by decide +kernel
theorem dX11_sizeFrom_1 : decode cX11_sizeFrom 1 = .ok (.getfield 9, 3) := by decide +kernel
theorem dX11_sizeFrom_4 : decode cX11_sizeFrom 4 = .ok (.invokestatic 19, 3) := by decide +kernel
theorem dX11_sizeFrom_7 : decode cX11_sizeFrom 7 = .ok (.aload_n 0, 1) := by decide +kernel
theorem dX11_sizeFrom_8 : decode cX11_sizeFrom 8 = .ok (.aload_n 1, 1) := by decide +kernel
theorem dX11_sizeFrom_9 : decode cX11_sizeFrom 9 = .ok (.iload_n 2, 1) := by decide +kernel
theorem dX11_sizeFrom_10 : decode cX11_sizeFrom 10 = .ok (.invokevirtual 23, 3) := by decide +kernel
theorem dX11_sizeFrom_13 : decode cX11_sizeFrom 13 = .ok (.ireturn, 1) := by decide +kernel
theorem dX11_countOf_0 : decode cX11_countOf 0 = .ok (.aload_n 0, 1) := by decide +kernel
theorem dX11_countOf_1 : decode cX11_countOf 1 = .ok (.getfield 9, 3) := by decide +kernel
theorem dX11_countOf_4 : decode cX11_countOf 4 = .ok (.invokestatic 19, 3) := by decide +kernel
theorem dX11_countOf_7 : decode cX11_countOf 7 = .ok (.iconst 0, 1) := by decide +kernel
theorem dX11_countOf_8 : decode cX11_countOf 8 = .ok (.istore_n 3, 1) := by decide +kernel
theorem dX11_countOf_9 : decode cX11_countOf 9 = .ok (.iconst 0, 1) := by decide +kernel
theorem dX11_countOf_10 : decode cX11_countOf 10 = .ok (.istore 4, 2) := by decide +kernel
theorem dX11_countOf_12 : decode cX11_countOf 12 = .ok (.iload 4, 2) := by decide +kernel
theorem dX11_countOf_14 : decode cX11_countOf 14 = .ok (.bipush 36, 2) := by decide +kernel
theorem dX11_countOf_16 : decode cX11_countOf 16 = .ok (.if_icmp .ge 40, 3) := by decide +kernel
theorem dX11_countOf_19 : decode cX11_countOf 19 = .ok (.aload_n 0, 1) := by decide +kernel
theorem dX11_countOf_20 : decode cX11_countOf 20 = .ok (.getfield 9, 3) := by decide +kernel
theorem dX11_countOf_23 : decode cX11_countOf 23 = .ok (.iload 4, 2) := by decide +kernel
theorem dX11_countOf_25 : decode cX11_countOf 25 = .ok (.baload, 1) := by decide +kernel
theorem dX11_countOf_26 : decode cX11_countOf 26 = .ok (.ifCond .ne 24, 3) := by decide +kernel
theorem dX11_countOf_29 : decode cX11_countOf 29 = .ok (.aload_n 1, 1) := by decide +kernel
theorem dX11_countOf_30 : decode cX11_countOf 30 = .ok (.iload 4, 2) := by decide +kernel
theorem dX11_countOf_32 : decode cX11_countOf 32 = .ok (.invokevirtual 27, 3) := by decide +kernel
theorem dX11_countOf_35 : decode cX11_countOf 35 = .ok (.iload_n 2, 1) := by decide +kernel
theorem dX11_countOf_36 : decode cX11_countOf 36 = .ok (.if_icmp .ne 14, 3) := by decide +kernel
theorem dX11_countOf_39 : decode cX11_countOf 39 = .ok (.aload_n 0, 1) := by decide +kernel
theorem dX11_countOf_40 : decode cX11_countOf 40 = .ok (.aload_n 1, 1) := by decide +kernel
theorem dX11_countOf_41 : decode cX11_countOf 41 = .ok (.iload 4, 2) := by decide +kernel
theorem dX11_countOf_43 : decode cX11_countOf 43 = .ok (.invokevirtual 23, 3) := by decide +kernel
theorem dX11_countOf_46 : decode cX11_countOf 46 = .ok (.pop, 1) := by decide +kernel
theorem dX11_countOf_47 : decode cX11_countOf 47 = .ok (.iinc 3 1, 3) := by decide +kernel
theorem dX11_countOf_50 : decode cX11_countOf 50 = .ok (.iinc 4 1, 3) := by decide +kernel
theorem dX11_countOf_53 : decode cX11_countOf 53 = .ok (.goto (-41), 3) := by decide +kernel
theorem dX11_countOf_56 : decode cX11_countOf 56 = .ok (.iload_n 3, 1) := by decide +kernel
theorem dX11_countOf_57 : decode cX11_countOf 57 = .ok (.ireturn, 1) := by decide +kernel
theorem dX11_follow_0 : decode cX11_follow 0 = .ok (.aload_n 0, 1) := by decide +kernel
theorem dX11_follow_1 : decode cX11_follow 1 = .ok (.iconst 0, 1) := by decide +kernel
theorem dX11_follow_2 : decode cX11_follow 2 = .ok (.putfield 33, 3) := by decide +kernel
theorem dX11_follow_5 : decode cX11_follow 5 = .ok (.aload_n 0, 1) := by decide +kernel
theorem dX11_follow_6 : decode cX11_follow 6 = .ok (.iload_n 2, 1) := by decide +kernel
theorem dX11_follow_7 : decode cX11_follow 7 = .ok (.invokevirtual 37, 3) := by decide +kernel
theorem dX11_follow_10 : decode cX11_follow 10 = .ok (.iconst 0, 1) := by decide +kernel
theorem dX11_follow_11 : decode cX11_follow 11 = .ok (.istore_n 3, 1) := by decide +kernel
theorem dX11_follow_12 : decode cX11_follow 12 = .ok (.iload_n 3, 1) := by decide +kernel
theorem dX11_follow_13 : decode cX11_follow 13 = .ok (.bipush 36, 2) := by decide +kernel
theorem dX11_follow_15 : decode cX11_follow 15 = .ok (.if_icmp .ge 31, 3) := by decide +kernel
theorem dX11_follow_18 : decode cX11_follow 18 = .ok (.iload_n 3, 1) := by decide +kernel
theorem dX11_follow_19 : decode cX11_follow 19 = .ok (.aload_n 0, 1) := by decide +kernel
theorem dX11_follow_20 : decode cX11_follow 20 = .ok (.getfield 33, 3) := by decide +kernel
theorem dX11_follow_23 : decode cX11_follow 23 = .ok (.if_icmp .lt 6, 3) := by decide +kernel
theorem dX11_follow_26 : decode cX11_follow 26 = .ok (.goto 20, 3) := by decide +kernel
theorem dX11_follow_29 : decode cX11_follow 29 = .ok (.aload_n 0, 1) := by decide +kernel
theorem dX11_follow_30 : decode cX11_follow 30 = .ok (.aload_n 1, 1) := by decide +kernel
theorem dX11_follow_31 : decode cX11_follow 31 = .ok (.aload_n 0, 1) := by decide +kernel
theorem dX11_follow_32 : decode cX11_follow 32 = .ok (.getfield 15, 3) := by decide +kernel
theorem dX11_follow_35 : decode cX11_follow 35 = .ok (.iload_n 3, 1) := by decide +kernel
theorem dX11_follow_36 : decode cX11_follow 36 = .ok (.iaload, 1) := by decide +kernel
theorem dX11_follow_37 : decode cX11_follow 37 = .ok (.invokevirtual 41, 3) := by decide +kernel
theorem dX11_follow_40 : decode cX11_follow 40 = .ok (.iinc 3 1, 3) := by decide +kernel
theorem dX11_follow_43 : decode cX11_follow 43 = .ok (.goto (-31), 3) := by decide +kernel
theorem dX11_follow_46 : decode cX11_follow 46 = .ok (.aload_n 0, 1) := by decide +kernel
theorem dX11_follow_47 : decode cX11_follow 47 = .ok (.getfield 33, 3) := by decide +kernel
theorem dX11_follow_50 : decode cX11_follow 50 = .ok (.ireturn, 1) := by decide +kernel
theorem dX11_addEqualNeighbours_0 : decode cX11_addEqualNeighbours 0 = .ok (.iconst 0, 1) := by decide +kernel
theorem dX11_addEqualNeighbours_1 : decode cX11_addEqualNeighbours 1 = .ok (.istore_n 3, 1) := by decide +kernel
theorem dX11_addEqualNeighbours_2 : decode cX11_addEqualNeighbours 2 = .ok (.iload_n 3, 1) := by decide +kernel
theorem dX11_addEqualNeighbours_3 : decode cX11_addEqualNeighbours 3 = .ok (.iconst 4, 1) := by decide +kernel
theorem dX11_addEqualNeighbours_4 : decode cX11_addEqualNeighbours 4 = .ok (.if_icmp .ge 42, 3) := by decide +kernel
theorem dX11_addEqualNeighbours_7 : decode cX11_addEqualNeighbours 7 = .ok (.iload_n 2, 1) := by decide +kernel
theorem dX11_addEqualNeighbours_8 : decode cX11_addEqualNeighbours 8 = .ok (.iload_n 3, 1) := by decide +kernel
theorem dX11_addEqualNeighbours_9 : decode cX11_addEqualNeighbours 9 = .ok (.invokestatic 45, 3) := by decide +kernel
theorem dX11_addEqualNeighbours_12 : decode cX11_addEqualNeighbours 12 = .ok (.istore 4, 2) := by decide +kernel
theorem dX11_addEqualNeighbours_14 : decode cX11_addEqualNeighbours 14 = .ok (.iload 4, 2) := by decide +kernel
theorem dX11_addEqualNeighbours_16 : decode cX11_addEqualNeighbours 16 = .ok (.iconst (-1), 1) := by decide +kernel
theorem dX11_addEqualNeighbours_17 : decode cX11_addEqualNeighbours 17 = .ok (.if_icmp .eq 23, 3) := by decide +kernel
theorem dX11_addEqualNeighbours_20 : decode cX11_addEqualNeighbours 20 = .ok (.aload_n 1, 1) := by decide +kernel
theorem dX11_addEqualNeighbours_21 : decode cX11_addEqualNeighbours 21 = .ok (.iload 4, 2) := by decide +kernel
theorem dX11_addEqualNeighbours_23 : decode cX11_addEqualNeighbours 23 = .ok (.invokevirtual 27, 3) := by decide +kernel
theorem dX11_addEqualNeighbours_26 : decode cX11_addEqualNeighbours 26 = .ok (.aload_n 1, 1) := by decide +kernel
theorem dX11_addEqualNeighbours_27 : decode cX11_addEqualNeighbours 27 = .ok (.iload_n 2, 1) := by decide +kernel
theorem dX11_addEqualNeighbours_28 : decode cX11_addEqualNeighbours 28 = .ok (.invokevirtual 27, 3) := by decide +kernel
theorem dX11_addEqualNeighbours_31 : decode cX11_addEqualNeighbours 31 = .ok (.if_icmp .ne 9, 3) := by decide +kernel
theorem dX11_addEqualNeighbours_34 : decode cX11_addEqualNeighbours 34 = .ok (.aload_n 0, 1) := by decide +kernel
theorem dX11_addEqualNeighbours_35 : decode cX11_addEqualNeighbours 35 = .ok (.iload 4, 2) := by decide +kernel
theorem dX11_addEqualNeighbours_37 : decode cX11_addEqualNeighbours 37 = .ok (.invokevirtual 37, 3) := by decide +kernel
theorem dX11_addEqualNeighbours_40 : decode cX11_addEqualNeighbours 40 = .ok (.iinc 3 1, 3) := by decide +kernel
theorem dX11_addEqualNeighbours_43 : decode cX11_addEqualNeighbours 43 = .ok (.goto (-41), 3) := by decide +kernel
theorem dX11_addEqualNeighbours_46 : decode cX11_addEqualNeighbours 46 = .ok (.return_, 1) := by decide +kernel
theorem dX11_add_0 : decode cX11_add 0 = .ok (.iload_n 1, 1) := by decide +kernel
theorem dX11_add_1 : decode cX11_add 1 = .ok (.invokestatic 49, 3) := by decide +kernel
theorem dX11_add_4 : decode cX11_add 4 = .ok (.ifCond .eq 52, 3) := by decide +kernel
theorem dX11_add_7 : decode cX11_add 7 = .ok (.aload_n 0, 1) := by decide +kernel
theorem dX11_add_8 : decode cX11_add 8 = .ok (.getfield 9, 3) := by decide +kernel
theorem dX11_add_11 : decode cX11_add 11 = .ok (.iload_n 1, 1) := by decide +kernel
theorem dX11_add_12 : decode cX11_add 12 = .ok (.baload, 1) := by decide +kernel
theorem dX11_add_13 : decode cX11_add 13 = .ok (.ifCond .ne 43, 3) := by decide +kernel
theorem dX11_add_16 : decode cX11_add 16 = .ok (.aload_n 0, 1) := by decide +kernel
theorem dX11_add_17 : decode cX11_add 17 = .ok (.getfield 33, 3) := by decide +kernel
theorem dX11_add_20 : decode cX11_add 20 = .ok (.iconst 0, 1) := by decide +kernel
theorem dX11_add_21 : decode cX11_add 21 = .ok (.bipush 35, 2) := by decide +kernel
theorem dX11_add_23 : decode cX11_add 23 = .ok (.invokestatic 53, 3) := by decide +kernel
theorem dX11_add_26 : decode cX11_add 26 = .ok (.ifCond .eq 30, 3) := by decide +kernel
theorem dX11_add_29 : decode cX11_add 29 = .ok (.aload_n 0, 1) := by decide +kernel
theorem dX11_add_30 : decode cX11_add 30 = .ok (.getfield 9, 3) := by decide +kernel
theorem dX11_add_33 : decode cX11_add 33 = .ok (.iload_n 1, 1) := by decide +kernel
theorem dX11_add_34 : decode cX11_add 34 = .ok (.iconst 1, 1) := by decide +kernel
theorem dX11_add_35 : decode cX11_add 35 = .ok (.bastore, 1) := by decide +kernel
theorem dX11_add_36 : decode cX11_add 36 = .ok (.aload_n 0, 1) := by decide +kernel
theorem dX11_add_37 : decode cX11_add 37 = .ok (.getfield 15, 3) := by decide +kernel
theorem dX11_add_40 : decode cX11_add 40 = .ok (.aload_n 0, 1) := by decide +kernel
theorem dX11_add_41 : decode cX11_add 41 = .ok (.getfield 33, 3) := by decide +kernel
theorem dX11_add_44 : decode cX11_add 44 = .ok (.iload_n 1, 1) := by decide +kernel
theorem dX11_add_45 : decode cX11_add 45 = .ok (.iastore, 1) := by decide +kernel
theorem dX11_add_46 : decode cX11_add 46 = .ok (.aload_n 0, 1) := by decide +kernel
theorem dX11_add_47 : decode cX11_add 47 = .ok (.dup, 1) := by decide +kernel
theorem dX11_add_48 : decode cX11_add 48 = .ok (.getfield 33, 3) := by decide +kernel
theorem dX11_add_51 : decode cX11_add 51 = .ok (.iconst 1, 1) := by decide +kernel
theorem dX11_add_52 : decode cX11_add 52 = .ok (.iadd, 1) := by decide +kernel
theorem dX11_add_53 : decode cX11_add 53 = .ok (.putfield 33, 3) := by decide +kernel
theorem dX11_add_56 : decode cX11_add 56 = .ok (.return_, 1) := by decide +kernel
