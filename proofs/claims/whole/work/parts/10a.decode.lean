theorem dX0_init_0 : decode cX0_init 0 = .ok (.aload_n 0, 1) := by decide +kernel
theorem dX0_init_1 : decode cX0_init 1 = .ok (.invokespecial 3, 3) := by decide +kernel
theorem dX0_init_4 : decode cX0_init 4 = .ok (.aload_n 0, 1) := by decide +kernel
theorem dX0_init_5 : decode cX0_init 5 = .ok (.bipush 13, 2) := by decide +kernel
theorem dX0_init_7 : decode cX0_init 7 = .ok (.anewarray 9, 3) := by decide +kernel
theorem dX0_init_10 : decode cX0_init 10 = .ok (.putfield 11, 3) := by decide +kernel
theorem dX0_init_13 : decode cX0_init 13 = .ok (.iconst 0, 1) := by decide +kernel
theorem dX0_init_14 : decode cX0_init 14 = .ok (.istore_n 1, 1) := by decide +kernel
theorem dX0_init_15 : decode cX0_init 15 = .ok (.iload_n 1, 1) := by decide +kernel
theorem dX0_init_16 : decode cX0_init 16 = .ok (.aload_n 0, 1) := by decide +kernel
theorem dX0_init_17 : decode cX0_init 17 = .ok (.getfield 11, 3) := by decide +kernel
theorem dX0_init_20 : decode cX0_init 20 = .ok (.arraylength, 1) := by decide +kernel
theorem dX0_init_21 : decode cX0_init 21 = .ok (.if_icmp .ge 24, 3) := by decide +kernel
theorem dX0_init_24 : decode cX0_init 24 = .ok (.aload_n 0, 1) := by decide +kernel
theorem dX0_init_25 : decode cX0_init 25 = .ok (.getfield 11, 3) := by decide +kernel
theorem dX0_init_28 : decode cX0_init 28 = .ok (.iload_n 1, 1) := by decide +kernel
theorem dX0_init_29 : decode cX0_init 29 = .ok (.new 9, 3) := by decide +kernel
theorem dX0_init_32 : decode cX0_init 32 = .ok (.dup, 1) := by decide +kernel
theorem dX0_init_33 : decode cX0_init 33 = .ok (.bipush 30, 2) := by decide +kernel
theorem dX0_init_35 : decode cX0_init 35 = .ok (.invokespecial 17, 3) := by decide +kernel
theorem dX0_init_38 : decode cX0_init 38 = .ok (.aastore, 1) := by decide +kernel
theorem dX0_init_39 : decode cX0_init 39 = .ok (.iinc 1 1, 3) := by decide +kernel
theorem dX0_init_42 : decode cX0_init 42 = .ok (.goto (-27), 3) := by decide +kernel
theorem dX0_init_45 : decode cX0_init 45 = .ok (.aload_n 0, 1) := by decide +kernel
theorem dX0_init_46 : decode cX0_init 46 = .ok (.new 9, 3) := by decide +kernel
theorem dX0_init_49 : decode cX0_init 49 = .ok (.dup, 1) := by decide +kernel
theorem dX0_init_50 : decode cX0_init 50 = .ok (.sipush 330, 3) := by decide +kernel
theorem dX0_init_53 : decode cX0_init 53 = .ok (.invokespecial 17, 3) := by decide +kernel
theorem dX0_init_56 : decode cX0_init 56 = .ok (.putfield 20, 3) := by decide +kernel
theorem dX0_init_59 : decode cX0_init 59 = .ok (.aload_n 0, 1) := by decide +kernel
theorem dX0_init_60 : decode cX0_init 60 = .ok (.new 24, 3) := by decide +kernel
theorem dX0_init_63 : decode cX0_init 63 = .ok (.dup, 1) := by decide +kernel
theorem dX0_init_64 : decode cX0_init 64 = .ok (.invokespecial 26, 3) := by decide +kernel
theorem dX0_init_67 : decode cX0_init 67 = .ok (.putfield 27, 3) := by decide +kernel
theorem dX0_init_70 : decode cX0_init 70 = .ok (.aload_n 0, 1) := by decide +kernel
theorem dX0_init_71 : decode cX0_init 71 = .ok (.new 24, 3) := by decide +kernel
theorem dX0_init_74 : decode cX0_init 74 = .ok (.dup, 1) := by decide +kernel
theorem dX0_init_75 : decode cX0_init 75 = .ok (.invokespecial 26, 3) := by decide +kernel
theorem dX0_init_78 : decode cX0_init 78 = .ok (.putfield 31, 3) := by decide +kernel
theorem dX0_init_81 : decode cX0_init 81 = .ok (.aload_n 0, 1) := by decide +kernel
theorem dX0_init_82 : decode cX0_init 82 = .ok (.iconst 0, 1) := by decide +kernel
theorem dX0_init_83 : decode cX0_init 83 = .ok (.putfield 34, 3) := by decide +kernel
theorem dX0_init_86 : decode cX0_init 86 = .ok (.aload_n 0, 1) := by decide +kernel
theorem dX0_init_87 : decode cX0_init 87 = .ok (.iconst 0, 1) := by decide +kernel
theorem dX0_init_88 : decode cX0_init 88 = .ok (.putfield 38, 3) := by decide +kernel
theorem dX0_init_91 : decode cX0_init 91 = .ok (.aload_n 0, 1) := by decide +kernel
theorem dX0_init_92 : decode cX0_init 92 = .ok (.iconst 0, 1) := by decide +kernel
theorem dX0_init_93 : decode cX0_init 93 = .ok (.putfield 41, 3) := by decide +kernel
theorem dX0_init_96 : decode cX0_init 96 = .ok (.aload_n 0, 1) := by decide +kernel
theorem dX0_init_97 : decode cX0_init 97 = .ok (.iconst 0, 1) := by decide +kernel
theorem dX0_init_98 : decode cX0_init 98 = .ok (.putfield 45, 3) := by decide +kernel
theorem dX0_init_101 : decode cX0_init 101 = .ok (.aload_n 0, 1) := by decide +kernel
theorem dX0_init_102 : decode cX0_init 102 = .ok (.iconst 0, 1) := by decide +kernel
theorem dX0_init_103 : decode cX0_init 103 = .ok (.putfield 48, 3) := by decide +kernel
theorem dX0_init_106 : decode cX0_init 106 = .ok (.return_, 1) := by decide +kernel
theorem dX0_discard_0 : decode cX0_discard 0 = .ok (.aload_n 0, 1) := by decide +kernel
theorem dX0_discard_1 : decode cX0_discard 1 = .ok (.iconst 0, 1) := by decide +kernel
theorem dX0_discard_2 : decode cX0_discard 2 = .ok (.putfield 34, 3) := by decide +kernel
theorem dX0_discard_5 : decode cX0_discard 5 = .ok (.return_, 1) := by decide +kernel
theorem dX0_last_0 : decode cX0_last 0 = .ok (.aload_n 0, 1) := by decide +kernel
theorem dX0_last_1 : decode cX0_last 1 = .ok (.getfield 41, 3) := by decide +kernel
theorem dX0_last_4 : decode cX0_last 4 = .ok (.ireturn, 1) := by decide +kernel
theorem dX0_basisOf_0 : decode cX0_basisOf 0 = .ok (.iload_n 1, 1) := by decide +kernel
theorem dX0_basisOf_1 : decode cX0_basisOf 1 = .ok (.ifCond .lt 21, 3) := by decide +kernel
theorem dX0_basisOf_4 : decode cX0_basisOf 4 = .ok (.iload_n 1, 1) := by decide +kernel
theorem dX0_basisOf_5 : decode cX0_basisOf 5 = .ok (.aload_n 0, 1) := by decide +kernel
theorem dX0_basisOf_6 : decode cX0_basisOf 6 = .ok (.getfield 11, 3) := by decide +kernel
theorem dX0_basisOf_9 : decode cX0_basisOf 9 = .ok (.arraylength, 1) := by decide +kernel
theorem dX0_basisOf_10 : decode cX0_basisOf 10 = .ok (.if_icmp .ge 12, 3) := by decide +kernel
theorem dX0_basisOf_13 : decode cX0_basisOf 13 = .ok (.aload_n 0, 1) := by decide +kernel
theorem dX0_basisOf_14 : decode cX0_basisOf 14 = .ok (.getfield 11, 3) := by decide +kernel
theorem dX0_basisOf_17 : decode cX0_basisOf 17 = .ok (.iload_n 1, 1) := by decide +kernel
theorem dX0_basisOf_18 : decode cX0_basisOf 18 = .ok (.aaload, 1) := by decide +kernel
theorem dX0_basisOf_19 : decode cX0_basisOf 19 = .ok (.goto 7, 3) := by decide +kernel
theorem dX0_basisOf_22 : decode cX0_basisOf 22 = .ok (.aload_n 0, 1) := by decide +kernel
theorem dX0_basisOf_23 : decode cX0_basisOf 23 = .ok (.getfield 20, 3) := by decide +kernel
theorem dX0_basisOf_26 : decode cX0_basisOf 26 = .ok (.areturn, 1) := by decide +kernel
theorem dX0_run_0 : decode cX0_run 0 = .ok (.aload_n 0, 1) := by decide +kernel
theorem dX0_run_1 : decode cX0_run 1 = .ok (.getfield 34, 3) := by decide +kernel
theorem dX0_run_4 : decode cX0_run 4 = .ok (.ifCond .eq 8, 3) := by decide +kernel
theorem dX0_run_7 : decode cX0_run 7 = .ok (.aload_n 0, 1) := by decide +kernel
theorem dX0_run_8 : decode cX0_run 8 = .ok (.getfield 38, 3) := by decide +kernel
theorem dX0_run_11 : decode cX0_run 11 = .ok (.ireturn, 1) := by decide +kernel
theorem dX0_run_12 : decode cX0_run 12 = .ok (.aload_n 0, 1) := by decide +kernel
theorem dX0_run_13 : decode cX0_run 13 = .ok (.iconst 1, 1) := by decide +kernel
theorem dX0_run_14 : decode cX0_run 14 = .ok (.putfield 34, 3) := by decide +kernel
theorem dX0_run_17 : decode cX0_run 17 = .ok (.aload_n 0, 1) := by decide +kernel
theorem dX0_run_18 : decode cX0_run 18 = .ok (.iconst 0, 1) := by decide +kernel
theorem dX0_run_19 : decode cX0_run 19 = .ok (.putfield 38, 3) := by decide +kernel
theorem dX0_run_22 : decode cX0_run 22 = .ok (.aload_n 0, 1) := by decide +kernel
theorem dX0_run_23 : decode cX0_run 23 = .ok (.aload_n 2, 1) := by decide +kernel
theorem dX0_run_24 : decode cX0_run 24 = .ok (.invokevirtual 51, 3) := by decide +kernel
theorem dX0_run_27 : decode cX0_run 27 = .ok (.iconst 0, 1) := by decide +kernel
theorem dX0_run_28 : decode cX0_run 28 = .ok (.istore_n 3, 1) := by decide +kernel
theorem dX0_run_29 : decode cX0_run 29 = .ok (.iload_n 3, 1) := by decide +kernel
theorem dX0_run_30 : decode cX0_run 30 = .ok (.bipush 12, 2) := by decide +kernel
theorem dX0_run_32 : decode cX0_run 32 = .ok (.if_icmp .gt 63, 3) := by decide +kernel
theorem dX0_run_35 : decode cX0_run 35 = .ok (.aload_n 0, 1) := by decide +kernel
theorem dX0_run_36 : decode cX0_run 36 = .ok (.getfield 20, 3) := by decide +kernel
theorem dX0_run_39 : decode cX0_run 39 = .ok (.invokevirtual 55, 3) := by decide +kernel
theorem dX0_run_42 : decode cX0_run 42 = .ok (.bipush 30, 2) := by decide +kernel
theorem dX0_run_44 : decode cX0_run 44 = .ok (.if_icmp .gt 51, 3) := by decide +kernel
theorem dX0_run_47 : decode cX0_run 47 = .ok (.aload_n 0, 1) := by decide +kernel
theorem dX0_run_48 : decode cX0_run 48 = .ok (.getfield 38, 3) := by decide +kernel
theorem dX0_run_51 : decode cX0_run 51 = .ok (.ifCond .ne 44, 3) := by decide +kernel
theorem dX0_run_54 : decode cX0_run 54 = .ok (.aload_n 0, 1) := by decide +kernel
theorem dX0_run_55 : decode cX0_run 55 = .ok (.iload_n 3, 1) := by decide +kernel
theorem dX0_run_56 : decode cX0_run 56 = .ok (.invokevirtual 59, 3) := by decide +kernel
theorem dX0_run_59 : decode cX0_run 59 = .ok (.aload_n 0, 1) := by decide +kernel
theorem dX0_run_60 : decode cX0_run 60 = .ok (.getfield 20, 3) := by decide +kernel
theorem dX0_run_63 : decode cX0_run 63 = .ok (.invokevirtual 63, 3) := by decide +kernel
theorem dX0_run_66 : decode cX0_run 66 = .ok (.aload_n 0, 1) := by decide +kernel
theorem dX0_run_67 : decode cX0_run 67 = .ok (.iload_n 3, 1) := by decide +kernel
theorem dX0_run_68 : decode cX0_run 68 = .ok (.putfield 41, 3) := by decide +kernel
theorem dX0_run_71 : decode cX0_run 71 = .ok (.aload_n 0, 1) := by decide +kernel
theorem dX0_run_72 : decode cX0_run 72 = .ok (.aload_n 0, 1) := by decide +kernel
theorem dX0_run_73 : decode cX0_run 73 = .ok (.aload_n 1, 1) := by decide +kernel
theorem dX0_run_74 : decode cX0_run 74 = .ok (.iload_n 3, 1) := by decide +kernel
theorem dX0_run_75 : decode cX0_run 75 = .ok (.invokevirtual 66, 3) := by decide +kernel
theorem dX0_run_78 : decode cX0_run 78 = .ok (.ifCond .ne 7, 3) := by decide +kernel
theorem dX0_run_81 : decode cX0_run 81 = .ok (.iconst 1, 1) := by decide +kernel
theorem dX0_run_82 : decode cX0_run 82 = .ok (.goto 4, 3) := by decide +kernel
theorem dX0_run_85 : decode cX0_run 85 = .ok (.iconst 0, 1) := by decide +kernel
theorem dX0_run_86 : decode cX0_run 86 = .ok (.putfield 38, 3) := by decide +kernel
theorem dX0_run_89 : decode cX0_run 89 = .ok (.iinc 3 1, 3) := by decide +kernel
theorem dX0_run_92 : decode cX0_run 92 = .ok (.goto (-63), 3) := by decide +kernel
theorem dX0_run_95 : decode cX0_run 95 = .ok (.aload_n 0, 1) := by decide +kernel
theorem dX0_run_96 : decode cX0_run 96 = .ok (.getfield 38, 3) := by decide +kernel
theorem dX0_run_99 : decode cX0_run 99 = .ok (.ireturn, 1) := by decide +kernel
theorem dX0_leastLetters_0 : decode cX0_leastLetters 0 = .ok (.aload_n 0, 1) := by decide +kernel
theorem dX0_leastLetters_1 : decode cX0_leastLetters 1 = .ok (.aload_n 0, 1) := by decide +kernel
theorem dX0_leastLetters_2 : decode cX0_leastLetters 2 = .ok (.getfield 41, 3) := by decide +kernel
theorem dX0_leastLetters_5 : decode cX0_leastLetters 5 = .ok (.invokevirtual 59, 3) := by decide +kernel
theorem dX0_leastLetters_8 : decode cX0_leastLetters 8 = .ok (.astore_n 2, 1) := by decide +kernel
theorem dX0_leastLetters_9 : decode cX0_leastLetters 9 = .ok (.iconst (-1), 1) := by decide +kernel
theorem dX0_leastLetters_10 : decode cX0_leastLetters 10 = .ok (.istore_n 3, 1) := by decide +kernel
theorem dX0_leastLetters_11 : decode cX0_leastLetters 11 = .ok (.iconst 0, 1) := by decide +kernel
theorem dX0_leastLetters_12 : decode cX0_leastLetters 12 = .ok (.istore 4, 2) := by decide +kernel
theorem dX0_leastLetters_14 : decode cX0_leastLetters 14 = .ok (.iload 4, 2) := by decide +kernel
theorem dX0_leastLetters_16 : decode cX0_leastLetters 16 = .ok (.aload_n 2, 1) := by decide +kernel
theorem dX0_leastLetters_17 : decode cX0_leastLetters 17 = .ok (.invokevirtual 55, 3) := by decide +kernel
theorem dX0_leastLetters_20 : decode cX0_leastLetters 20 = .ok (.if_icmp .ge 55, 3) := by decide +kernel
theorem dX0_leastLetters_23 : decode cX0_leastLetters 23 = .ok (.aload_n 2, 1) := by decide +kernel
theorem dX0_leastLetters_24 : decode cX0_leastLetters 24 = .ok (.iload 4, 2) := by decide +kernel
theorem dX0_leastLetters_26 : decode cX0_leastLetters 26 = .ok (.iconst 0, 1) := by decide +kernel
theorem dX0_leastLetters_27 : decode cX0_leastLetters 27 = .ok (.invokevirtual 70, 3) := by decide +kernel
theorem dX0_leastLetters_30 : decode cX0_leastLetters 30 = .ok (.invokestatic 74, 3) := by decide +kernel
theorem dX0_leastLetters_33 : decode cX0_leastLetters 33 = .ok (.aload_n 2, 1) := by decide +kernel
theorem dX0_leastLetters_34 : decode cX0_leastLetters 34 = .ok (.iload 4, 2) := by decide +kernel
theorem dX0_leastLetters_36 : decode cX0_leastLetters 36 = .ok (.iconst 1, 1) := by decide +kernel
theorem dX0_leastLetters_37 : decode cX0_leastLetters 37 = .ok (.invokevirtual 70, 3) := by decide +kernel
theorem dX0_leastLetters_40 : decode cX0_leastLetters 40 = .ok (.invokestatic 74, 3) := by decide +kernel
theorem dX0_leastLetters_43 : decode cX0_leastLetters 43 = .ok (.iadd, 1) := by decide +kernel
theorem dX0_leastLetters_44 : decode cX0_leastLetters 44 = .ok (.istore 5, 2) := by decide +kernel
theorem dX0_leastLetters_46 : decode cX0_leastLetters 46 = .ok (.aload_n 2, 1) := by decide +kernel
theorem dX0_leastLetters_47 : decode cX0_leastLetters 47 = .ok (.iload 4, 2) := by decide +kernel
theorem dX0_leastLetters_49 : decode cX0_leastLetters 49 = .ok (.invokevirtual 79, 3) := by decide +kernel
theorem dX0_leastLetters_52 : decode cX0_leastLetters 52 = .ok (.iload_n 1, 1) := by decide +kernel
theorem dX0_leastLetters_53 : decode cX0_leastLetters 53 = .ok (.if_icmp .ne 16, 3) := by decide +kernel
theorem dX0_leastLetters_56 : decode cX0_leastLetters 56 = .ok (.iload_n 3, 1) := by decide +kernel
theorem dX0_leastLetters_57 : decode cX0_leastLetters 57 = .ok (.ifCond .lt 9, 3) := by decide +kernel
theorem dX0_leastLetters_60 : decode cX0_leastLetters 60 = .ok (.iload 5, 2) := by decide +kernel
theorem dX0_leastLetters_62 : decode cX0_leastLetters 62 = .ok (.iload_n 3, 1) := by decide +kernel
theorem dX0_leastLetters_63 : decode cX0_leastLetters 63 = .ok (.if_icmp .ge 6, 3) := by decide +kernel
theorem dX0_leastLetters_66 : decode cX0_leastLetters 66 = .ok (.iload 5, 2) := by decide +kernel
theorem dX0_leastLetters_68 : decode cX0_leastLetters 68 = .ok (.istore_n 3, 1) := by decide +kernel
theorem dX0_leastLetters_69 : decode cX0_leastLetters 69 = .ok (.iinc 4 1, 3) := by decide +kernel
theorem dX0_leastLetters_72 : decode cX0_leastLetters 72 = .ok (.goto (-58), 3) := by decide +kernel
theorem dX0_leastLetters_75 : decode cX0_leastLetters 75 = .ok (.iload_n 3, 1) := by decide +kernel
theorem dX0_leastLetters_76 : decode cX0_leastLetters 76 = .ok (.ireturn, 1) := by decide +kernel
theorem dX0_distanceFrom_0 : decode cX0_distanceFrom 0 = .ok (.iconst 0, 1) := by decide +kernel
theorem dX0_distanceFrom_1 : decode cX0_distanceFrom 1 = .ok (.istore_n 2, 1) := by decide +kernel
theorem dX0_distanceFrom_2 : decode cX0_distanceFrom 2 = .ok (.iload_n 2, 1) := by decide +kernel
theorem dX0_distanceFrom_3 : decode cX0_distanceFrom 3 = .ok (.aload_n 0, 1) := by decide +kernel
theorem dX0_distanceFrom_4 : decode cX0_distanceFrom 4 = .ok (.getfield 41, 3) := by decide +kernel
theorem dX0_distanceFrom_7 : decode cX0_distanceFrom 7 = .ok (.if_icmp .gt 20, 3) := by decide +kernel
theorem dX0_distanceFrom_10 : decode cX0_distanceFrom 10 = .ok (.aload_n 0, 1) := by decide +kernel
theorem dX0_distanceFrom_11 : decode cX0_distanceFrom 11 = .ok (.iload_n 2, 1) := by decide +kernel
theorem dX0_distanceFrom_12 : decode cX0_distanceFrom 12 = .ok (.aload_n 1, 1) := by decide +kernel
theorem dX0_distanceFrom_13 : decode cX0_distanceFrom 13 = .ok (.invokevirtual 83, 3) := by decide +kernel
theorem dX0_distanceFrom_16 : decode cX0_distanceFrom 16 = .ok (.ifCond .eq 5, 3) := by decide +kernel
theorem dX0_distanceFrom_19 : decode cX0_distanceFrom 19 = .ok (.iload_n 2, 1) := by decide +kernel
theorem dX0_distanceFrom_20 : decode cX0_distanceFrom 20 = .ok (.ireturn, 1) := by decide +kernel
theorem dX0_distanceFrom_21 : decode cX0_distanceFrom 21 = .ok (.iinc 2 1, 3) := by decide +kernel
theorem dX0_distanceFrom_24 : decode cX0_distanceFrom 24 = .ok (.goto (-22), 3) := by decide +kernel
theorem dX0_distanceFrom_27 : decode cX0_distanceFrom 27 = .ok (.iconst (-1), 1) := by decide +kernel
theorem dX0_distanceFrom_28 : decode cX0_distanceFrom 28 = .ok (.ireturn, 1) := by decide +kernel
theorem dX0_walkTo_0 : decode cX0_walkTo 0 = .ok (.aload_n 0, 1) := by decide +kernel
theorem dX0_walkTo_1 : decode cX0_walkTo 1 = .ok (.aload_n 2, 1) := by decide +kernel
theorem dX0_walkTo_2 : decode cX0_walkTo 2 = .ok (.invokevirtual 87, 3) := by decide +kernel
theorem dX0_walkTo_5 : decode cX0_walkTo 5 = .ok (.istore 4, 2) := by decide +kernel
theorem dX0_walkTo_7 : decode cX0_walkTo 7 = .ok (.iload_n 3, 1) := by decide +kernel
theorem dX0_walkTo_8 : decode cX0_walkTo 8 = .ok (.ifCond .lt 9, 3) := by decide +kernel
theorem dX0_walkTo_11 : decode cX0_walkTo 11 = .ok (.iload_n 3, 1) := by decide +kernel
theorem dX0_walkTo_12 : decode cX0_walkTo 12 = .ok (.iload 4, 2) := by decide +kernel
theorem dX0_walkTo_14 : decode cX0_walkTo 14 = .ok (.if_icmp .lt 5, 3) := by decide +kernel
theorem dX0_walkTo_17 : decode cX0_walkTo 17 = .ok (.iconst 0, 1) := by decide +kernel
theorem dX0_walkTo_18 : decode cX0_walkTo 18 = .ok (.ireturn, 1) := by decide +kernel
theorem dX0_walkTo_19 : decode cX0_walkTo 19 = .ok (.aload_n 0, 1) := by decide +kernel
theorem dX0_walkTo_20 : decode cX0_walkTo 20 = .ok (.getfield 31, 3) := by decide +kernel
theorem dX0_walkTo_23 : decode cX0_walkTo 23 = .ok (.aload_n 2, 1) := by decide +kernel
theorem dX0_walkTo_24 : decode cX0_walkTo 24 = .ok (.invokevirtual 91, 3) := by decide +kernel
theorem dX0_walkTo_27 : decode cX0_walkTo 27 = .ok (.iconst 0, 1) := by decide +kernel
theorem dX0_walkTo_28 : decode cX0_walkTo 28 = .ok (.istore 5, 2) := by decide +kernel
theorem dX0_walkTo_30 : decode cX0_walkTo 30 = .ok (.iload 5, 2) := by decide +kernel
theorem dX0_walkTo_32 : decode cX0_walkTo 32 = .ok (.iload_n 3, 1) := by decide +kernel
theorem dX0_walkTo_33 : decode cX0_walkTo 33 = .ok (.if_icmp .gt 21, 3) := by decide +kernel
theorem dX0_walkTo_36 : decode cX0_walkTo 36 = .ok (.aload_n 0, 1) := by decide +kernel
theorem dX0_walkTo_37 : decode cX0_walkTo 37 = .ok (.aload_n 1, 1) := by decide +kernel
theorem dX0_walkTo_38 : decode cX0_walkTo 38 = .ok (.iload 4, 2) := by decide +kernel
theorem dX0_walkTo_40 : decode cX0_walkTo 40 = .ok (.iconst 1, 1) := by decide +kernel
theorem dX0_walkTo_41 : decode cX0_walkTo 41 = .ok (.isub, 1) := by decide +kernel
theorem dX0_walkTo_42 : decode cX0_walkTo 42 = .ok (.iload 5, 2) := by decide +kernel
theorem dX0_walkTo_44 : decode cX0_walkTo 44 = .ok (.isub, 1) := by decide +kernel
theorem dX0_walkTo_45 : decode cX0_walkTo 45 = .ok (.invokevirtual 94, 3) := by decide +kernel
theorem dX0_walkTo_48 : decode cX0_walkTo 48 = .ok (.iinc 5 1, 3) := by decide +kernel
theorem dX0_walkTo_51 : decode cX0_walkTo 51 = .ok (.goto (-21), 3) := by decide +kernel
theorem dX0_walkTo_54 : decode cX0_walkTo 54 = .ok (.iconst 1, 1) := by decide +kernel
theorem dX0_walkTo_55 : decode cX0_walkTo 55 = .ok (.ireturn, 1) := by decide +kernel
theorem dX0_walkedTransition_0 : decode cX0_walkedTransition 0 = .ok (.aload_n 0, 1) := by decide +kernel
theorem dX0_walkedTransition_1 : decode cX0_walkedTransition 1 = .ok (.getfield 45, 3) := by decide +kernel
theorem dX0_walkedTransition_4 : decode cX0_walkedTransition 4 = .ok (.ireturn, 1) := by decide +kernel
theorem dX0_walkedLosses_0 : decode cX0_walkedLosses 0 = .ok (.aload_n 0, 1) := by decide +kernel
theorem dX0_walkedLosses_1 : decode cX0_walkedLosses 1 = .ok (.getfield 48, 3) := by decide +kernel
theorem dX0_walkedLosses_4 : decode cX0_walkedLosses 4 = .ok (.ireturn, 1) := by decide +kernel
theorem dX0_collectGoals_0 : decode cX0_collectGoals 0 = .ok (.aload_n 0, 1) := by decide +kernel
theorem dX0_collectGoals_1 : decode cX0_collectGoals 1 = .ok (.getfield 20, 3) := by decide +kernel
theorem dX0_collectGoals_4 : decode cX0_collectGoals 4 = .ok (.invokevirtual 98, 3) := by decide +kernel
theorem dX0_collectGoals_7 : decode cX0_collectGoals 7 = .ok (.iconst 0, 1) := by decide +kernel
theorem dX0_collectGoals_8 : decode cX0_collectGoals 8 = .ok (.istore_n 2, 1) := by decide +kernel
theorem dX0_collectGoals_9 : decode cX0_collectGoals 9 = .ok (.iload_n 2, 1) := by decide +kernel
theorem dX0_collectGoals_10 : decode cX0_collectGoals 10 = .ok (.aload_n 1, 1) := by decide +kernel
theorem dX0_collectGoals_11 : decode cX0_collectGoals 11 = .ok (.invokevirtual 55, 3) := by decide +kernel
theorem dX0_collectGoals_14 : decode cX0_collectGoals 14 = .ok (.if_icmp .ge 30, 3) := by decide +kernel
theorem dX0_collectGoals_17 : decode cX0_collectGoals 17 = .ok (.aload_n 1, 1) := by decide +kernel
theorem dX0_collectGoals_18 : decode cX0_collectGoals 18 = .ok (.iload_n 2, 1) := by decide +kernel
theorem dX0_collectGoals_19 : decode cX0_collectGoals 19 = .ok (.aload_n 0, 1) := by decide +kernel
theorem dX0_collectGoals_20 : decode cX0_collectGoals 20 = .ok (.getfield 27, 3) := by decide +kernel
theorem dX0_collectGoals_23 : decode cX0_collectGoals 23 = .ok (.invokevirtual 101, 3) := by decide +kernel
theorem dX0_collectGoals_26 : decode cX0_collectGoals 26 = .ok (.aload_n 0, 1) := by decide +kernel
theorem dX0_collectGoals_27 : decode cX0_collectGoals 27 = .ok (.getfield 20, 3) := by decide +kernel
theorem dX0_collectGoals_30 : decode cX0_collectGoals 30 = .ok (.aload_n 0, 1) := by decide +kernel
theorem dX0_collectGoals_31 : decode cX0_collectGoals 31 = .ok (.getfield 27, 3) := by decide +kernel
theorem dX0_collectGoals_34 : decode cX0_collectGoals 34 = .ok (.invokevirtual 105, 3) := by decide +kernel
theorem dX0_collectGoals_37 : decode cX0_collectGoals 37 = .ok (.pop, 1) := by decide +kernel
theorem dX0_collectGoals_38 : decode cX0_collectGoals 38 = .ok (.iinc 2 1, 3) := by decide +kernel
theorem dX0_collectGoals_41 : decode cX0_collectGoals 41 = .ok (.goto (-32), 3) := by decide +kernel
theorem dX0_collectGoals_44 : decode cX0_collectGoals 44 = .ok (.return_, 1) := by decide +kernel
theorem dX0_addPredecessors_0 : decode cX0_addPredecessors 0 = .ok (.aload_n 0, 1) := by decide +kernel
theorem dX0_addPredecessors_1 : decode cX0_addPredecessors 1 = .ok (.iload_n 2, 1) := by decide +kernel
theorem dX0_addPredecessors_2 : decode cX0_addPredecessors 2 = .ok (.invokevirtual 59, 3) := by decide +kernel
theorem dX0_addPredecessors_5 : decode cX0_addPredecessors 5 = .ok (.astore_n 3, 1) := by decide +kernel
theorem dX0_addPredecessors_6 : decode cX0_addPredecessors 6 = .ok (.iconst 0, 1) := by decide +kernel
theorem dX0_addPredecessors_7 : decode cX0_addPredecessors 7 = .ok (.istore 4, 2) := by decide +kernel
theorem dX0_addPredecessors_9 : decode cX0_addPredecessors 9 = .ok (.iconst 0, 1) := by decide +kernel
theorem dX0_addPredecessors_10 : decode cX0_addPredecessors 10 = .ok (.istore 5, 2) := by decide +kernel
theorem dX0_addPredecessors_12 : decode cX0_addPredecessors 12 = .ok (.iload 5, 2) := by decide +kernel
theorem dX0_addPredecessors_14 : decode cX0_addPredecessors 14 = .ok (.aload_n 3, 1) := by decide +kernel
theorem dX0_addPredecessors_15 : decode cX0_addPredecessors 15 = .ok (.invokevirtual 55, 3) := by decide +kernel
theorem dX0_addPredecessors_18 : decode cX0_addPredecessors 18 = .ok (.if_icmp .ge 102, 3) := by decide +kernel
theorem dX0_addPredecessors_21 : decode cX0_addPredecessors 21 = .ok (.aload_n 0, 1) := by decide +kernel
theorem dX0_addPredecessors_22 : decode cX0_addPredecessors 22 = .ok (.aload_n 3, 1) := by decide +kernel
theorem dX0_addPredecessors_23 : decode cX0_addPredecessors 23 = .ok (.iload 5, 2) := by decide +kernel
theorem dX0_addPredecessors_25 : decode cX0_addPredecessors 25 = .ok (.iload_n 2, 1) := by decide +kernel
theorem dX0_addPredecessors_26 : decode cX0_addPredecessors 26 = .ok (.invokevirtual 109, 3) := by decide +kernel
theorem dX0_addPredecessors_29 : decode cX0_addPredecessors 29 = .ok (.ifCond .eq 6, 3) := by decide +kernel
theorem dX0_addPredecessors_32 : decode cX0_addPredecessors 32 = .ok (.goto 82, 3) := by decide +kernel
theorem dX0_addPredecessors_35 : decode cX0_addPredecessors 35 = .ok (.iconst 0, 1) := by decide +kernel
theorem dX0_addPredecessors_36 : decode cX0_addPredecessors 36 = .ok (.istore 6, 2) := by decide +kernel
theorem dX0_addPredecessors_38 : decode cX0_addPredecessors 38 = .ok (.iload 6, 2) := by decide +kernel
theorem dX0_addPredecessors_40 : decode cX0_addPredecessors 40 = .ok (.aload_n 1, 1) := by decide +kernel
theorem dX0_addPredecessors_41 : decode cX0_addPredecessors 41 = .ok (.invokevirtual 113, 3) := by decide +kernel
theorem dX0_addPredecessors_44 : decode cX0_addPredecessors 44 = .ok (.if_icmp .ge 70, 3) := by decide +kernel
theorem dX0_addPredecessors_47 : decode cX0_addPredecessors 47 = .ok (.aload_n 1, 1) := by decide +kernel
theorem dX0_addPredecessors_48 : decode cX0_addPredecessors 48 = .ok (.iload 6, 2) := by decide +kernel
theorem dX0_addPredecessors_50 : decode cX0_addPredecessors 50 = .ok (.aload_n 3, 1) := by decide +kernel
theorem dX0_addPredecessors_51 : decode cX0_addPredecessors 51 = .ok (.iload 5, 2) := by decide +kernel
theorem dX0_addPredecessors_53 : decode cX0_addPredecessors 53 = .ok (.invokevirtual 79, 3) := by decide +kernel
theorem dX0_addPredecessors_56 : decode cX0_addPredecessors 56 = .ok (.invokevirtual 118, 3) := by decide +kernel
theorem dX0_addPredecessors_59 : decode cX0_addPredecessors 59 = .ok (.ifCond .eq 49, 3) := by decide +kernel
theorem dX0_addPredecessors_62 : decode cX0_addPredecessors 62 = .ok (.aload_n 3, 1) := by decide +kernel
theorem dX0_addPredecessors_63 : decode cX0_addPredecessors 63 = .ok (.iload 5, 2) := by decide +kernel
theorem dX0_addPredecessors_65 : decode cX0_addPredecessors 65 = .ok (.aload_n 0, 1) := by decide +kernel
theorem dX0_addPredecessors_66 : decode cX0_addPredecessors 66 = .ok (.getfield 27, 3) := by decide +kernel
theorem dX0_addPredecessors_69 : decode cX0_addPredecessors 69 = .ok (.invokevirtual 101, 3) := by decide +kernel
theorem dX0_addPredecessors_72 : decode cX0_addPredecessors 72 = .ok (.aload_n 1, 1) := by decide +kernel
theorem dX0_addPredecessors_73 : decode cX0_addPredecessors 73 = .ok (.iload 6, 2) := by decide +kernel
theorem dX0_addPredecessors_75 : decode cX0_addPredecessors 75 = .ok (.aload_n 0, 1) := by decide +kernel
theorem dX0_addPredecessors_76 : decode cX0_addPredecessors 76 = .ok (.getfield 27, 3) := by decide +kernel
theorem dX0_addPredecessors_79 : decode cX0_addPredecessors 79 = .ok (.invokevirtual 122, 3) := by decide +kernel
theorem dX0_addPredecessors_82 : decode cX0_addPredecessors 82 = .ok (.aload_n 0, 1) := by decide +kernel
theorem dX0_addPredecessors_83 : decode cX0_addPredecessors 83 = .ok (.getfield 20, 3) := by decide +kernel
theorem dX0_addPredecessors_86 : decode cX0_addPredecessors 86 = .ok (.aload_n 0, 1) := by decide +kernel
theorem dX0_addPredecessors_87 : decode cX0_addPredecessors 87 = .ok (.getfield 27, 3) := by decide +kernel
theorem dX0_addPredecessors_90 : decode cX0_addPredecessors 90 = .ok (.invokevirtual 105, 3) := by decide +kernel
theorem dX0_addPredecessors_93 : decode cX0_addPredecessors 93 = .ok (.ifCond .ne 8, 3) := by decide +kernel
theorem dX0_addPredecessors_96 : decode cX0_addPredecessors 96 = .ok (.iload 4, 2) := by decide +kernel
theorem dX0_addPredecessors_98 : decode cX0_addPredecessors 98 = .ok (.ifCond .eq 7, 3) := by decide +kernel
theorem dX0_addPredecessors_101 : decode cX0_addPredecessors 101 = .ok (.iconst 1, 1) := by decide +kernel
theorem dX0_addPredecessors_102 : decode cX0_addPredecessors 102 = .ok (.goto 4, 3) := by decide +kernel
theorem dX0_addPredecessors_105 : decode cX0_addPredecessors 105 = .ok (.iconst 0, 1) := by decide +kernel
theorem dX0_addPredecessors_106 : decode cX0_addPredecessors 106 = .ok (.istore 4, 2) := by decide +kernel
theorem dX0_addPredecessors_108 : decode cX0_addPredecessors 108 = .ok (.iinc 6 1, 3) := by decide +kernel
theorem dX0_addPredecessors_111 : decode cX0_addPredecessors 111 = .ok (.goto (-73), 3) := by decide +kernel
theorem dX0_addPredecessors_114 : decode cX0_addPredecessors 114 = .ok (.iinc 5 1, 3) := by decide +kernel
theorem dX0_addPredecessors_117 : decode cX0_addPredecessors 117 = .ok (.goto (-105), 3) := by decide +kernel
theorem dX0_addPredecessors_120 : decode cX0_addPredecessors 120 = .ok (.iload 4, 2) := by decide +kernel
theorem dX0_addPredecessors_122 : decode cX0_addPredecessors 122 = .ok (.ireturn, 1) := by decide +kernel
theorem dX0_isOld_0 : decode cX0_isOld 0 = .ok (.aload_n 1, 1) := by decide +kernel
theorem dX0_isOld_1 : decode cX0_isOld 1 = .ok (.iload_n 2, 1) := by decide +kernel
theorem dX0_isOld_2 : decode cX0_isOld 2 = .ok (.aload_n 0, 1) := by decide +kernel
theorem dX0_isOld_3 : decode cX0_isOld 3 = .ok (.getfield 27, 3) := by decide +kernel
theorem dX0_isOld_6 : decode cX0_isOld 6 = .ok (.invokevirtual 101, 3) := by decide +kernel
theorem dX0_isOld_9 : decode cX0_isOld 9 = .ok (.iload_n 3, 1) := by decide +kernel
theorem dX0_isOld_10 : decode cX0_isOld 10 = .ok (.ifCond .le 24, 3) := by decide +kernel
theorem dX0_isOld_13 : decode cX0_isOld 13 = .ok (.aload_n 0, 1) := by decide +kernel
theorem dX0_isOld_14 : decode cX0_isOld 14 = .ok (.iload_n 3, 1) := by decide +kernel
theorem dX0_isOld_15 : decode cX0_isOld 15 = .ok (.iconst 1, 1) := by decide +kernel
theorem dX0_isOld_16 : decode cX0_isOld 16 = .ok (.isub, 1) := by decide +kernel
theorem dX0_isOld_17 : decode cX0_isOld 17 = .ok (.invokevirtual 59, 3) := by decide +kernel
theorem dX0_isOld_20 : decode cX0_isOld 20 = .ok (.aload_n 0, 1) := by decide +kernel
theorem dX0_isOld_21 : decode cX0_isOld 21 = .ok (.getfield 27, 3) := by decide +kernel
theorem dX0_isOld_24 : decode cX0_isOld 24 = .ok (.invokevirtual 125, 3) := by decide +kernel
theorem dX0_isOld_27 : decode cX0_isOld 27 = .ok (.ifCond .eq 7, 3) := by decide +kernel
theorem dX0_isOld_30 : decode cX0_isOld 30 = .ok (.iconst 1, 1) := by decide +kernel
theorem dX0_isOld_31 : decode cX0_isOld 31 = .ok (.goto 4, 3) := by decide +kernel
theorem dX0_isOld_34 : decode cX0_isOld 34 = .ok (.iconst 0, 1) := by decide +kernel
theorem dX0_isOld_35 : decode cX0_isOld 35 = .ok (.ireturn, 1) := by decide +kernel
theorem dX0_isCovering_0 : decode cX0_isCovering 0 = .ok (.aload_n 0, 1) := by decide +kernel
theorem dX0_isCovering_1 : decode cX0_isCovering 1 = .ok (.iload_n 1, 1) := by decide +kernel
theorem dX0_isCovering_2 : decode cX0_isCovering 2 = .ok (.invokevirtual 59, 3) := by decide +kernel
theorem dX0_isCovering_5 : decode cX0_isCovering 5 = .ok (.astore_n 3, 1) := by decide +kernel
theorem dX0_isCovering_6 : decode cX0_isCovering 6 = .ok (.aload_n 3, 1) := by decide +kernel
theorem dX0_isCovering_7 : decode cX0_isCovering 7 = .ok (.aload_n 2, 1) := by decide +kernel
theorem dX0_isCovering_8 : decode cX0_isCovering 8 = .ok (.aload_n 3, 1) := by decide +kernel
theorem dX0_isCovering_9 : decode cX0_isCovering 9 = .ok (.invokevirtual 55, 3) := by decide +kernel
theorem dX0_isCovering_12 : decode cX0_isCovering 12 = .ok (.invokevirtual 128, 3) := by decide +kernel
theorem dX0_isCovering_15 : decode cX0_isCovering 15 = .ok (.ifCond .lt 7, 3) := by decide +kernel
theorem dX0_isCovering_18 : decode cX0_isCovering 18 = .ok (.iconst 1, 1) := by decide +kernel
theorem dX0_isCovering_19 : decode cX0_isCovering 19 = .ok (.goto 4, 3) := by decide +kernel
theorem dX0_isCovering_22 : decode cX0_isCovering 22 = .ok (.iconst 0, 1) := by decide +kernel
theorem dX0_isCovering_23 : decode cX0_isCovering 23 = .ok (.ireturn, 1) := by decide +kernel
theorem dX0_walkOn_0 : decode cX0_walkOn 0 = .ok (.iconst 0, 1) := by decide +kernel
theorem dX0_walkOn_1 : decode cX0_walkOn 1 = .ok (.istore_n 3, 1) := by decide +kernel
theorem dX0_walkOn_2 : decode cX0_walkOn 2 = .ok (.iload_n 3, 1) := by decide +kernel
theorem dX0_walkOn_3 : decode cX0_walkOn 3 = .ok (.aload_n 1, 1) := by decide +kernel
theorem dX0_walkOn_4 : decode cX0_walkOn 4 = .ok (.invokevirtual 113, 3) := by decide +kernel
theorem dX0_walkOn_7 : decode cX0_walkOn 7 = .ok (.if_icmp .ge 79, 3) := by decide +kernel
theorem dX0_walkOn_10 : decode cX0_walkOn 10 = .ok (.aload_n 1, 1) := by decide +kernel
theorem dX0_walkOn_11 : decode cX0_walkOn 11 = .ok (.iload_n 3, 1) := by decide +kernel
theorem dX0_walkOn_12 : decode cX0_walkOn 12 = .ok (.aload_n 0, 1) := by decide +kernel
theorem dX0_walkOn_13 : decode cX0_walkOn 13 = .ok (.getfield 31, 3) := by decide +kernel
theorem dX0_walkOn_16 : decode cX0_walkOn 16 = .ok (.iconst 1, 1) := by decide +kernel
theorem dX0_walkOn_17 : decode cX0_walkOn 17 = .ok (.invokevirtual 132, 3) := by decide +kernel
theorem dX0_walkOn_20 : decode cX0_walkOn 20 = .ok (.ifCond .eq 60, 3) := by decide +kernel
theorem dX0_walkOn_23 : decode cX0_walkOn 23 = .ok (.aload_n 0, 1) := by decide +kernel
theorem dX0_walkOn_24 : decode cX0_walkOn 24 = .ok (.getfield 27, 3) := by decide +kernel
theorem dX0_walkOn_27 : decode cX0_walkOn 27 = .ok (.aload_n 0, 1) := by decide +kernel
theorem dX0_walkOn_28 : decode cX0_walkOn 28 = .ok (.getfield 31, 3) := by decide +kernel
theorem dX0_walkOn_31 : decode cX0_walkOn 31 = .ok (.invokevirtual 91, 3) := by decide +kernel
theorem dX0_walkOn_34 : decode cX0_walkOn 34 = .ok (.aload_n 1, 1) := by decide +kernel
theorem dX0_walkOn_35 : decode cX0_walkOn 35 = .ok (.iload_n 3, 1) := by decide +kernel
theorem dX0_walkOn_36 : decode cX0_walkOn 36 = .ok (.aload_n 0, 1) := by decide +kernel
theorem dX0_walkOn_37 : decode cX0_walkOn 37 = .ok (.getfield 27, 3) := by decide +kernel
theorem dX0_walkOn_40 : decode cX0_walkOn 40 = .ok (.invokevirtual 136, 3) := by decide +kernel
theorem dX0_walkOn_43 : decode cX0_walkOn 43 = .ok (.istore 4, 2) := by decide +kernel
theorem dX0_walkOn_45 : decode cX0_walkOn 45 = .ok (.aload_n 0, 1) := by decide +kernel
theorem dX0_walkOn_46 : decode cX0_walkOn 46 = .ok (.iload_n 2, 1) := by decide +kernel
theorem dX0_walkOn_47 : decode cX0_walkOn 47 = .ok (.aload_n 0, 1) := by decide +kernel
theorem dX0_walkOn_48 : decode cX0_walkOn 48 = .ok (.getfield 27, 3) := by decide +kernel
theorem dX0_walkOn_51 : decode cX0_walkOn 51 = .ok (.invokevirtual 83, 3) := by decide +kernel
theorem dX0_walkOn_54 : decode cX0_walkOn 54 = .ok (.ifCond .eq 26, 3) := by decide +kernel
theorem dX0_walkOn_57 : decode cX0_walkOn 57 = .ok (.aload_n 0, 1) := by decide +kernel
theorem dX0_walkOn_58 : decode cX0_walkOn 58 = .ok (.getfield 31, 3) := by decide +kernel
theorem dX0_walkOn_61 : decode cX0_walkOn 61 = .ok (.aload_n 0, 1) := by decide +kernel
theorem dX0_walkOn_62 : decode cX0_walkOn 62 = .ok (.getfield 27, 3) := by decide +kernel
theorem dX0_walkOn_65 : decode cX0_walkOn 65 = .ok (.invokevirtual 91, 3) := by decide +kernel
theorem dX0_walkOn_68 : decode cX0_walkOn 68 = .ok (.aload_n 0, 1) := by decide +kernel
theorem dX0_walkOn_69 : decode cX0_walkOn 69 = .ok (.iload_n 3, 1) := by decide +kernel
theorem dX0_walkOn_70 : decode cX0_walkOn 70 = .ok (.putfield 45, 3) := by decide +kernel
theorem dX0_walkOn_73 : decode cX0_walkOn 73 = .ok (.aload_n 0, 1) := by decide +kernel
theorem dX0_walkOn_74 : decode cX0_walkOn 74 = .ok (.iload 4, 2) := by decide +kernel
theorem dX0_walkOn_76 : decode cX0_walkOn 76 = .ok (.putfield 48, 3) := by decide +kernel
theorem dX0_walkOn_79 : decode cX0_walkOn 79 = .ok (.return_, 1) := by decide +kernel
theorem dX0_walkOn_80 : decode cX0_walkOn 80 = .ok (.iinc 3 1, 3) := by decide +kernel
theorem dX0_walkOn_83 : decode cX0_walkOn 83 = .ok (.goto (-81), 3) := by decide +kernel
theorem dX0_walkOn_86 : decode cX0_walkOn 86 = .ok (.return_, 1) := by decide +kernel
theorem dX1_init_0 : decode cX1_init 0 = .ok (.aload_n 0, 1) := by decide +kernel
theorem dX1_init_1 : decode cX1_init 1 = .ok (.invokespecial 1, 3) := by decide +kernel
theorem dX1_init_4 : decode cX1_init 4 = .ok (.aload_n 0, 1) := by decide +kernel
theorem dX1_init_5 : decode cX1_init 5 = .ok (.iconst 0, 1) := by decide +kernel
theorem dX1_init_6 : decode cX1_init 6 = .ok (.putfield 7, 3) := by decide +kernel
theorem dX1_init_9 : decode cX1_init 9 = .ok (.aload_n 0, 1) := by decide +kernel
theorem dX1_init_10 : decode cX1_init 10 = .ok (.lconst 1, 1) := by decide +kernel
theorem dX1_init_11 : decode cX1_init 11 = .ok (.putfield 15, 3) := by decide +kernel
theorem dX1_init_14 : decode cX1_init 14 = .ok (.aload_n 0, 1) := by decide +kernel
theorem dX1_init_15 : decode cX1_init 15 = .ok (.lconst 1, 1) := by decide +kernel
theorem dX1_init_16 : decode cX1_init 16 = .ok (.putfield 19, 3) := by decide +kernel
theorem dX1_init_19 : decode cX1_init 19 = .ok (.return_, 1) := by decide +kernel
theorem dX1_word_0 : decode cX1_word 0 = .ok (.iload_n 1, 1) := by decide +kernel
theorem dX1_word_1 : decode cX1_word 1 = .ok (.ifCond .ne 10, 3) := by decide +kernel
theorem dX1_word_4 : decode cX1_word 4 = .ok (.aload_n 0, 1) := by decide +kernel
theorem dX1_word_5 : decode cX1_word 5 = .ok (.getfield 15, 3) := by decide +kernel
theorem dX1_word_8 : decode cX1_word 8 = .ok (.goto 7, 3) := by decide +kernel
theorem dX1_word_11 : decode cX1_word 11 = .ok (.aload_n 0, 1) := by decide +kernel
theorem dX1_word_12 : decode cX1_word 12 = .ok (.getfield 19, 3) := by decide +kernel
theorem dX1_word_15 : decode cX1_word 15 = .ok (.lreturn, 1) := by decide +kernel
theorem dX1_setWord_0 : decode cX1_setWord 0 = .ok (.iload_n 1, 1) := by decide +kernel
theorem dX1_setWord_1 : decode cX1_setWord 1 = .ok (.ifCond .ne 11, 3) := by decide +kernel
theorem dX1_setWord_4 : decode cX1_setWord 4 = .ok (.aload_n 0, 1) := by decide +kernel
theorem dX1_setWord_5 : decode cX1_setWord 5 = .ok (.lload_n 2, 1) := by decide +kernel
theorem dX1_setWord_6 : decode cX1_setWord 6 = .ok (.putfield 15, 3) := by decide +kernel
theorem dX1_setWord_9 : decode cX1_setWord 9 = .ok (.goto 8, 3) := by decide +kernel
theorem dX1_setWord_12 : decode cX1_setWord 12 = .ok (.aload_n 0, 1) := by decide +kernel
theorem dX1_setWord_13 : decode cX1_setWord 13 = .ok (.lload_n 2, 1) := by decide +kernel
theorem dX1_setWord_14 : decode cX1_setWord 14 = .ok (.putfield 19, 3) := by decide +kernel
theorem dX1_setWord_17 : decode cX1_setWord 17 = .ok (.return_, 1) := by decide +kernel
theorem dX1_copyFrom_0 : decode cX1_copyFrom 0 = .ok (.aload_n 0, 1) := by decide +kernel
theorem dX1_copyFrom_1 : decode cX1_copyFrom 1 = .ok (.aload_n 1, 1) := by decide +kernel
theorem dX1_copyFrom_2 : decode cX1_copyFrom 2 = .ok (.getfield 7, 3) := by decide +kernel
theorem dX1_copyFrom_5 : decode cX1_copyFrom 5 = .ok (.putfield 7, 3) := by decide +kernel
theorem dX1_copyFrom_8 : decode cX1_copyFrom 8 = .ok (.aload_n 0, 1) := by decide +kernel
theorem dX1_copyFrom_9 : decode cX1_copyFrom 9 = .ok (.aload_n 1, 1) := by decide +kernel
theorem dX1_copyFrom_10 : decode cX1_copyFrom 10 = .ok (.getfield 15, 3) := by decide +kernel
theorem dX1_copyFrom_13 : decode cX1_copyFrom 13 = .ok (.putfield 15, 3) := by decide +kernel
theorem dX1_copyFrom_16 : decode cX1_copyFrom 16 = .ok (.aload_n 0, 1) := by decide +kernel
theorem dX1_copyFrom_17 : decode cX1_copyFrom 17 = .ok (.aload_n 1, 1) := by decide +kernel
theorem dX1_copyFrom_18 : decode cX1_copyFrom 18 = .ok (.getfield 19, 3) := by decide +kernel
theorem dX1_copyFrom_21 : decode cX1_copyFrom 21 = .ok (.putfield 19, 3) := by decide +kernel
theorem dX1_copyFrom_24 : decode cX1_copyFrom 24 = .ok (.return_, 1) := by decide +kernel
theorem dX2_init_0 : decode cX2_init 0 = .ok (.aload_n 0, 1) := by decide +kernel
theorem dX2_init_1 : decode cX2_init 1 = .ok (.invokespecial 1, 3) := by decide +kernel
theorem dX2_init_4 : decode cX2_init 4 = .ok (.iload_n 1, 1) := by decide +kernel
theorem dX2_init_5 : decode cX2_init 5 = .ok (.iconst 0, 1) := by decide +kernel
theorem dX2_init_6 : decode cX2_init 6 = .ok (.invokestatic 7, 3) := by decide +kernel
theorem dX2_init_9 : decode cX2_init 9 = .ok (.istore_n 2, 1) := by decide +kernel
theorem dX2_init_10 : decode cX2_init 10 = .ok (.aload_n 0, 1) := by decide +kernel
theorem dX2_init_11 : decode cX2_init 11 = .ok (.iload_n 2, 1) := by decide +kernel
theorem dX2_init_12 : decode cX2_init 12 = .ok (.newarray .int, 2) := by decide +kernel
theorem dX2_init_14 : decode cX2_init 14 = .ok (.putfield 13, 3) := by decide +kernel
theorem dX2_init_17 : decode cX2_init 17 = .ok (.aload_n 0, 1) := by decide +kernel
theorem dX2_init_18 : decode cX2_init 18 = .ok (.iload_n 2, 1) := by decide +kernel
theorem dX2_init_19 : decode cX2_init 19 = .ok (.newarray .long, 2) := by decide +kernel
theorem dX2_init_21 : decode cX2_init 21 = .ok (.putfield 19, 3) := by decide +kernel
theorem dX2_init_24 : decode cX2_init 24 = .ok (.aload_n 0, 1) := by decide +kernel
theorem dX2_init_25 : decode cX2_init 25 = .ok (.iload_n 2, 1) := by decide +kernel
theorem dX2_init_26 : decode cX2_init 26 = .ok (.newarray .long, 2) := by decide +kernel
theorem dX2_init_28 : decode cX2_init 28 = .ok (.putfield 23, 3) := by decide +kernel
theorem dX2_init_31 : decode cX2_init 31 = .ok (.aload_n 0, 1) := by decide +kernel
theorem dX2_init_32 : decode cX2_init 32 = .ok (.iconst 0, 1) := by decide +kernel
theorem dX2_init_33 : decode cX2_init 33 = .ok (.putfield 26, 3) := by decide +kernel
theorem dX2_init_36 : decode cX2_init 36 = .ok (.return_, 1) := by decide +kernel
theorem dX2_size_0 : decode cX2_size 0 = .ok (.aload_n 0, 1) := by decide +kernel
theorem dX2_size_1 : decode cX2_size 1 = .ok (.getfield 26, 3) := by decide +kernel
theorem dX2_size_4 : decode cX2_size 4 = .ok (.ireturn, 1) := by decide +kernel
theorem dX2_stateAt_0 : decode cX2_stateAt 0 = .ok (.aload_n 0, 1) := by decide +kernel
theorem dX2_stateAt_1 : decode cX2_stateAt 1 = .ok (.iload_n 1, 1) := by decide +kernel
theorem dX2_stateAt_2 : decode cX2_stateAt 2 = .ok (.invokevirtual 30, 3) := by decide +kernel
theorem dX2_stateAt_5 : decode cX2_stateAt 5 = .ok (.ifCond .eq 12, 3) := by decide +kernel
theorem dX2_stateAt_8 : decode cX2_stateAt 8 = .ok (.aload_n 0, 1) := by decide +kernel
theorem dX2_stateAt_9 : decode cX2_stateAt 9 = .ok (.getfield 13, 3) := by decide +kernel
theorem dX2_stateAt_12 : decode cX2_stateAt 12 = .ok (.iload_n 1, 1) := by decide +kernel
theorem dX2_stateAt_13 : decode cX2_stateAt 13 = .ok (.iaload, 1) := by decide +kernel
theorem dX2_stateAt_14 : decode cX2_stateAt 14 = .ok (.goto 4, 3) := by decide +kernel
theorem dX2_stateAt_17 : decode cX2_stateAt 17 = .ok (.iconst 0, 1) := by decide +kernel
theorem dX2_stateAt_18 : decode cX2_stateAt 18 = .ok (.ireturn, 1) := by decide +kernel
theorem dX2_wordAt_0 : decode cX2_wordAt 0 = .ok (.aload_n 0, 1) := by decide +kernel
theorem dX2_wordAt_1 : decode cX2_wordAt 1 = .ok (.iload_n 1, 1) := by decide +kernel
theorem dX2_wordAt_2 : decode cX2_wordAt 2 = .ok (.invokevirtual 30, 3) := by decide +kernel
theorem dX2_wordAt_5 : decode cX2_wordAt 5 = .ok (.ifCond .ne 5, 3) := by decide +kernel
theorem dX2_wordAt_8 : decode cX2_wordAt 8 = .ok (.lconst 1, 1) := by decide +kernel
theorem dX2_wordAt_9 : decode cX2_wordAt 9 = .ok (.lreturn, 1) := by decide +kernel
theorem dX2_wordAt_10 : decode cX2_wordAt 10 = .ok (.iload_n 2, 1) := by decide +kernel
theorem dX2_wordAt_11 : decode cX2_wordAt 11 = .ok (.ifCond .ne 12, 3) := by decide +kernel
theorem dX2_wordAt_14 : decode cX2_wordAt 14 = .ok (.aload_n 0, 1) := by decide +kernel
theorem dX2_wordAt_15 : decode cX2_wordAt 15 = .ok (.getfield 19, 3) := by decide +kernel
theorem dX2_wordAt_18 : decode cX2_wordAt 18 = .ok (.iload_n 1, 1) := by decide +kernel
theorem dX2_wordAt_19 : decode cX2_wordAt 19 = .ok (.laload, 1) := by decide +kernel
theorem dX2_wordAt_20 : decode cX2_wordAt 20 = .ok (.goto 9, 3) := by decide +kernel
theorem dX2_wordAt_23 : decode cX2_wordAt 23 = .ok (.aload_n 0, 1) := by decide +kernel
theorem dX2_wordAt_24 : decode cX2_wordAt 24 = .ok (.getfield 23, 3) := by decide +kernel
theorem dX2_wordAt_27 : decode cX2_wordAt 27 = .ok (.iload_n 1, 1) := by decide +kernel
theorem dX2_wordAt_28 : decode cX2_wordAt 28 = .ok (.laload, 1) := by decide +kernel
theorem dX2_wordAt_29 : decode cX2_wordAt 29 = .ok (.lreturn, 1) := by decide +kernel
theorem dX2_load_0 : decode cX2_load 0 = .ok (.aload_n 0, 1) := by decide +kernel
theorem dX2_load_1 : decode cX2_load 1 = .ok (.iload_n 1, 1) := by decide +kernel
theorem dX2_load_2 : decode cX2_load 2 = .ok (.invokevirtual 30, 3) := by decide +kernel
theorem dX2_load_5 : decode cX2_load 5 = .ok (.ifCond .eq 33, 3) := by decide +kernel
theorem dX2_load_8 : decode cX2_load 8 = .ok (.aload_n 2, 1) := by decide +kernel
theorem dX2_load_9 : decode cX2_load 9 = .ok (.aload_n 0, 1) := by decide +kernel
theorem dX2_load_10 : decode cX2_load 10 = .ok (.getfield 13, 3) := by decide +kernel
theorem dX2_load_13 : decode cX2_load 13 = .ok (.iload_n 1, 1) := by decide +kernel
theorem dX2_load_14 : decode cX2_load 14 = .ok (.iaload, 1) := by decide +kernel
theorem dX2_load_15 : decode cX2_load 15 = .ok (.putfield 36, 3) := by decide +kernel
theorem dX2_load_18 : decode cX2_load 18 = .ok (.aload_n 2, 1) := by decide +kernel
theorem dX2_load_19 : decode cX2_load 19 = .ok (.aload_n 0, 1) := by decide +kernel
theorem dX2_load_20 : decode cX2_load 20 = .ok (.getfield 19, 3) := by decide +kernel
theorem dX2_load_23 : decode cX2_load 23 = .ok (.iload_n 1, 1) := by decide +kernel
theorem dX2_load_24 : decode cX2_load 24 = .ok (.laload, 1) := by decide +kernel
theorem dX2_load_25 : decode cX2_load 25 = .ok (.putfield 41, 3) := by decide +kernel
theorem dX2_load_28 : decode cX2_load 28 = .ok (.aload_n 2, 1) := by decide +kernel
theorem dX2_load_29 : decode cX2_load 29 = .ok (.aload_n 0, 1) := by decide +kernel
theorem dX2_load_30 : decode cX2_load 30 = .ok (.getfield 23, 3) := by decide +kernel
theorem dX2_load_33 : decode cX2_load 33 = .ok (.iload_n 1, 1) := by decide +kernel
theorem dX2_load_34 : decode cX2_load 34 = .ok (.laload, 1) := by decide +kernel
theorem dX2_load_35 : decode cX2_load 35 = .ok (.putfield 45, 3) := by decide +kernel
theorem dX2_load_38 : decode cX2_load 38 = .ok (.return_, 1) := by decide +kernel
theorem dX2_add_0 : decode cX2_add 0 = .ok (.aload_n 0, 1) := by decide +kernel
theorem dX2_add_1 : decode cX2_add 1 = .ok (.getfield 26, 3) := by decide +kernel
theorem dX2_add_4 : decode cX2_add 4 = .ok (.aload_n 0, 1) := by decide +kernel
theorem dX2_add_5 : decode cX2_add 5 = .ok (.getfield 13, 3) := by decide +kernel
theorem dX2_add_8 : decode cX2_add 8 = .ok (.arraylength, 1) := by decide +kernel
theorem dX2_add_9 : decode cX2_add 9 = .ok (.if_icmp .ge 22, 3) := by decide +kernel
theorem dX2_add_12 : decode cX2_add 12 = .ok (.aload_n 0, 1) := by decide +kernel
theorem dX2_add_13 : decode cX2_add 13 = .ok (.aload_n 0, 1) := by decide +kernel
theorem dX2_add_14 : decode cX2_add 14 = .ok (.getfield 26, 3) := by decide +kernel
theorem dX2_add_17 : decode cX2_add 17 = .ok (.aload_n 1, 1) := by decide +kernel
theorem dX2_add_18 : decode cX2_add 18 = .ok (.invokevirtual 48, 3) := by decide +kernel
theorem dX2_add_21 : decode cX2_add 21 = .ok (.aload_n 0, 1) := by decide +kernel
theorem dX2_add_22 : decode cX2_add 22 = .ok (.dup, 1) := by decide +kernel
theorem dX2_add_23 : decode cX2_add 23 = .ok (.getfield 26, 3) := by decide +kernel
theorem dX2_add_26 : decode cX2_add 26 = .ok (.iconst 1, 1) := by decide +kernel
theorem dX2_add_27 : decode cX2_add 27 = .ok (.iadd, 1) := by decide +kernel
theorem dX2_add_28 : decode cX2_add 28 = .ok (.putfield 26, 3) := by decide +kernel
theorem dX2_add_31 : decode cX2_add 31 = .ok (.return_, 1) := by decide +kernel
theorem dX2_addAll_0 : decode cX2_addAll 0 = .ok (.iconst 0, 1) := by decide +kernel
theorem dX2_addAll_1 : decode cX2_addAll 1 = .ok (.istore_n 2, 1) := by decide +kernel
theorem dX2_addAll_2 : decode cX2_addAll 2 = .ok (.iload_n 2, 1) := by decide +kernel
theorem dX2_addAll_3 : decode cX2_addAll 3 = .ok (.aload_n 1, 1) := by decide +kernel
theorem dX2_addAll_4 : decode cX2_addAll 4 = .ok (.getfield 26, 3) := by decide +kernel
theorem dX2_addAll_7 : decode cX2_addAll 7 = .ok (.if_icmp .ge 76, 3) := by decide +kernel
theorem dX2_addAll_10 : decode cX2_addAll 10 = .ok (.aload_n 0, 1) := by decide +kernel
theorem dX2_addAll_11 : decode cX2_addAll 11 = .ok (.getfield 26, 3) := by decide +kernel
theorem dX2_addAll_14 : decode cX2_addAll 14 = .ok (.aload_n 0, 1) := by decide +kernel
theorem dX2_addAll_15 : decode cX2_addAll 15 = .ok (.getfield 13, 3) := by decide +kernel
theorem dX2_addAll_18 : decode cX2_addAll 18 = .ok (.arraylength, 1) := by decide +kernel
theorem dX2_addAll_19 : decode cX2_addAll 19 = .ok (.if_icmp .ge 64, 3) := by decide +kernel
theorem dX2_addAll_22 : decode cX2_addAll 22 = .ok (.aload_n 0, 1) := by decide +kernel
theorem dX2_addAll_23 : decode cX2_addAll 23 = .ok (.getfield 13, 3) := by decide +kernel
theorem dX2_addAll_26 : decode cX2_addAll 26 = .ok (.aload_n 0, 1) := by decide +kernel
theorem dX2_addAll_27 : decode cX2_addAll 27 = .ok (.getfield 26, 3) := by decide +kernel
theorem dX2_addAll_30 : decode cX2_addAll 30 = .ok (.aload_n 1, 1) := by decide +kernel
theorem dX2_addAll_31 : decode cX2_addAll 31 = .ok (.getfield 13, 3) := by decide +kernel
theorem dX2_addAll_34 : decode cX2_addAll 34 = .ok (.iload_n 2, 1) := by decide +kernel
theorem dX2_addAll_35 : decode cX2_addAll 35 = .ok (.iaload, 1) := by decide +kernel
theorem dX2_addAll_36 : decode cX2_addAll 36 = .ok (.iastore, 1) := by decide +kernel
theorem dX2_addAll_37 : decode cX2_addAll 37 = .ok (.aload_n 0, 1) := by decide +kernel
theorem dX2_addAll_38 : decode cX2_addAll 38 = .ok (.getfield 19, 3) := by decide +kernel
theorem dX2_addAll_41 : decode cX2_addAll 41 = .ok (.aload_n 0, 1) := by decide +kernel
theorem dX2_addAll_42 : decode cX2_addAll 42 = .ok (.getfield 26, 3) := by decide +kernel
theorem dX2_addAll_45 : decode cX2_addAll 45 = .ok (.aload_n 1, 1) := by decide +kernel
theorem dX2_addAll_46 : decode cX2_addAll 46 = .ok (.getfield 19, 3) := by decide +kernel
theorem dX2_addAll_49 : decode cX2_addAll 49 = .ok (.iload_n 2, 1) := by decide +kernel
theorem dX2_addAll_50 : decode cX2_addAll 50 = .ok (.laload, 1) := by decide +kernel
theorem dX2_addAll_51 : decode cX2_addAll 51 = .ok (.lastore, 1) := by decide +kernel
theorem dX2_addAll_52 : decode cX2_addAll 52 = .ok (.aload_n 0, 1) := by decide +kernel
theorem dX2_addAll_53 : decode cX2_addAll 53 = .ok (.getfield 23, 3) := by decide +kernel
theorem dX2_addAll_56 : decode cX2_addAll 56 = .ok (.aload_n 0, 1) := by decide +kernel
theorem dX2_addAll_57 : decode cX2_addAll 57 = .ok (.getfield 26, 3) := by decide +kernel
theorem dX2_addAll_60 : decode cX2_addAll 60 = .ok (.aload_n 1, 1) := by decide +kernel
theorem dX2_addAll_61 : decode cX2_addAll 61 = .ok (.getfield 23, 3) := by decide +kernel
theorem dX2_addAll_64 : decode cX2_addAll 64 = .ok (.iload_n 2, 1) := by decide +kernel
theorem dX2_addAll_65 : decode cX2_addAll 65 = .ok (.laload, 1) := by decide +kernel
theorem dX2_addAll_66 : decode cX2_addAll 66 = .ok (.lastore, 1) := by decide +kernel
theorem dX2_addAll_67 : decode cX2_addAll 67 = .ok (.aload_n 0, 1) := by decide +kernel
theorem dX2_addAll_68 : decode cX2_addAll 68 = .ok (.dup, 1) := by decide +kernel
theorem dX2_addAll_69 : decode cX2_addAll 69 = .ok (.getfield 26, 3) := by decide +kernel
theorem dX2_addAll_72 : decode cX2_addAll 72 = .ok (.iconst 1, 1) := by decide +kernel
theorem dX2_addAll_73 : decode cX2_addAll 73 = .ok (.iadd, 1) := by decide +kernel
theorem dX2_addAll_74 : decode cX2_addAll 74 = .ok (.putfield 26, 3) := by decide +kernel
theorem dX2_addAll_77 : decode cX2_addAll 77 = .ok (.iinc 2 1, 3) := by decide +kernel
theorem dX2_addAll_80 : decode cX2_addAll 80 = .ok (.goto (-78), 3) := by decide +kernel
theorem dX2_addAll_83 : decode cX2_addAll 83 = .ok (.return_, 1) := by decide +kernel
theorem dX2_copyFrom_0 : decode cX2_copyFrom 0 = .ok (.aload_n 0, 1) := by decide +kernel
theorem dX2_copyFrom_1 : decode cX2_copyFrom 1 = .ok (.invokevirtual 52, 3) := by decide +kernel
theorem dX2_copyFrom_4 : decode cX2_copyFrom 4 = .ok (.aload_n 0, 1) := by decide +kernel
theorem dX2_copyFrom_5 : decode cX2_copyFrom 5 = .ok (.aload_n 1, 1) := by decide +kernel
theorem dX2_copyFrom_6 : decode cX2_copyFrom 6 = .ok (.invokevirtual 55, 3) := by decide +kernel
theorem dX2_copyFrom_9 : decode cX2_copyFrom 9 = .ok (.return_, 1) := by decide +kernel
theorem dX2_removeAll_0 : decode cX2_removeAll 0 = .ok (.aload_n 0, 1) := by decide +kernel
theorem dX2_removeAll_1 : decode cX2_removeAll 1 = .ok (.iconst 0, 1) := by decide +kernel
theorem dX2_removeAll_2 : decode cX2_removeAll 2 = .ok (.putfield 26, 3) := by decide +kernel
theorem dX2_removeAll_5 : decode cX2_removeAll 5 = .ok (.return_, 1) := by decide +kernel
theorem dX2_removeFirst_0 : decode cX2_removeFirst 0 = .ok (.iconst 1, 1) := by decide +kernel
theorem dX2_removeFirst_1 : decode cX2_removeFirst 1 = .ok (.istore_n 1, 1) := by decide +kernel
theorem dX2_removeFirst_2 : decode cX2_removeFirst 2 = .ok (.iload_n 1, 1) := by decide +kernel
theorem dX2_removeFirst_3 : decode cX2_removeFirst 3 = .ok (.aload_n 0, 1) := by decide +kernel
theorem dX2_removeFirst_4 : decode cX2_removeFirst 4 = .ok (.getfield 26, 3) := by decide +kernel
theorem dX2_removeFirst_7 : decode cX2_removeFirst 7 = .ok (.if_icmp .ge 17, 3) := by decide +kernel
theorem dX2_removeFirst_10 : decode cX2_removeFirst 10 = .ok (.aload_n 0, 1) := by decide +kernel
theorem dX2_removeFirst_11 : decode cX2_removeFirst 11 = .ok (.iload_n 1, 1) := by decide +kernel
theorem dX2_removeFirst_12 : decode cX2_removeFirst 12 = .ok (.iload_n 1, 1) := by decide +kernel
theorem dX2_removeFirst_13 : decode cX2_removeFirst 13 = .ok (.iconst 1, 1) := by decide +kernel
theorem dX2_removeFirst_14 : decode cX2_removeFirst 14 = .ok (.isub, 1) := by decide +kernel
theorem dX2_removeFirst_15 : decode cX2_removeFirst 15 = .ok (.invokevirtual 59, 3) := by decide +kernel
theorem dX2_removeFirst_18 : decode cX2_removeFirst 18 = .ok (.iinc 1 1, 3) := by decide +kernel
theorem dX2_removeFirst_21 : decode cX2_removeFirst 21 = .ok (.goto (-19), 3) := by decide +kernel
theorem dX2_removeFirst_24 : decode cX2_removeFirst 24 = .ok (.aload_n 0, 1) := by decide +kernel
theorem dX2_removeFirst_25 : decode cX2_removeFirst 25 = .ok (.invokevirtual 63, 3) := by decide +kernel
theorem dX2_removeFirst_28 : decode cX2_removeFirst 28 = .ok (.return_, 1) := by decide +kernel
theorem dX2_removeLast_0 : decode cX2_removeLast 0 = .ok (.aload_n 0, 1) := by decide +kernel
theorem dX2_removeLast_1 : decode cX2_removeLast 1 = .ok (.getfield 26, 3) := by decide +kernel
theorem dX2_removeLast_4 : decode cX2_removeLast 4 = .ok (.ifCond .le 13, 3) := by decide +kernel
theorem dX2_removeLast_7 : decode cX2_removeLast 7 = .ok (.aload_n 0, 1) := by decide +kernel
theorem dX2_removeLast_8 : decode cX2_removeLast 8 = .ok (.dup, 1) := by decide +kernel
theorem dX2_removeLast_9 : decode cX2_removeLast 9 = .ok (.getfield 26, 3) := by decide +kernel
theorem dX2_removeLast_12 : decode cX2_removeLast 12 = .ok (.iconst 1, 1) := by decide +kernel
theorem dX2_removeLast_13 : decode cX2_removeLast 13 = .ok (.isub, 1) := by decide +kernel
theorem dX2_removeLast_14 : decode cX2_removeLast 14 = .ok (.putfield 26, 3) := by decide +kernel
theorem dX2_removeLast_17 : decode cX2_removeLast 17 = .ok (.return_, 1) := by decide +kernel
theorem dX2_contains_0 : decode cX2_contains 0 = .ok (.iconst 0, 1) := by decide +kernel
theorem dX2_contains_1 : decode cX2_contains 1 = .ok (.istore_n 2, 1) := by decide +kernel
theorem dX2_contains_2 : decode cX2_contains 2 = .ok (.iload_n 2, 1) := by decide +kernel
theorem dX2_contains_3 : decode cX2_contains 3 = .ok (.aload_n 0, 1) := by decide +kernel
theorem dX2_contains_4 : decode cX2_contains 4 = .ok (.getfield 26, 3) := by decide +kernel
theorem dX2_contains_7 : decode cX2_contains 7 = .ok (.if_icmp .ge 20, 3) := by decide +kernel
theorem dX2_contains_10 : decode cX2_contains 10 = .ok (.aload_n 0, 1) := by decide +kernel
theorem dX2_contains_11 : decode cX2_contains 11 = .ok (.aload_n 1, 1) := by decide +kernel
theorem dX2_contains_12 : decode cX2_contains 12 = .ok (.iload_n 2, 1) := by decide +kernel
theorem dX2_contains_13 : decode cX2_contains 13 = .ok (.invokevirtual 66, 3) := by decide +kernel
theorem dX2_contains_16 : decode cX2_contains 16 = .ok (.ifCond .ne 5, 3) := by decide +kernel
theorem dX2_contains_19 : decode cX2_contains 19 = .ok (.iconst 1, 1) := by decide +kernel
theorem dX2_contains_20 : decode cX2_contains 20 = .ok (.ireturn, 1) := by decide +kernel
theorem dX2_contains_21 : decode cX2_contains 21 = .ok (.iinc 2 1, 3) := by decide +kernel
theorem dX2_contains_24 : decode cX2_contains 24 = .ok (.goto (-22), 3) := by decide +kernel
theorem dX2_contains_27 : decode cX2_contains 27 = .ok (.iconst 0, 1) := by decide +kernel
theorem dX2_contains_28 : decode cX2_contains 28 = .ok (.ireturn, 1) := by decide +kernel
theorem dX2_firstBelow_0 : decode cX2_firstBelow 0 = .ok (.iconst 0, 1) := by decide +kernel
theorem dX2_firstBelow_1 : decode cX2_firstBelow 1 = .ok (.istore_n 3, 1) := by decide +kernel
theorem dX2_firstBelow_2 : decode cX2_firstBelow 2 = .ok (.iload_n 3, 1) := by decide +kernel
theorem dX2_firstBelow_3 : decode cX2_firstBelow 3 = .ok (.iload_n 2, 1) := by decide +kernel
theorem dX2_firstBelow_4 : decode cX2_firstBelow 4 = .ok (.if_icmp .ge 64, 3) := by decide +kernel
theorem dX2_firstBelow_7 : decode cX2_firstBelow 7 = .ok (.iload_n 3, 1) := by decide +kernel
theorem dX2_firstBelow_8 : decode cX2_firstBelow 8 = .ok (.aload_n 0, 1) := by decide +kernel
theorem dX2_firstBelow_9 : decode cX2_firstBelow 9 = .ok (.getfield 26, 3) := by decide +kernel
theorem dX2_firstBelow_12 : decode cX2_firstBelow 12 = .ok (.if_icmp .ge 56, 3) := by decide +kernel
theorem dX2_firstBelow_15 : decode cX2_firstBelow 15 = .ok (.aload_n 0, 1) := by decide +kernel
theorem dX2_firstBelow_16 : decode cX2_firstBelow 16 = .ok (.getfield 13, 3) := by decide +kernel
theorem dX2_firstBelow_19 : decode cX2_firstBelow 19 = .ok (.iload_n 3, 1) := by decide +kernel
theorem dX2_firstBelow_20 : decode cX2_firstBelow 20 = .ok (.iaload, 1) := by decide +kernel
theorem dX2_firstBelow_21 : decode cX2_firstBelow 21 = .ok (.aload_n 1, 1) := by decide +kernel
theorem dX2_firstBelow_22 : decode cX2_firstBelow 22 = .ok (.getfield 36, 3) := by decide +kernel
theorem dX2_firstBelow_25 : decode cX2_firstBelow 25 = .ok (.if_icmp .ne 37, 3) := by decide +kernel
theorem dX2_firstBelow_28 : decode cX2_firstBelow 28 = .ok (.aload_n 0, 1) := by decide +kernel
theorem dX2_firstBelow_29 : decode cX2_firstBelow 29 = .ok (.getfield 19, 3) := by decide +kernel
theorem dX2_firstBelow_32 : decode cX2_firstBelow 32 = .ok (.iload_n 3, 1) := by decide +kernel
theorem dX2_firstBelow_33 : decode cX2_firstBelow 33 = .ok (.laload, 1) := by decide +kernel
theorem dX2_firstBelow_34 : decode cX2_firstBelow 34 = .ok (.aload_n 1, 1) := by decide +kernel
theorem dX2_firstBelow_35 : decode cX2_firstBelow 35 = .ok (.getfield 41, 3) := by decide +kernel
theorem dX2_firstBelow_38 : decode cX2_firstBelow 38 = .ok (.invokestatic 70, 3) := by decide +kernel
theorem dX2_firstBelow_41 : decode cX2_firstBelow 41 = .ok (.ifCond .eq 21, 3) := by decide +kernel
theorem dX2_firstBelow_44 : decode cX2_firstBelow 44 = .ok (.aload_n 0, 1) := by decide +kernel
theorem dX2_firstBelow_45 : decode cX2_firstBelow 45 = .ok (.getfield 23, 3) := by decide +kernel
theorem dX2_firstBelow_48 : decode cX2_firstBelow 48 = .ok (.iload_n 3, 1) := by decide +kernel
theorem dX2_firstBelow_49 : decode cX2_firstBelow 49 = .ok (.laload, 1) := by decide +kernel
theorem dX2_firstBelow_50 : decode cX2_firstBelow 50 = .ok (.aload_n 1, 1) := by decide +kernel
theorem dX2_firstBelow_51 : decode cX2_firstBelow 51 = .ok (.getfield 45, 3) := by decide +kernel
theorem dX2_firstBelow_54 : decode cX2_firstBelow 54 = .ok (.invokestatic 70, 3) := by decide +kernel
theorem dX2_firstBelow_57 : decode cX2_firstBelow 57 = .ok (.ifCond .eq 5, 3) := by decide +kernel
theorem dX2_firstBelow_60 : decode cX2_firstBelow 60 = .ok (.iload_n 3, 1) := by decide +kernel
theorem dX2_firstBelow_61 : decode cX2_firstBelow 61 = .ok (.ireturn, 1) := by decide +kernel
theorem dX2_firstBelow_62 : decode cX2_firstBelow 62 = .ok (.iinc 3 1, 3) := by decide +kernel
theorem dX2_firstBelow_65 : decode cX2_firstBelow 65 = .ok (.goto (-63), 3) := by decide +kernel
theorem dX2_firstBelow_68 : decode cX2_firstBelow 68 = .ok (.iconst (-1), 1) := by decide +kernel
theorem dX2_firstBelow_69 : decode cX2_firstBelow 69 = .ok (.ireturn, 1) := by decide +kernel
theorem dX2_insertMinimal_0 : decode cX2_insertMinimal 0 = .ok (.aload_n 0, 1) := by decide +kernel
theorem dX2_insertMinimal_1 : decode cX2_insertMinimal 1 = .ok (.aload_n 1, 1) := by decide +kernel
theorem dX2_insertMinimal_2 : decode cX2_insertMinimal 2 = .ok (.aload_n 0, 1) := by decide +kernel
theorem dX2_insertMinimal_3 : decode cX2_insertMinimal 3 = .ok (.getfield 26, 3) := by decide +kernel
theorem dX2_insertMinimal_6 : decode cX2_insertMinimal 6 = .ok (.invokevirtual 74, 3) := by decide +kernel
theorem dX2_insertMinimal_9 : decode cX2_insertMinimal 9 = .ok (.ifCond .lt 5, 3) := by decide +kernel
theorem dX2_insertMinimal_12 : decode cX2_insertMinimal 12 = .ok (.iconst 0, 1) := by decide +kernel
theorem dX2_insertMinimal_13 : decode cX2_insertMinimal 13 = .ok (.ireturn, 1) := by decide +kernel
theorem dX2_insertMinimal_14 : decode cX2_insertMinimal 14 = .ok (.aload_n 0, 1) := by decide +kernel
theorem dX2_insertMinimal_15 : decode cX2_insertMinimal 15 = .ok (.aload_n 1, 1) := by decide +kernel
theorem dX2_insertMinimal_16 : decode cX2_insertMinimal 16 = .ok (.invokevirtual 77, 3) := by decide +kernel
theorem dX2_insertMinimal_19 : decode cX2_insertMinimal 19 = .ok (.aload_n 0, 1) := by decide +kernel
theorem dX2_insertMinimal_20 : decode cX2_insertMinimal 20 = .ok (.getfield 26, 3) := by decide +kernel
theorem dX2_insertMinimal_23 : decode cX2_insertMinimal 23 = .ok (.aload_n 0, 1) := by decide +kernel
theorem dX2_insertMinimal_24 : decode cX2_insertMinimal 24 = .ok (.getfield 13, 3) := by decide +kernel
theorem dX2_insertMinimal_27 : decode cX2_insertMinimal 27 = .ok (.arraylength, 1) := by decide +kernel
theorem dX2_insertMinimal_28 : decode cX2_insertMinimal 28 = .ok (.if_icmp .lt 5, 3) := by decide +kernel
theorem dX2_insertMinimal_31 : decode cX2_insertMinimal 31 = .ok (.iconst 0, 1) := by decide +kernel
theorem dX2_insertMinimal_32 : decode cX2_insertMinimal 32 = .ok (.ireturn, 1) := by decide +kernel
theorem dX2_insertMinimal_33 : decode cX2_insertMinimal 33 = .ok (.aload_n 0, 1) := by decide +kernel
theorem dX2_insertMinimal_34 : decode cX2_insertMinimal 34 = .ok (.getfield 26, 3) := by decide +kernel
theorem dX2_insertMinimal_37 : decode cX2_insertMinimal 37 = .ok (.istore_n 2, 1) := by decide +kernel
theorem dX2_insertMinimal_38 : decode cX2_insertMinimal 38 = .ok (.aload_n 0, 1) := by decide +kernel
theorem dX2_insertMinimal_39 : decode cX2_insertMinimal 39 = .ok (.dup, 1) := by decide +kernel
theorem dX2_insertMinimal_40 : decode cX2_insertMinimal 40 = .ok (.getfield 26, 3) := by decide +kernel
theorem dX2_insertMinimal_43 : decode cX2_insertMinimal 43 = .ok (.iconst 1, 1) := by decide +kernel
theorem dX2_insertMinimal_44 : decode cX2_insertMinimal 44 = .ok (.iadd, 1) := by decide +kernel
theorem dX2_insertMinimal_45 : decode cX2_insertMinimal 45 = .ok (.putfield 26, 3) := by decide +kernel
theorem dX2_insertMinimal_48 : decode cX2_insertMinimal 48 = .ok (.iload_n 2, 1) := by decide +kernel
theorem dX2_insertMinimal_49 : decode cX2_insertMinimal 49 = .ok (.ifCond .le 28, 3) := by decide +kernel
theorem dX2_insertMinimal_52 : decode cX2_insertMinimal 52 = .ok (.aload_n 0, 1) := by decide +kernel
theorem dX2_insertMinimal_53 : decode cX2_insertMinimal 53 = .ok (.aload_n 1, 1) := by decide +kernel
theorem dX2_insertMinimal_54 : decode cX2_insertMinimal 54 = .ok (.iload_n 2, 1) := by decide +kernel
theorem dX2_insertMinimal_55 : decode cX2_insertMinimal 55 = .ok (.iconst 1, 1) := by decide +kernel
theorem dX2_insertMinimal_56 : decode cX2_insertMinimal 56 = .ok (.isub, 1) := by decide +kernel
theorem dX2_insertMinimal_57 : decode cX2_insertMinimal 57 = .ok (.invokevirtual 66, 3) := by decide +kernel
theorem dX2_insertMinimal_60 : decode cX2_insertMinimal 60 = .ok (.ifCond .ge 17, 3) := by decide +kernel
theorem dX2_insertMinimal_63 : decode cX2_insertMinimal 63 = .ok (.aload_n 0, 1) := by decide +kernel
theorem dX2_insertMinimal_64 : decode cX2_insertMinimal 64 = .ok (.iload_n 2, 1) := by decide +kernel
theorem dX2_insertMinimal_65 : decode cX2_insertMinimal 65 = .ok (.iconst 1, 1) := by decide +kernel
theorem dX2_insertMinimal_66 : decode cX2_insertMinimal 66 = .ok (.isub, 1) := by decide +kernel
theorem dX2_insertMinimal_67 : decode cX2_insertMinimal 67 = .ok (.iload_n 2, 1) := by decide +kernel
theorem dX2_insertMinimal_68 : decode cX2_insertMinimal 68 = .ok (.invokevirtual 59, 3) := by decide +kernel
theorem dX2_insertMinimal_71 : decode cX2_insertMinimal 71 = .ok (.iinc 2 (-1), 3) := by decide +kernel
theorem dX2_insertMinimal_74 : decode cX2_insertMinimal 74 = .ok (.goto (-26), 3) := by decide +kernel
theorem dX2_insertMinimal_77 : decode cX2_insertMinimal 77 = .ok (.aload_n 0, 1) := by decide +kernel
theorem dX2_insertMinimal_78 : decode cX2_insertMinimal 78 = .ok (.iload_n 2, 1) := by decide +kernel
theorem dX2_insertMinimal_79 : decode cX2_insertMinimal 79 = .ok (.aload_n 1, 1) := by decide +kernel
theorem dX2_insertMinimal_80 : decode cX2_insertMinimal 80 = .ok (.invokevirtual 48, 3) := by decide +kernel
theorem dX2_insertMinimal_83 : decode cX2_insertMinimal 83 = .ok (.iconst 1, 1) := by decide +kernel
theorem dX2_insertMinimal_84 : decode cX2_insertMinimal 84 = .ok (.ireturn, 1) := by decide +kernel
theorem dX2_removeAbove_0 : decode cX2_removeAbove 0 = .ok (.iconst 0, 1) := by decide +kernel
theorem dX2_removeAbove_1 : decode cX2_removeAbove 1 = .ok (.istore_n 2, 1) := by decide +kernel
theorem dX2_removeAbove_2 : decode cX2_removeAbove 2 = .ok (.iconst 0, 1) := by decide +kernel
theorem dX2_removeAbove_3 : decode cX2_removeAbove 3 = .ok (.istore_n 3, 1) := by decide +kernel
theorem dX2_removeAbove_4 : decode cX2_removeAbove 4 = .ok (.iload_n 3, 1) := by decide +kernel
theorem dX2_removeAbove_5 : decode cX2_removeAbove 5 = .ok (.aload_n 0, 1) := by decide +kernel
theorem dX2_removeAbove_6 : decode cX2_removeAbove 6 = .ok (.getfield 26, 3) := by decide +kernel
theorem dX2_removeAbove_9 : decode cX2_removeAbove 9 = .ok (.if_icmp .ge 75, 3) := by decide +kernel
theorem dX2_removeAbove_12 : decode cX2_removeAbove 12 = .ok (.aload_n 0, 1) := by decide +kernel
theorem dX2_removeAbove_13 : decode cX2_removeAbove 13 = .ok (.getfield 13, 3) := by decide +kernel
theorem dX2_removeAbove_16 : decode cX2_removeAbove 16 = .ok (.iload_n 3, 1) := by decide +kernel
theorem dX2_removeAbove_17 : decode cX2_removeAbove 17 = .ok (.iaload, 1) := by decide +kernel
theorem dX2_removeAbove_18 : decode cX2_removeAbove 18 = .ok (.aload_n 1, 1) := by decide +kernel
theorem dX2_removeAbove_19 : decode cX2_removeAbove 19 = .ok (.getfield 36, 3) := by decide +kernel
theorem dX2_removeAbove_22 : decode cX2_removeAbove 22 = .ok (.if_icmp .ne 39, 3) := by decide +kernel
theorem dX2_removeAbove_25 : decode cX2_removeAbove 25 = .ok (.aload_n 1, 1) := by decide +kernel
theorem dX2_removeAbove_26 : decode cX2_removeAbove 26 = .ok (.getfield 41, 3) := by decide +kernel
theorem dX2_removeAbove_29 : decode cX2_removeAbove 29 = .ok (.aload_n 0, 1) := by decide +kernel
theorem dX2_removeAbove_30 : decode cX2_removeAbove 30 = .ok (.getfield 19, 3) := by decide +kernel
theorem dX2_removeAbove_33 : decode cX2_removeAbove 33 = .ok (.iload_n 3, 1) := by decide +kernel
theorem dX2_removeAbove_34 : decode cX2_removeAbove 34 = .ok (.laload, 1) := by decide +kernel
theorem dX2_removeAbove_35 : decode cX2_removeAbove 35 = .ok (.invokestatic 70, 3) := by decide +kernel
theorem dX2_removeAbove_38 : decode cX2_removeAbove 38 = .ok (.ifCond .eq 23, 3) := by decide +kernel
theorem dX2_removeAbove_41 : decode cX2_removeAbove 41 = .ok (.aload_n 1, 1) := by decide +kernel
theorem dX2_removeAbove_42 : decode cX2_removeAbove 42 = .ok (.getfield 45, 3) := by decide +kernel
theorem dX2_removeAbove_45 : decode cX2_removeAbove 45 = .ok (.aload_n 0, 1) := by decide +kernel
theorem dX2_removeAbove_46 : decode cX2_removeAbove 46 = .ok (.getfield 23, 3) := by decide +kernel
theorem dX2_removeAbove_49 : decode cX2_removeAbove 49 = .ok (.iload_n 3, 1) := by decide +kernel
theorem dX2_removeAbove_50 : decode cX2_removeAbove 50 = .ok (.laload, 1) := by decide +kernel
theorem dX2_removeAbove_51 : decode cX2_removeAbove 51 = .ok (.invokestatic 70, 3) := by decide +kernel
theorem dX2_removeAbove_54 : decode cX2_removeAbove 54 = .ok (.ifCond .eq 7, 3) := by decide +kernel
theorem dX2_removeAbove_57 : decode cX2_removeAbove 57 = .ok (.iconst 1, 1) := by decide +kernel
theorem dX2_removeAbove_58 : decode cX2_removeAbove 58 = .ok (.goto 4, 3) := by decide +kernel
theorem dX2_removeAbove_61 : decode cX2_removeAbove 61 = .ok (.iconst 0, 1) := by decide +kernel
theorem dX2_removeAbove_62 : decode cX2_removeAbove 62 = .ok (.istore 4, 2) := by decide +kernel
theorem dX2_removeAbove_64 : decode cX2_removeAbove 64 = .ok (.iload 4, 2) := by decide +kernel
theorem dX2_removeAbove_66 : decode cX2_removeAbove 66 = .ok (.ifCond .ne 12, 3) := by decide +kernel
theorem dX2_removeAbove_69 : decode cX2_removeAbove 69 = .ok (.aload_n 0, 1) := by decide +kernel
theorem dX2_removeAbove_70 : decode cX2_removeAbove 70 = .ok (.iload_n 3, 1) := by decide +kernel
theorem dX2_removeAbove_71 : decode cX2_removeAbove 71 = .ok (.iload_n 2, 1) := by decide +kernel
theorem dX2_removeAbove_72 : decode cX2_removeAbove 72 = .ok (.invokevirtual 59, 3) := by decide +kernel
theorem dX2_removeAbove_75 : decode cX2_removeAbove 75 = .ok (.iinc 2 1, 3) := by decide +kernel
theorem dX2_removeAbove_78 : decode cX2_removeAbove 78 = .ok (.iinc 3 1, 3) := by decide +kernel
theorem dX2_removeAbove_81 : decode cX2_removeAbove 81 = .ok (.goto (-77), 3) := by decide +kernel
theorem dX2_removeAbove_84 : decode cX2_removeAbove 84 = .ok (.aload_n 0, 1) := by decide +kernel
theorem dX2_removeAbove_85 : decode cX2_removeAbove 85 = .ok (.iload_n 2, 1) := by decide +kernel
theorem dX2_removeAbove_86 : decode cX2_removeAbove 86 = .ok (.putfield 26, 3) := by decide +kernel
theorem dX2_removeAbove_89 : decode cX2_removeAbove 89 = .ok (.return_, 1) := by decide +kernel
theorem dX2_has_0 : decode cX2_has 0 = .ok (.iload_n 1, 1) := by decide +kernel
theorem dX2_has_1 : decode cX2_has 1 = .ok (.ifCond .lt 15, 3) := by decide +kernel
theorem dX2_has_4 : decode cX2_has 4 = .ok (.iload_n 1, 1) := by decide +kernel
theorem dX2_has_5 : decode cX2_has 5 = .ok (.aload_n 0, 1) := by decide +kernel
theorem dX2_has_6 : decode cX2_has 6 = .ok (.getfield 26, 3) := by decide +kernel
theorem dX2_has_9 : decode cX2_has 9 = .ok (.if_icmp .ge 7, 3) := by decide +kernel
theorem dX2_has_12 : decode cX2_has 12 = .ok (.iconst 1, 1) := by decide +kernel
theorem dX2_has_13 : decode cX2_has 13 = .ok (.goto 4, 3) := by decide +kernel
theorem dX2_has_16 : decode cX2_has 16 = .ok (.iconst 0, 1) := by decide +kernel
theorem dX2_has_17 : decode cX2_has 17 = .ok (.ireturn, 1) := by decide +kernel
theorem dX2_order_0 : decode cX2_order 0 = .ok (.iload_n 2, 1) := by decide +kernel
theorem dX2_order_1 : decode cX2_order 1 = .ok (.ifCond .lt 11, 3) := by decide +kernel
theorem dX2_order_4 : decode cX2_order 4 = .ok (.iload_n 2, 1) := by decide +kernel
theorem dX2_order_5 : decode cX2_order 5 = .ok (.aload_n 0, 1) := by decide +kernel
theorem dX2_order_6 : decode cX2_order 6 = .ok (.getfield 26, 3) := by decide +kernel
theorem dX2_order_9 : decode cX2_order 9 = .ok (.if_icmp .lt 5, 3) := by decide +kernel
theorem dX2_order_12 : decode cX2_order 12 = .ok (.iconst (-1), 1) := by decide +kernel
theorem dX2_order_13 : decode cX2_order 13 = .ok (.ireturn, 1) := by decide +kernel
theorem dX2_order_14 : decode cX2_order 14 = .ok (.aload_n 1, 1) := by decide +kernel
theorem dX2_order_15 : decode cX2_order 15 = .ok (.getfield 36, 3) := by decide +kernel
theorem dX2_order_18 : decode cX2_order 18 = .ok (.aload_n 0, 1) := by decide +kernel
theorem dX2_order_19 : decode cX2_order 19 = .ok (.getfield 13, 3) := by decide +kernel
theorem dX2_order_22 : decode cX2_order 22 = .ok (.iload_n 2, 1) := by decide +kernel
theorem dX2_order_23 : decode cX2_order 23 = .ok (.iaload, 1) := by decide +kernel
theorem dX2_order_24 : decode cX2_order 24 = .ok (.if_icmp .eq 22, 3) := by decide +kernel
theorem dX2_order_27 : decode cX2_order 27 = .ok (.aload_n 1, 1) := by decide +kernel
theorem dX2_order_28 : decode cX2_order 28 = .ok (.getfield 36, 3) := by decide +kernel
theorem dX2_order_31 : decode cX2_order 31 = .ok (.aload_n 0, 1) := by decide +kernel
theorem dX2_order_32 : decode cX2_order 32 = .ok (.getfield 13, 3) := by decide +kernel
theorem dX2_order_35 : decode cX2_order 35 = .ok (.iload_n 2, 1) := by decide +kernel
theorem dX2_order_36 : decode cX2_order 36 = .ok (.iaload, 1) := by decide +kernel
theorem dX2_order_37 : decode cX2_order 37 = .ok (.if_icmp .ge 7, 3) := by decide +kernel
theorem dX2_order_40 : decode cX2_order 40 = .ok (.iconst (-1), 1) := by decide +kernel
theorem dX2_order_41 : decode cX2_order 41 = .ok (.goto 4, 3) := by decide +kernel
theorem dX2_order_44 : decode cX2_order 44 = .ok (.iconst 1, 1) := by decide +kernel
theorem dX2_order_45 : decode cX2_order 45 = .ok (.ireturn, 1) := by decide +kernel
theorem dX2_order_46 : decode cX2_order 46 = .ok (.aload_n 1, 1) := by decide +kernel
theorem dX2_order_47 : decode cX2_order 47 = .ok (.getfield 41, 3) := by decide +kernel
theorem dX2_order_50 : decode cX2_order 50 = .ok (.aload_n 0, 1) := by decide +kernel
theorem dX2_order_51 : decode cX2_order 51 = .ok (.getfield 19, 3) := by decide +kernel
theorem dX2_order_54 : decode cX2_order 54 = .ok (.iload_n 2, 1) := by decide +kernel
theorem dX2_order_55 : decode cX2_order 55 = .ok (.laload, 1) := by decide +kernel
theorem dX2_order_56 : decode cX2_order 56 = .ok (.lcmp, 1) := by decide +kernel
theorem dX2_order_57 : decode cX2_order 57 = .ok (.ifCond .eq 23, 3) := by decide +kernel
theorem dX2_order_60 : decode cX2_order 60 = .ok (.aload_n 1, 1) := by decide +kernel
theorem dX2_order_61 : decode cX2_order 61 = .ok (.getfield 41, 3) := by decide +kernel
theorem dX2_order_64 : decode cX2_order 64 = .ok (.aload_n 0, 1) := by decide +kernel
theorem dX2_order_65 : decode cX2_order 65 = .ok (.getfield 19, 3) := by decide +kernel
theorem dX2_order_68 : decode cX2_order 68 = .ok (.iload_n 2, 1) := by decide +kernel
theorem dX2_order_69 : decode cX2_order 69 = .ok (.laload, 1) := by decide +kernel
theorem dX2_order_70 : decode cX2_order 70 = .ok (.lcmp, 1) := by decide +kernel
theorem dX2_order_71 : decode cX2_order 71 = .ok (.ifCond .ge 7, 3) := by decide +kernel
theorem dX2_order_74 : decode cX2_order 74 = .ok (.iconst (-1), 1) := by decide +kernel
theorem dX2_order_75 : decode cX2_order 75 = .ok (.goto 4, 3) := by decide +kernel
theorem dX2_order_78 : decode cX2_order 78 = .ok (.iconst 1, 1) := by decide +kernel
theorem dX2_order_79 : decode cX2_order 79 = .ok (.ireturn, 1) := by decide +kernel
theorem dX2_order_80 : decode cX2_order 80 = .ok (.aload_n 1, 1) := by decide +kernel
theorem dX2_order_81 : decode cX2_order 81 = .ok (.getfield 45, 3) := by decide +kernel
theorem dX2_order_84 : decode cX2_order 84 = .ok (.aload_n 0, 1) := by decide +kernel
theorem dX2_order_85 : decode cX2_order 85 = .ok (.getfield 23, 3) := by decide +kernel
theorem dX2_order_88 : decode cX2_order 88 = .ok (.iload_n 2, 1) := by decide +kernel
theorem dX2_order_89 : decode cX2_order 89 = .ok (.laload, 1) := by decide +kernel
theorem dX2_order_90 : decode cX2_order 90 = .ok (.lcmp, 1) := by decide +kernel
theorem dX2_order_91 : decode cX2_order 91 = .ok (.ifCond .eq 23, 3) := by decide +kernel
theorem dX2_order_94 : decode cX2_order 94 = .ok (.aload_n 1, 1) := by decide +kernel
theorem dX2_order_95 : decode cX2_order 95 = .ok (.getfield 45, 3) := by decide +kernel
theorem dX2_order_98 : decode cX2_order 98 = .ok (.aload_n 0, 1) := by decide +kernel
theorem dX2_order_99 : decode cX2_order 99 = .ok (.getfield 23, 3) := by decide +kernel
theorem dX2_order_102 : decode cX2_order 102 = .ok (.iload_n 2, 1) := by decide +kernel
theorem dX2_order_103 : decode cX2_order 103 = .ok (.laload, 1) := by decide +kernel
theorem dX2_order_104 : decode cX2_order 104 = .ok (.lcmp, 1) := by decide +kernel
theorem dX2_order_105 : decode cX2_order 105 = .ok (.ifCond .ge 7, 3) := by decide +kernel
theorem dX2_order_108 : decode cX2_order 108 = .ok (.iconst (-1), 1) := by decide +kernel
theorem dX2_order_109 : decode cX2_order 109 = .ok (.goto 4, 3) := by decide +kernel
theorem dX2_order_112 : decode cX2_order 112 = .ok (.iconst 1, 1) := by decide +kernel
theorem dX2_order_113 : decode cX2_order 113 = .ok (.ireturn, 1) := by decide +kernel
theorem dX2_order_114 : decode cX2_order 114 = .ok (.iconst 0, 1) := by decide +kernel
theorem dX2_order_115 : decode cX2_order 115 = .ok (.ireturn, 1) := by decide +kernel
theorem dX2_store_0 : decode cX2_store 0 = .ok (.iload_n 1, 1) := by decide +kernel
theorem dX2_store_1 : decode cX2_store 1 = .ok (.ifCond .lt 42, 3) := by decide +kernel
theorem dX2_store_4 : decode cX2_store 4 = .ok (.iload_n 1, 1) := by decide +kernel
theorem dX2_store_5 : decode cX2_store 5 = .ok (.aload_n 0, 1) := by decide +kernel
theorem dX2_store_6 : decode cX2_store 6 = .ok (.getfield 13, 3) := by decide +kernel
theorem dX2_store_9 : decode cX2_store 9 = .ok (.arraylength, 1) := by decide +kernel
theorem dX2_store_10 : decode cX2_store 10 = .ok (.if_icmp .ge 33, 3) := by decide +kernel
theorem dX2_store_13 : decode cX2_store 13 = .ok (.aload_n 0, 1) := by decide +kernel
theorem dX2_store_14 : decode cX2_store 14 = .ok (.getfield 13, 3) := by decide +kernel
theorem dX2_store_17 : decode cX2_store 17 = .ok (.iload_n 1, 1) := by decide +kernel
theorem dX2_store_18 : decode cX2_store 18 = .ok (.aload_n 2, 1) := by decide +kernel
theorem dX2_store_19 : decode cX2_store 19 = .ok (.getfield 36, 3) := by decide +kernel
theorem dX2_store_22 : decode cX2_store 22 = .ok (.iastore, 1) := by decide +kernel
theorem dX2_store_23 : decode cX2_store 23 = .ok (.aload_n 0, 1) := by decide +kernel
theorem dX2_store_24 : decode cX2_store 24 = .ok (.getfield 19, 3) := by decide +kernel
theorem dX2_store_27 : decode cX2_store 27 = .ok (.iload_n 1, 1) := by decide +kernel
theorem dX2_store_28 : decode cX2_store 28 = .ok (.aload_n 2, 1) := by decide +kernel
theorem dX2_store_29 : decode cX2_store 29 = .ok (.getfield 41, 3) := by decide +kernel
theorem dX2_store_32 : decode cX2_store 32 = .ok (.lastore, 1) := by decide +kernel
theorem dX2_store_33 : decode cX2_store 33 = .ok (.aload_n 0, 1) := by decide +kernel
theorem dX2_store_34 : decode cX2_store 34 = .ok (.getfield 23, 3) := by decide +kernel
theorem dX2_store_37 : decode cX2_store 37 = .ok (.iload_n 1, 1) := by decide +kernel
theorem dX2_store_38 : decode cX2_store 38 = .ok (.aload_n 2, 1) := by decide +kernel
theorem dX2_store_39 : decode cX2_store 39 = .ok (.getfield 45, 3) := by decide +kernel
theorem dX2_store_42 : decode cX2_store 42 = .ok (.lastore, 1) := by decide +kernel
theorem dX2_store_43 : decode cX2_store 43 = .ok (.return_, 1) := by decide +kernel
theorem dX2_move_0 : decode cX2_move 0 = .ok (.iload_n 1, 1) := by decide +kernel
theorem dX2_move_1 : decode cX2_move 1 = .ok (.ifCond .lt 59, 3) := by decide +kernel
theorem dX2_move_4 : decode cX2_move 4 = .ok (.iload_n 1, 1) := by decide +kernel
theorem dX2_move_5 : decode cX2_move 5 = .ok (.aload_n 0, 1) := by decide +kernel
theorem dX2_move_6 : decode cX2_move 6 = .ok (.getfield 26, 3) := by decide +kernel
theorem dX2_move_9 : decode cX2_move 9 = .ok (.if_icmp .ge 51, 3) := by decide +kernel
theorem dX2_move_12 : decode cX2_move 12 = .ok (.iload_n 2, 1) := by decide +kernel
theorem dX2_move_13 : decode cX2_move 13 = .ok (.ifCond .lt 47, 3) := by decide +kernel
theorem dX2_move_16 : decode cX2_move 16 = .ok (.iload_n 2, 1) := by decide +kernel
theorem dX2_move_17 : decode cX2_move 17 = .ok (.aload_n 0, 1) := by decide +kernel
theorem dX2_move_18 : decode cX2_move 18 = .ok (.getfield 26, 3) := by decide +kernel
theorem dX2_move_21 : decode cX2_move 21 = .ok (.if_icmp .ge 39, 3) := by decide +kernel
theorem dX2_move_24 : decode cX2_move 24 = .ok (.aload_n 0, 1) := by decide +kernel
theorem dX2_move_25 : decode cX2_move 25 = .ok (.getfield 13, 3) := by decide +kernel
theorem dX2_move_28 : decode cX2_move 28 = .ok (.iload_n 2, 1) := by decide +kernel
theorem dX2_move_29 : decode cX2_move 29 = .ok (.aload_n 0, 1) := by decide +kernel
theorem dX2_move_30 : decode cX2_move 30 = .ok (.getfield 13, 3) := by decide +kernel
theorem dX2_move_33 : decode cX2_move 33 = .ok (.iload_n 1, 1) := by decide +kernel
theorem dX2_move_34 : decode cX2_move 34 = .ok (.iaload, 1) := by decide +kernel
theorem dX2_move_35 : decode cX2_move 35 = .ok (.iastore, 1) := by decide +kernel
theorem dX2_move_36 : decode cX2_move 36 = .ok (.aload_n 0, 1) := by decide +kernel
theorem dX2_move_37 : decode cX2_move 37 = .ok (.getfield 19, 3) := by decide +kernel
theorem dX2_move_40 : decode cX2_move 40 = .ok (.iload_n 2, 1) := by decide +kernel
theorem dX2_move_41 : decode cX2_move 41 = .ok (.aload_n 0, 1) := by decide +kernel
theorem dX2_move_42 : decode cX2_move 42 = .ok (.getfield 19, 3) := by decide +kernel
theorem dX2_move_45 : decode cX2_move 45 = .ok (.iload_n 1, 1) := by decide +kernel
theorem dX2_move_46 : decode cX2_move 46 = .ok (.laload, 1) := by decide +kernel
theorem dX2_move_47 : decode cX2_move 47 = .ok (.lastore, 1) := by decide +kernel
theorem dX2_move_48 : decode cX2_move 48 = .ok (.aload_n 0, 1) := by decide +kernel
theorem dX2_move_49 : decode cX2_move 49 = .ok (.getfield 23, 3) := by decide +kernel
theorem dX2_move_52 : decode cX2_move 52 = .ok (.iload_n 2, 1) := by decide +kernel
theorem dX2_move_53 : decode cX2_move 53 = .ok (.aload_n 0, 1) := by decide +kernel
theorem dX2_move_54 : decode cX2_move 54 = .ok (.getfield 23, 3) := by decide +kernel
theorem dX2_move_57 : decode cX2_move 57 = .ok (.iload_n 1, 1) := by decide +kernel
theorem dX2_move_58 : decode cX2_move 58 = .ok (.laload, 1) := by decide +kernel
theorem dX2_move_59 : decode cX2_move 59 = .ok (.lastore, 1) := by decide +kernel
theorem dX2_move_60 : decode cX2_move 60 = .ok (.return_, 1) := by decide +kernel
theorem dX3_init_0 : decode cX3_init 0 = .ok (.aload_n 0, 1) := by decide +kernel
theorem dX3_init_1 : decode cX3_init 1 = .ok (.invokespecial 3, 3) := by decide +kernel
theorem dX3_init_4 : decode cX3_init 4 = .ok (.aload_n 0, 1) := by decide +kernel
theorem dX3_init_5 : decode cX3_init 5 = .ok (.bipush 11, 2) := by decide +kernel
theorem dX3_init_7 : decode cX3_init 7 = .ok (.newarray .int, 2) := by decide +kernel
theorem dX3_init_9 : decode cX3_init 9 = .ok (.putfield 9, 3) := by decide +kernel
theorem dX3_init_12 : decode cX3_init 12 = .ok (.return_, 1) := by decide +kernel
theorem dX3_places_0 : decode cX3_places 0 = .ok (.lload_n 1, 1) := by decide +kernel
theorem dX3_places_1 : decode cX3_places 1 = .ok (.invokestatic 15, 3) := by decide +kernel
theorem dX3_places_4 : decode cX3_places 4 = .ok (.bipush 10, 2) := by decide +kernel
theorem dX3_places_6 : decode cX3_places 6 = .ok (.invokestatic 21, 3) := by decide +kernel
theorem dX3_places_9 : decode cX3_places 9 = .ok (.istore 5, 2) := by decide +kernel
theorem dX3_places_11 : decode cX3_places 11 = .ok (.aload_n 0, 1) := by decide +kernel
theorem dX3_places_12 : decode cX3_places 12 = .ok (.invokevirtual 27, 3) := by decide +kernel
theorem dX3_places_15 : decode cX3_places 15 = .ok (.aload_n 0, 1) := by decide +kernel
theorem dX3_places_16 : decode cX3_places 16 = .ok (.getfield 9, 3) := by decide +kernel
theorem dX3_places_19 : decode cX3_places 19 = .ok (.iconst 0, 1) := by decide +kernel
theorem dX3_places_20 : decode cX3_places 20 = .ok (.iconst 1, 1) := by decide +kernel
theorem dX3_places_21 : decode cX3_places 21 = .ok (.iastore, 1) := by decide +kernel
theorem dX3_places_22 : decode cX3_places 22 = .ok (.iconst 0, 1) := by decide +kernel
theorem dX3_places_23 : decode cX3_places 23 = .ok (.istore 6, 2) := by decide +kernel
theorem dX3_places_25 : decode cX3_places 25 = .ok (.iload 6, 2) := by decide +kernel
theorem dX3_places_27 : decode cX3_places 27 = .ok (.lload_n 3, 1) := by decide +kernel
theorem dX3_places_28 : decode cX3_places 28 = .ok (.invokestatic 15, 3) := by decide +kernel
theorem dX3_places_31 : decode cX3_places 31 = .ok (.if_icmp .ge 61, 3) := by decide +kernel
theorem dX3_places_34 : decode cX3_places 34 = .ok (.iload 5, 2) := by decide +kernel
theorem dX3_places_36 : decode cX3_places 36 = .ok (.istore 7, 2) := by decide +kernel
theorem dX3_places_38 : decode cX3_places 38 = .ok (.iload 7, 2) := by decide +kernel
theorem dX3_places_40 : decode cX3_places 40 = .ok (.iconst 1, 1) := by decide +kernel
theorem dX3_places_41 : decode cX3_places 41 = .ok (.if_icmp .lt 45, 3) := by decide +kernel
theorem dX3_places_44 : decode cX3_places 44 = .ok (.lload_n 3, 1) := by decide +kernel
theorem dX3_places_45 : decode cX3_places 45 = .ok (.iload 6, 2) := by decide +kernel
theorem dX3_places_47 : decode cX3_places 47 = .ok (.invokestatic 30, 3) := by decide +kernel
theorem dX3_places_50 : decode cX3_places 50 = .ok (.lload_n 1, 1) := by decide +kernel
theorem dX3_places_51 : decode cX3_places 51 = .ok (.iload 7, 2) := by decide +kernel
theorem dX3_places_53 : decode cX3_places 53 = .ok (.iconst 1, 1) := by decide +kernel
theorem dX3_places_54 : decode cX3_places 54 = .ok (.isub, 1) := by decide +kernel
theorem dX3_places_55 : decode cX3_places 55 = .ok (.invokestatic 30, 3) := by decide +kernel
theorem dX3_places_58 : decode cX3_places 58 = .ok (.if_icmp .ne 22, 3) := by decide +kernel
theorem dX3_places_61 : decode cX3_places 61 = .ok (.aload_n 0, 1) := by decide +kernel
theorem dX3_places_62 : decode cX3_places 62 = .ok (.getfield 9, 3) := by decide +kernel
theorem dX3_places_65 : decode cX3_places 65 = .ok (.iload 7, 2) := by decide +kernel
theorem dX3_places_67 : decode cX3_places 67 = .ok (.dup2, 1) := by decide +kernel
theorem dX3_places_68 : decode cX3_places 68 = .ok (.iaload, 1) := by decide +kernel
theorem dX3_places_69 : decode cX3_places 69 = .ok (.aload_n 0, 1) := by decide +kernel
theorem dX3_places_70 : decode cX3_places 70 = .ok (.getfield 9, 3) := by decide +kernel
theorem dX3_places_73 : decode cX3_places 73 = .ok (.iload 7, 2) := by decide +kernel
theorem dX3_places_75 : decode cX3_places 75 = .ok (.iconst 1, 1) := by decide +kernel
theorem dX3_places_76 : decode cX3_places 76 = .ok (.isub, 1) := by decide +kernel
theorem dX3_places_77 : decode cX3_places 77 = .ok (.iaload, 1) := by decide +kernel
theorem dX3_places_78 : decode cX3_places 78 = .ok (.iadd, 1) := by decide +kernel
theorem dX3_places_79 : decode cX3_places 79 = .ok (.iastore, 1) := by decide +kernel
theorem dX3_places_80 : decode cX3_places 80 = .ok (.iinc 7 (-1), 3) := by decide +kernel
theorem dX3_places_83 : decode cX3_places 83 = .ok (.goto (-45), 3) := by decide +kernel
theorem dX3_places_86 : decode cX3_places 86 = .ok (.iinc 6 1, 3) := by decide +kernel
theorem dX3_places_89 : decode cX3_places 89 = .ok (.goto (-64), 3) := by decide +kernel
theorem dX3_places_92 : decode cX3_places 92 = .ok (.aload_n 0, 1) := by decide +kernel
theorem dX3_places_93 : decode cX3_places 93 = .ok (.getfield 9, 3) := by decide +kernel
theorem dX3_places_96 : decode cX3_places 96 = .ok (.iload 5, 2) := by decide +kernel
theorem dX3_places_98 : decode cX3_places 98 = .ok (.iaload, 1) := by decide +kernel
theorem dX3_places_99 : decode cX3_places 99 = .ok (.ireturn, 1) := by decide +kernel
theorem dX3_longestCommon_0 : decode cX3_longestCommon 0 = .ok (.lload_n 3, 1) := by decide +kernel
theorem dX3_longestCommon_1 : decode cX3_longestCommon 1 = .ok (.invokestatic 15, 3) := by decide +kernel
theorem dX3_longestCommon_4 : decode cX3_longestCommon 4 = .ok (.bipush 10, 2) := by decide +kernel
theorem dX3_longestCommon_6 : decode cX3_longestCommon 6 = .ok (.invokestatic 21, 3) := by decide +kernel
theorem dX3_longestCommon_9 : decode cX3_longestCommon 9 = .ok (.istore 5, 2) := by decide +kernel
theorem dX3_longestCommon_11 : decode cX3_longestCommon 11 = .ok (.aload_n 0, 1) := by decide +kernel
theorem dX3_longestCommon_12 : decode cX3_longestCommon 12 = .ok (.invokevirtual 27, 3) := by decide +kernel
theorem dX3_longestCommon_15 : decode cX3_longestCommon 15 = .ok (.iconst 0, 1) := by decide +kernel
theorem dX3_longestCommon_16 : decode cX3_longestCommon 16 = .ok (.istore 6, 2) := by decide +kernel
theorem dX3_longestCommon_18 : decode cX3_longestCommon 18 = .ok (.iload 6, 2) := by decide +kernel
theorem dX3_longestCommon_20 : decode cX3_longestCommon 20 = .ok (.lload_n 1, 1) := by decide +kernel
theorem dX3_longestCommon_21 : decode cX3_longestCommon 21 = .ok (.invokestatic 15, 3) := by decide +kernel
theorem dX3_longestCommon_24 : decode cX3_longestCommon 24 = .ok (.if_icmp .ge 98, 3) := by decide +kernel
theorem dX3_longestCommon_27 : decode cX3_longestCommon 27 = .ok (.iconst 0, 1) := by decide +kernel
theorem dX3_longestCommon_28 : decode cX3_longestCommon 28 = .ok (.istore 7, 2) := by decide +kernel
theorem dX3_longestCommon_30 : decode cX3_longestCommon 30 = .ok (.iconst 1, 1) := by decide +kernel
theorem dX3_longestCommon_31 : decode cX3_longestCommon 31 = .ok (.istore 8, 2) := by decide +kernel
theorem dX3_longestCommon_33 : decode cX3_longestCommon 33 = .ok (.iload 8, 2) := by decide +kernel
theorem dX3_longestCommon_35 : decode cX3_longestCommon 35 = .ok (.iload 5, 2) := by decide +kernel
theorem dX3_longestCommon_37 : decode cX3_longestCommon 37 = .ok (.if_icmp .gt 79, 3) := by decide +kernel
theorem dX3_longestCommon_40 : decode cX3_longestCommon 40 = .ok (.aload_n 0, 1) := by decide +kernel
theorem dX3_longestCommon_41 : decode cX3_longestCommon 41 = .ok (.getfield 9, 3) := by decide +kernel
theorem dX3_longestCommon_44 : decode cX3_longestCommon 44 = .ok (.iload 8, 2) := by decide +kernel
theorem dX3_longestCommon_46 : decode cX3_longestCommon 46 = .ok (.iaload, 1) := by decide +kernel
theorem dX3_longestCommon_47 : decode cX3_longestCommon 47 = .ok (.istore 9, 2) := by decide +kernel
theorem dX3_longestCommon_49 : decode cX3_longestCommon 49 = .ok (.lload_n 1, 1) := by decide +kernel
theorem dX3_longestCommon_50 : decode cX3_longestCommon 50 = .ok (.iload 6, 2) := by decide +kernel
theorem dX3_longestCommon_52 : decode cX3_longestCommon 52 = .ok (.invokestatic 30, 3) := by decide +kernel
theorem dX3_longestCommon_55 : decode cX3_longestCommon 55 = .ok (.lload_n 3, 1) := by decide +kernel
theorem dX3_longestCommon_56 : decode cX3_longestCommon 56 = .ok (.iload 8, 2) := by decide +kernel
theorem dX3_longestCommon_58 : decode cX3_longestCommon 58 = .ok (.iconst 1, 1) := by decide +kernel
theorem dX3_longestCommon_59 : decode cX3_longestCommon 59 = .ok (.isub, 1) := by decide +kernel
theorem dX3_longestCommon_60 : decode cX3_longestCommon 60 = .ok (.invokestatic 30, 3) := by decide +kernel
theorem dX3_longestCommon_63 : decode cX3_longestCommon 63 = .ok (.if_icmp .ne 7, 3) := by decide +kernel
theorem dX3_longestCommon_66 : decode cX3_longestCommon 66 = .ok (.iconst 1, 1) := by decide +kernel
theorem dX3_longestCommon_67 : decode cX3_longestCommon 67 = .ok (.goto 4, 3) := by decide +kernel
theorem dX3_longestCommon_70 : decode cX3_longestCommon 70 = .ok (.iconst 0, 1) := by decide +kernel
theorem dX3_longestCommon_71 : decode cX3_longestCommon 71 = .ok (.istore 10, 2) := by decide +kernel
theorem dX3_longestCommon_73 : decode cX3_longestCommon 73 = .ok (.aload_n 0, 1) := by decide +kernel
theorem dX3_longestCommon_74 : decode cX3_longestCommon 74 = .ok (.getfield 9, 3) := by decide +kernel
theorem dX3_longestCommon_77 : decode cX3_longestCommon 77 = .ok (.iload 8, 2) := by decide +kernel
theorem dX3_longestCommon_79 : decode cX3_longestCommon 79 = .ok (.iload 10, 2) := by decide +kernel
theorem dX3_longestCommon_81 : decode cX3_longestCommon 81 = .ok (.ifCond .eq 10, 3) := by decide +kernel
theorem dX3_longestCommon_84 : decode cX3_longestCommon 84 = .ok (.iload 7, 2) := by decide +kernel
theorem dX3_longestCommon_86 : decode cX3_longestCommon 86 = .ok (.iconst 1, 1) := by decide +kernel
theorem dX3_longestCommon_87 : decode cX3_longestCommon 87 = .ok (.iadd, 1) := by decide +kernel
theorem dX3_longestCommon_88 : decode cX3_longestCommon 88 = .ok (.goto 17, 3) := by decide +kernel
theorem dX3_longestCommon_91 : decode cX3_longestCommon 91 = .ok (.iload 9, 2) := by decide +kernel
theorem dX3_longestCommon_93 : decode cX3_longestCommon 93 = .ok (.aload_n 0, 1) := by decide +kernel
theorem dX3_longestCommon_94 : decode cX3_longestCommon 94 = .ok (.getfield 9, 3) := by decide +kernel
theorem dX3_longestCommon_97 : decode cX3_longestCommon 97 = .ok (.iload 8, 2) := by decide +kernel
theorem dX3_longestCommon_99 : decode cX3_longestCommon 99 = .ok (.iconst 1, 1) := by decide +kernel
theorem dX3_longestCommon_100 : decode cX3_longestCommon 100 = .ok (.isub, 1) := by decide +kernel
theorem dX3_longestCommon_101 : decode cX3_longestCommon 101 = .ok (.iaload, 1) := by decide +kernel
theorem dX3_longestCommon_102 : decode cX3_longestCommon 102 = .ok (.invokestatic 34, 3) := by decide +kernel
theorem dX3_longestCommon_105 : decode cX3_longestCommon 105 = .ok (.iastore, 1) := by decide +kernel
theorem dX3_longestCommon_106 : decode cX3_longestCommon 106 = .ok (.iload 9, 2) := by decide +kernel
theorem dX3_longestCommon_108 : decode cX3_longestCommon 108 = .ok (.istore 7, 2) := by decide +kernel
theorem dX3_longestCommon_110 : decode cX3_longestCommon 110 = .ok (.iinc 8 1, 3) := by decide +kernel
theorem dX3_longestCommon_113 : decode cX3_longestCommon 113 = .ok (.goto (-80), 3) := by decide +kernel
theorem dX3_longestCommon_116 : decode cX3_longestCommon 116 = .ok (.iinc 6 1, 3) := by decide +kernel
theorem dX3_longestCommon_119 : decode cX3_longestCommon 119 = .ok (.goto (-101), 3) := by decide +kernel
theorem dX3_longestCommon_122 : decode cX3_longestCommon 122 = .ok (.aload_n 0, 1) := by decide +kernel
theorem dX3_longestCommon_123 : decode cX3_longestCommon 123 = .ok (.getfield 9, 3) := by decide +kernel
theorem dX3_longestCommon_126 : decode cX3_longestCommon 126 = .ok (.iload 5, 2) := by decide +kernel
theorem dX3_longestCommon_128 : decode cX3_longestCommon 128 = .ok (.iaload, 1) := by decide +kernel
theorem dX3_longestCommon_129 : decode cX3_longestCommon 129 = .ok (.ireturn, 1) := by decide +kernel
theorem dX3_wordsBelow_0 : decode cX3_wordsBelow 0 = .ok (.aload_n 0, 1) := by decide +kernel
theorem dX3_wordsBelow_1 : decode cX3_wordsBelow 1 = .ok (.invokevirtual 27, 3) := by decide +kernel
theorem dX3_wordsBelow_4 : decode cX3_wordsBelow 4 = .ok (.iconst 0, 1) := by decide +kernel
theorem dX3_wordsBelow_5 : decode cX3_wordsBelow 5 = .ok (.istore_n 3, 1) := by decide +kernel
theorem dX3_wordsBelow_6 : decode cX3_wordsBelow 6 = .ok (.iload_n 3, 1) := by decide +kernel
theorem dX3_wordsBelow_7 : decode cX3_wordsBelow 7 = .ok (.lload_n 1, 1) := by decide +kernel
theorem dX3_wordsBelow_8 : decode cX3_wordsBelow 8 = .ok (.invokestatic 15, 3) := by decide +kernel
theorem dX3_wordsBelow_11 : decode cX3_wordsBelow 11 = .ok (.if_icmp .ge 51, 3) := by decide +kernel
theorem dX3_wordsBelow_14 : decode cX3_wordsBelow 14 = .ok (.lload_n 1, 1) := by decide +kernel
theorem dX3_wordsBelow_15 : decode cX3_wordsBelow 15 = .ok (.iload_n 3, 1) := by decide +kernel
theorem dX3_wordsBelow_16 : decode cX3_wordsBelow 16 = .ok (.invokestatic 30, 3) := by decide +kernel
theorem dX3_wordsBelow_19 : decode cX3_wordsBelow 19 = .ok (.istore 4, 2) := by decide +kernel
theorem dX3_wordsBelow_21 : decode cX3_wordsBelow 21 = .ok (.iload 4, 2) := by decide +kernel
theorem dX3_wordsBelow_23 : decode cX3_wordsBelow 23 = .ok (.iconst 3, 1) := by decide +kernel
theorem dX3_wordsBelow_24 : decode cX3_wordsBelow 24 = .ok (.if_icmp .ge 32, 3) := by decide +kernel
theorem dX3_wordsBelow_27 : decode cX3_wordsBelow 27 = .ok (.aload_n 0, 1) := by decide +kernel
theorem dX3_wordsBelow_28 : decode cX3_wordsBelow 28 = .ok (.getfield 9, 3) := by decide +kernel
theorem dX3_wordsBelow_31 : decode cX3_wordsBelow 31 = .ok (.iload 4, 2) := by decide +kernel
theorem dX3_wordsBelow_33 : decode cX3_wordsBelow 33 = .ok (.iconst 1, 1) := by decide +kernel
theorem dX3_wordsBelow_34 : decode cX3_wordsBelow 34 = .ok (.aload_n 0, 1) := by decide +kernel
theorem dX3_wordsBelow_35 : decode cX3_wordsBelow 35 = .ok (.getfield 9, 3) := by decide +kernel
theorem dX3_wordsBelow_38 : decode cX3_wordsBelow 38 = .ok (.iconst 0, 1) := by decide +kernel
theorem dX3_wordsBelow_39 : decode cX3_wordsBelow 39 = .ok (.iaload, 1) := by decide +kernel
theorem dX3_wordsBelow_40 : decode cX3_wordsBelow 40 = .ok (.iadd, 1) := by decide +kernel
theorem dX3_wordsBelow_41 : decode cX3_wordsBelow 41 = .ok (.aload_n 0, 1) := by decide +kernel
theorem dX3_wordsBelow_42 : decode cX3_wordsBelow 42 = .ok (.getfield 9, 3) := by decide +kernel
theorem dX3_wordsBelow_45 : decode cX3_wordsBelow 45 = .ok (.iconst 1, 1) := by decide +kernel
theorem dX3_wordsBelow_46 : decode cX3_wordsBelow 46 = .ok (.iaload, 1) := by decide +kernel
theorem dX3_wordsBelow_47 : decode cX3_wordsBelow 47 = .ok (.iadd, 1) := by decide +kernel
theorem dX3_wordsBelow_48 : decode cX3_wordsBelow 48 = .ok (.aload_n 0, 1) := by decide +kernel
theorem dX3_wordsBelow_49 : decode cX3_wordsBelow 49 = .ok (.getfield 9, 3) := by decide +kernel
theorem dX3_wordsBelow_52 : decode cX3_wordsBelow 52 = .ok (.iconst 2, 1) := by decide +kernel
theorem dX3_wordsBelow_53 : decode cX3_wordsBelow 53 = .ok (.iaload, 1) := by decide +kernel
theorem dX3_wordsBelow_54 : decode cX3_wordsBelow 54 = .ok (.iadd, 1) := by decide +kernel
theorem dX3_wordsBelow_55 : decode cX3_wordsBelow 55 = .ok (.iastore, 1) := by decide +kernel
theorem dX3_wordsBelow_56 : decode cX3_wordsBelow 56 = .ok (.iinc 3 1, 3) := by decide +kernel
theorem dX3_wordsBelow_59 : decode cX3_wordsBelow 59 = .ok (.goto (-53), 3) := by decide +kernel
theorem dX3_wordsBelow_62 : decode cX3_wordsBelow 62 = .ok (.iconst 1, 1) := by decide +kernel
theorem dX3_wordsBelow_63 : decode cX3_wordsBelow 63 = .ok (.aload_n 0, 1) := by decide +kernel
theorem dX3_wordsBelow_64 : decode cX3_wordsBelow 64 = .ok (.getfield 9, 3) := by decide +kernel
theorem dX3_wordsBelow_67 : decode cX3_wordsBelow 67 = .ok (.iconst 0, 1) := by decide +kernel
theorem dX3_wordsBelow_68 : decode cX3_wordsBelow 68 = .ok (.iaload, 1) := by decide +kernel
theorem dX3_wordsBelow_69 : decode cX3_wordsBelow 69 = .ok (.iadd, 1) := by decide +kernel
theorem dX3_wordsBelow_70 : decode cX3_wordsBelow 70 = .ok (.aload_n 0, 1) := by decide +kernel
theorem dX3_wordsBelow_71 : decode cX3_wordsBelow 71 = .ok (.getfield 9, 3) := by decide +kernel
theorem dX3_wordsBelow_74 : decode cX3_wordsBelow 74 = .ok (.iconst 1, 1) := by decide +kernel
theorem dX3_wordsBelow_75 : decode cX3_wordsBelow 75 = .ok (.iaload, 1) := by decide +kernel
theorem dX3_wordsBelow_76 : decode cX3_wordsBelow 76 = .ok (.iadd, 1) := by decide +kernel
theorem dX3_wordsBelow_77 : decode cX3_wordsBelow 77 = .ok (.aload_n 0, 1) := by decide +kernel
theorem dX3_wordsBelow_78 : decode cX3_wordsBelow 78 = .ok (.getfield 9, 3) := by decide +kernel
theorem dX3_wordsBelow_81 : decode cX3_wordsBelow 81 = .ok (.iconst 2, 1) := by decide +kernel
theorem dX3_wordsBelow_82 : decode cX3_wordsBelow 82 = .ok (.iaload, 1) := by decide +kernel
theorem dX3_wordsBelow_83 : decode cX3_wordsBelow 83 = .ok (.iadd, 1) := by decide +kernel
theorem dX3_wordsBelow_84 : decode cX3_wordsBelow 84 = .ok (.ireturn, 1) := by decide +kernel
theorem dX3_empty_0 : decode cX3_empty 0 = .ok (.iconst 0, 1) := by decide +kernel
theorem dX3_empty_1 : decode cX3_empty 1 = .ok (.istore_n 1, 1) := by decide +kernel
theorem dX3_empty_2 : decode cX3_empty 2 = .ok (.iload_n 1, 1) := by decide +kernel
theorem dX3_empty_3 : decode cX3_empty 3 = .ok (.aload_n 0, 1) := by decide +kernel
theorem dX3_empty_4 : decode cX3_empty 4 = .ok (.getfield 9, 3) := by decide +kernel
theorem dX3_empty_7 : decode cX3_empty 7 = .ok (.arraylength, 1) := by decide +kernel
theorem dX3_empty_8 : decode cX3_empty 8 = .ok (.if_icmp .ge 16, 3) := by decide +kernel
theorem dX3_empty_11 : decode cX3_empty 11 = .ok (.aload_n 0, 1) := by decide +kernel
theorem dX3_empty_12 : decode cX3_empty 12 = .ok (.getfield 9, 3) := by decide +kernel
theorem dX3_empty_15 : decode cX3_empty 15 = .ok (.iload_n 1, 1) := by decide +kernel
theorem dX3_empty_16 : decode cX3_empty 16 = .ok (.iconst 0, 1) := by decide +kernel
theorem dX3_empty_17 : decode cX3_empty 17 = .ok (.iastore, 1) := by decide +kernel
theorem dX3_empty_18 : decode cX3_empty 18 = .ok (.iinc 1 1, 3) := by decide +kernel
theorem dX3_empty_21 : decode cX3_empty 21 = .ok (.goto (-19), 3) := by decide +kernel
theorem dX3_empty_24 : decode cX3_empty 24 = .ok (.return_, 1) := by decide +kernel
theorem dX4_init_0 : decode cX4_init 0 = .ok (.aload_n 0, 1) := by decide +kernel
theorem dX4_init_1 : decode cX4_init 1 = .ok (.invokespecial 3, 3) := by decide +kernel
theorem dX4_init_4 : decode cX4_init 4 = .ok (.aload_n 0, 1) := by decide +kernel
theorem dX4_init_5 : decode cX4_init 5 = .ok (.bipush 50, 2) := by decide +kernel
theorem dX4_init_7 : decode cX4_init 7 = .ok (.newarray .int, 2) := by decide +kernel
theorem dX4_init_9 : decode cX4_init 9 = .ok (.putfield 9, 3) := by decide +kernel
theorem dX4_init_12 : decode cX4_init 12 = .ok (.aload_n 0, 1) := by decide +kernel
theorem dX4_init_13 : decode cX4_init 13 = .ok (.iconst 0, 1) := by decide +kernel
theorem dX4_init_14 : decode cX4_init 14 = .ok (.putfield 15, 3) := by decide +kernel
theorem dX4_init_17 : decode cX4_init 17 = .ok (.return_, 1) := by decide +kernel
theorem dX4_count_0 : decode cX4_count 0 = .ok (.aload_n 0, 1) := by decide +kernel
theorem dX4_count_1 : decode cX4_count 1 = .ok (.getfield 15, 3) := by decide +kernel
theorem dX4_count_4 : decode cX4_count 4 = .ok (.ireturn, 1) := by decide +kernel
theorem dX4_has_0 : decode cX4_has 0 = .ok (.iload_n 1, 1) := by decide +kernel
theorem dX4_has_1 : decode cX4_has 1 = .ok (.ifCond .lt 15, 3) := by decide +kernel
theorem dX4_has_4 : decode cX4_has 4 = .ok (.iload_n 1, 1) := by decide +kernel
theorem dX4_has_5 : decode cX4_has 5 = .ok (.aload_n 0, 1) := by decide +kernel
theorem dX4_has_6 : decode cX4_has 6 = .ok (.getfield 15, 3) := by decide +kernel
theorem dX4_has_9 : decode cX4_has 9 = .ok (.if_icmp .ge 7, 3) := by decide +kernel
theorem dX4_has_12 : decode cX4_has 12 = .ok (.iconst 1, 1) := by decide +kernel
theorem dX4_has_13 : decode cX4_has 13 = .ok (.goto 4, 3) := by decide +kernel
theorem dX4_has_16 : decode cX4_has 16 = .ok (.iconst 0, 1) := by decide +kernel
theorem dX4_has_17 : decode cX4_has 17 = .ok (.ireturn, 1) := by decide +kernel
theorem dX4_part_0 : decode cX4_part 0 = .ok (.aload_n 0, 1) := by decide +kernel
theorem dX4_part_1 : decode cX4_part 1 = .ok (.iload_n 1, 1) := by decide +kernel
theorem dX4_part_2 : decode cX4_part 2 = .ok (.invokevirtual 19, 3) := by decide +kernel
theorem dX4_part_5 : decode cX4_part 5 = .ok (.ifCond .eq 25, 3) := by decide +kernel
theorem dX4_part_8 : decode cX4_part 8 = .ok (.iload_n 2, 1) := by decide +kernel
theorem dX4_part_9 : decode cX4_part 9 = .ok (.ifCond .lt 21, 3) := by decide +kernel
theorem dX4_part_12 : decode cX4_part 12 = .ok (.iload_n 2, 1) := by decide +kernel
theorem dX4_part_13 : decode cX4_part 13 = .ok (.iconst 5, 1) := by decide +kernel
theorem dX4_part_14 : decode cX4_part 14 = .ok (.if_icmp .ge 16, 3) := by decide +kernel
theorem dX4_part_17 : decode cX4_part 17 = .ok (.aload_n 0, 1) := by decide +kernel
theorem dX4_part_18 : decode cX4_part 18 = .ok (.getfield 9, 3) := by decide +kernel
theorem dX4_part_21 : decode cX4_part 21 = .ok (.iconst 5, 1) := by decide +kernel
theorem dX4_part_22 : decode cX4_part 22 = .ok (.iload_n 1, 1) := by decide +kernel
theorem dX4_part_23 : decode cX4_part 23 = .ok (.imul, 1) := by decide +kernel
theorem dX4_part_24 : decode cX4_part 24 = .ok (.iload_n 2, 1) := by decide +kernel
theorem dX4_part_25 : decode cX4_part 25 = .ok (.iadd, 1) := by decide +kernel
theorem dX4_part_26 : decode cX4_part 26 = .ok (.iaload, 1) := by decide +kernel
theorem dX4_part_27 : decode cX4_part 27 = .ok (.goto 4, 3) := by decide +kernel
theorem dX4_part_30 : decode cX4_part 30 = .ok (.iconst (-1), 1) := by decide +kernel
theorem dX4_part_31 : decode cX4_part 31 = .ok (.ireturn, 1) := by decide +kernel
theorem dX4_add_0 : decode cX4_add 0 = .ok (.aload_n 0, 1) := by decide +kernel
theorem dX4_add_1 : decode cX4_add 1 = .ok (.getfield 15, 3) := by decide +kernel
theorem dX4_add_4 : decode cX4_add 4 = .ok (.bipush 10, 2) := by decide +kernel
theorem dX4_add_6 : decode cX4_add 6 = .ok (.if_icmp .lt 4, 3) := by decide +kernel
theorem dX4_add_9 : decode cX4_add 9 = .ok (.return_, 1) := by decide +kernel
theorem dX4_add_10 : decode cX4_add 10 = .ok (.iconst 5, 1) := by decide +kernel
theorem dX4_add_11 : decode cX4_add 11 = .ok (.aload_n 0, 1) := by decide +kernel
theorem dX4_add_12 : decode cX4_add 12 = .ok (.getfield 15, 3) := by decide +kernel
theorem dX4_add_15 : decode cX4_add 15 = .ok (.imul, 1) := by decide +kernel
theorem dX4_add_16 : decode cX4_add 16 = .ok (.istore 6, 2) := by decide +kernel
theorem dX4_add_18 : decode cX4_add 18 = .ok (.aload_n 0, 1) := by decide +kernel
theorem dX4_add_19 : decode cX4_add 19 = .ok (.getfield 9, 3) := by decide +kernel
theorem dX4_add_22 : decode cX4_add 22 = .ok (.iload 6, 2) := by decide +kernel
theorem dX4_add_24 : decode cX4_add 24 = .ok (.iconst 0, 1) := by decide +kernel
theorem dX4_add_25 : decode cX4_add 25 = .ok (.iadd, 1) := by decide +kernel
theorem dX4_add_26 : decode cX4_add 26 = .ok (.iload_n 1, 1) := by decide +kernel
theorem dX4_add_27 : decode cX4_add 27 = .ok (.iastore, 1) := by decide +kernel
theorem dX4_add_28 : decode cX4_add 28 = .ok (.aload_n 0, 1) := by decide +kernel
theorem dX4_add_29 : decode cX4_add 29 = .ok (.getfield 9, 3) := by decide +kernel
theorem dX4_add_32 : decode cX4_add 32 = .ok (.iload 6, 2) := by decide +kernel
theorem dX4_add_34 : decode cX4_add 34 = .ok (.iconst 1, 1) := by decide +kernel
theorem dX4_add_35 : decode cX4_add 35 = .ok (.iadd, 1) := by decide +kernel
theorem dX4_add_36 : decode cX4_add 36 = .ok (.iload_n 2, 1) := by decide +kernel
theorem dX4_add_37 : decode cX4_add 37 = .ok (.iastore, 1) := by decide +kernel
theorem dX4_add_38 : decode cX4_add 38 = .ok (.aload_n 0, 1) := by decide +kernel
theorem dX4_add_39 : decode cX4_add 39 = .ok (.getfield 9, 3) := by decide +kernel
theorem dX4_add_42 : decode cX4_add 42 = .ok (.iload 6, 2) := by decide +kernel
theorem dX4_add_44 : decode cX4_add 44 = .ok (.iconst 2, 1) := by decide +kernel
theorem dX4_add_45 : decode cX4_add 45 = .ok (.iadd, 1) := by decide +kernel
theorem dX4_add_46 : decode cX4_add 46 = .ok (.iload_n 3, 1) := by decide +kernel
theorem dX4_add_47 : decode cX4_add 47 = .ok (.iastore, 1) := by decide +kernel
theorem dX4_add_48 : decode cX4_add 48 = .ok (.aload_n 0, 1) := by decide +kernel
theorem dX4_add_49 : decode cX4_add 49 = .ok (.getfield 9, 3) := by decide +kernel
theorem dX4_add_52 : decode cX4_add 52 = .ok (.iload 6, 2) := by decide +kernel
theorem dX4_add_54 : decode cX4_add 54 = .ok (.iconst 3, 1) := by decide +kernel
theorem dX4_add_55 : decode cX4_add 55 = .ok (.iadd, 1) := by decide +kernel
theorem dX4_add_56 : decode cX4_add 56 = .ok (.iload_n 3, 1) := by decide +kernel
theorem dX4_add_57 : decode cX4_add 57 = .ok (.ifCond .ne 7, 3) := by decide +kernel
theorem dX4_add_60 : decode cX4_add 60 = .ok (.iconst (-1), 1) := by decide +kernel
theorem dX4_add_61 : decode cX4_add 61 = .ok (.goto 5, 3) := by decide +kernel
theorem dX4_add_64 : decode cX4_add 64 = .ok (.iload 4, 2) := by decide +kernel
theorem dX4_add_66 : decode cX4_add 66 = .ok (.iastore, 1) := by decide +kernel
theorem dX4_add_67 : decode cX4_add 67 = .ok (.aload_n 0, 1) := by decide +kernel
theorem dX4_add_68 : decode cX4_add 68 = .ok (.getfield 9, 3) := by decide +kernel
theorem dX4_add_71 : decode cX4_add 71 = .ok (.iload 6, 2) := by decide +kernel
theorem dX4_add_73 : decode cX4_add 73 = .ok (.iconst 4, 1) := by decide +kernel
theorem dX4_add_74 : decode cX4_add 74 = .ok (.iadd, 1) := by decide +kernel
theorem dX4_add_75 : decode cX4_add 75 = .ok (.iload_n 3, 1) := by decide +kernel
theorem dX4_add_76 : decode cX4_add 76 = .ok (.ifCond .ne 7, 3) := by decide +kernel
theorem dX4_add_79 : decode cX4_add 79 = .ok (.iconst (-1), 1) := by decide +kernel
theorem dX4_add_80 : decode cX4_add 80 = .ok (.goto 5, 3) := by decide +kernel
theorem dX4_add_83 : decode cX4_add 83 = .ok (.iload 5, 2) := by decide +kernel
theorem dX4_add_85 : decode cX4_add 85 = .ok (.iastore, 1) := by decide +kernel
theorem dX4_add_86 : decode cX4_add 86 = .ok (.aload_n 0, 1) := by decide +kernel
theorem dX4_add_87 : decode cX4_add 87 = .ok (.dup, 1) := by decide +kernel
theorem dX4_add_88 : decode cX4_add 88 = .ok (.getfield 15, 3) := by decide +kernel
theorem dX4_add_91 : decode cX4_add 91 = .ok (.iconst 1, 1) := by decide +kernel
theorem dX4_add_92 : decode cX4_add 92 = .ok (.iadd, 1) := by decide +kernel
theorem dX4_add_93 : decode cX4_add 93 = .ok (.putfield 15, 3) := by decide +kernel
theorem dX4_add_96 : decode cX4_add 96 = .ok (.return_, 1) := by decide +kernel
theorem dX4_addAll_0 : decode cX4_addAll 0 = .ok (.iconst 0, 1) := by decide +kernel
theorem dX4_addAll_1 : decode cX4_addAll 1 = .ok (.istore_n 2, 1) := by decide +kernel
theorem dX4_addAll_2 : decode cX4_addAll 2 = .ok (.iload_n 2, 1) := by decide +kernel
theorem dX4_addAll_3 : decode cX4_addAll 3 = .ok (.aload_n 1, 1) := by decide +kernel
theorem dX4_addAll_4 : decode cX4_addAll 4 = .ok (.getfield 15, 3) := by decide +kernel
theorem dX4_addAll_7 : decode cX4_addAll 7 = .ok (.if_icmp .ge 43, 3) := by decide +kernel
theorem dX4_addAll_10 : decode cX4_addAll 10 = .ok (.aload_n 0, 1) := by decide +kernel
theorem dX4_addAll_11 : decode cX4_addAll 11 = .ok (.aload_n 1, 1) := by decide +kernel
theorem dX4_addAll_12 : decode cX4_addAll 12 = .ok (.iload_n 2, 1) := by decide +kernel
theorem dX4_addAll_13 : decode cX4_addAll 13 = .ok (.iconst 0, 1) := by decide +kernel
theorem dX4_addAll_14 : decode cX4_addAll 14 = .ok (.invokevirtual 23, 3) := by decide +kernel
theorem dX4_addAll_17 : decode cX4_addAll 17 = .ok (.aload_n 1, 1) := by decide +kernel
theorem dX4_addAll_18 : decode cX4_addAll 18 = .ok (.iload_n 2, 1) := by decide +kernel
theorem dX4_addAll_19 : decode cX4_addAll 19 = .ok (.iconst 1, 1) := by decide +kernel
theorem dX4_addAll_20 : decode cX4_addAll 20 = .ok (.invokevirtual 23, 3) := by decide +kernel
theorem dX4_addAll_23 : decode cX4_addAll 23 = .ok (.aload_n 1, 1) := by decide +kernel
theorem dX4_addAll_24 : decode cX4_addAll 24 = .ok (.iload_n 2, 1) := by decide +kernel
theorem dX4_addAll_25 : decode cX4_addAll 25 = .ok (.iconst 2, 1) := by decide +kernel
theorem dX4_addAll_26 : decode cX4_addAll 26 = .ok (.invokevirtual 23, 3) := by decide +kernel
theorem dX4_addAll_29 : decode cX4_addAll 29 = .ok (.aload_n 1, 1) := by decide +kernel
theorem dX4_addAll_30 : decode cX4_addAll 30 = .ok (.iload_n 2, 1) := by decide +kernel
theorem dX4_addAll_31 : decode cX4_addAll 31 = .ok (.iconst 3, 1) := by decide +kernel
theorem dX4_addAll_32 : decode cX4_addAll 32 = .ok (.invokevirtual 23, 3) := by decide +kernel
theorem dX4_addAll_35 : decode cX4_addAll 35 = .ok (.aload_n 1, 1) := by decide +kernel
theorem dX4_addAll_36 : decode cX4_addAll 36 = .ok (.iload_n 2, 1) := by decide +kernel
theorem dX4_addAll_37 : decode cX4_addAll 37 = .ok (.iconst 4, 1) := by decide +kernel
theorem dX4_addAll_38 : decode cX4_addAll 38 = .ok (.invokevirtual 23, 3) := by decide +kernel
theorem dX4_addAll_41 : decode cX4_addAll 41 = .ok (.invokevirtual 27, 3) := by decide +kernel
theorem dX4_addAll_44 : decode cX4_addAll 44 = .ok (.iinc 2 1, 3) := by decide +kernel
theorem dX4_addAll_47 : decode cX4_addAll 47 = .ok (.goto (-45), 3) := by decide +kernel
theorem dX4_addAll_50 : decode cX4_addAll 50 = .ok (.return_, 1) := by decide +kernel
theorem dX4_copyFrom_0 : decode cX4_copyFrom 0 = .ok (.aload_n 0, 1) := by decide +kernel
theorem dX4_copyFrom_1 : decode cX4_copyFrom 1 = .ok (.invokevirtual 31, 3) := by decide +kernel
theorem dX4_copyFrom_4 : decode cX4_copyFrom 4 = .ok (.aload_n 0, 1) := by decide +kernel
theorem dX4_copyFrom_5 : decode cX4_copyFrom 5 = .ok (.aload_n 1, 1) := by decide +kernel
theorem dX4_copyFrom_6 : decode cX4_copyFrom 6 = .ok (.invokevirtual 34, 3) := by decide +kernel
theorem dX4_copyFrom_9 : decode cX4_copyFrom 9 = .ok (.return_, 1) := by decide +kernel
theorem dX4_remove_0 : decode cX4_remove 0 = .ok (.aload_n 0, 1) := by decide +kernel
theorem dX4_remove_1 : decode cX4_remove 1 = .ok (.iload_n 1, 1) := by decide +kernel
theorem dX4_remove_2 : decode cX4_remove 2 = .ok (.invokevirtual 19, 3) := by decide +kernel
theorem dX4_remove_5 : decode cX4_remove 5 = .ok (.ifCond .ne 4, 3) := by decide +kernel
theorem dX4_remove_8 : decode cX4_remove 8 = .ok (.return_, 1) := by decide +kernel
theorem dX4_remove_9 : decode cX4_remove 9 = .ok (.iconst 5, 1) := by decide +kernel
theorem dX4_remove_10 : decode cX4_remove 10 = .ok (.iload_n 1, 1) := by decide +kernel
theorem dX4_remove_11 : decode cX4_remove 11 = .ok (.imul, 1) := by decide +kernel
theorem dX4_remove_12 : decode cX4_remove 12 = .ok (.istore_n 2, 1) := by decide +kernel
theorem dX4_remove_13 : decode cX4_remove 13 = .ok (.iload_n 2, 1) := by decide +kernel
theorem dX4_remove_14 : decode cX4_remove 14 = .ok (.iconst 5, 1) := by decide +kernel
theorem dX4_remove_15 : decode cX4_remove 15 = .ok (.aload_n 0, 1) := by decide +kernel
theorem dX4_remove_16 : decode cX4_remove 16 = .ok (.getfield 15, 3) := by decide +kernel
theorem dX4_remove_19 : decode cX4_remove 19 = .ok (.iconst 1, 1) := by decide +kernel
theorem dX4_remove_20 : decode cX4_remove 20 = .ok (.isub, 1) := by decide +kernel
theorem dX4_remove_21 : decode cX4_remove 21 = .ok (.imul, 1) := by decide +kernel
theorem dX4_remove_22 : decode cX4_remove 22 = .ok (.if_icmp .ge 23, 3) := by decide +kernel
theorem dX4_remove_25 : decode cX4_remove 25 = .ok (.aload_n 0, 1) := by decide +kernel
theorem dX4_remove_26 : decode cX4_remove 26 = .ok (.getfield 9, 3) := by decide +kernel
theorem dX4_remove_29 : decode cX4_remove 29 = .ok (.iload_n 2, 1) := by decide +kernel
theorem dX4_remove_30 : decode cX4_remove 30 = .ok (.aload_n 0, 1) := by decide +kernel
theorem dX4_remove_31 : decode cX4_remove 31 = .ok (.getfield 9, 3) := by decide +kernel
theorem dX4_remove_34 : decode cX4_remove 34 = .ok (.iload_n 2, 1) := by decide +kernel
theorem dX4_remove_35 : decode cX4_remove 35 = .ok (.iconst 5, 1) := by decide +kernel
theorem dX4_remove_36 : decode cX4_remove 36 = .ok (.iadd, 1) := by decide +kernel
theorem dX4_remove_37 : decode cX4_remove 37 = .ok (.iaload, 1) := by decide +kernel
theorem dX4_remove_38 : decode cX4_remove 38 = .ok (.iastore, 1) := by decide +kernel
theorem dX4_remove_39 : decode cX4_remove 39 = .ok (.iinc 2 1, 3) := by decide +kernel
theorem dX4_remove_42 : decode cX4_remove 42 = .ok (.goto (-29), 3) := by decide +kernel
theorem dX4_remove_45 : decode cX4_remove 45 = .ok (.aload_n 0, 1) := by decide +kernel
theorem dX4_remove_46 : decode cX4_remove 46 = .ok (.dup, 1) := by decide +kernel
theorem dX4_remove_47 : decode cX4_remove 47 = .ok (.getfield 15, 3) := by decide +kernel
theorem dX4_remove_50 : decode cX4_remove 50 = .ok (.iconst 1, 1) := by decide +kernel
theorem dX4_remove_51 : decode cX4_remove 51 = .ok (.isub, 1) := by decide +kernel
theorem dX4_remove_52 : decode cX4_remove 52 = .ok (.putfield 15, 3) := by decide +kernel
theorem dX4_remove_55 : decode cX4_remove 55 = .ok (.return_, 1) := by decide +kernel
theorem dX4_removeAll_0 : decode cX4_removeAll 0 = .ok (.aload_n 0, 1) := by decide +kernel
theorem dX4_removeAll_1 : decode cX4_removeAll 1 = .ok (.iconst 0, 1) := by decide +kernel
theorem dX4_removeAll_2 : decode cX4_removeAll 2 = .ok (.putfield 15, 3) := by decide +kernel
theorem dX4_removeAll_5 : decode cX4_removeAll 5 = .ok (.return_, 1) := by decide +kernel
theorem dX4_canFire_0 : decode cX4_canFire 0 = .ok (.aload_n 0, 1) := by decide +kernel
theorem dX4_canFire_1 : decode cX4_canFire 1 = .ok (.iload_n 1, 1) := by decide +kernel
theorem dX4_canFire_2 : decode cX4_canFire 2 = .ok (.iconst 0, 1) := by decide +kernel
theorem dX4_canFire_3 : decode cX4_canFire 3 = .ok (.invokevirtual 23, 3) := by decide +kernel
theorem dX4_canFire_6 : decode cX4_canFire 6 = .ok (.aload_n 2, 1) := by decide +kernel
theorem dX4_canFire_7 : decode cX4_canFire 7 = .ok (.getfield 38, 3) := by decide +kernel
theorem dX4_canFire_10 : decode cX4_canFire 10 = .ok (.if_icmp .eq 5, 3) := by decide +kernel
theorem dX4_canFire_13 : decode cX4_canFire 13 = .ok (.iconst 0, 1) := by decide +kernel
theorem dX4_canFire_14 : decode cX4_canFire 14 = .ok (.ireturn, 1) := by decide +kernel
theorem dX4_canFire_15 : decode cX4_canFire 15 = .ok (.aload_n 0, 1) := by decide +kernel
theorem dX4_canFire_16 : decode cX4_canFire 16 = .ok (.iload_n 1, 1) := by decide +kernel
theorem dX4_canFire_17 : decode cX4_canFire 17 = .ok (.iconst 2, 1) := by decide +kernel
theorem dX4_canFire_18 : decode cX4_canFire 18 = .ok (.invokevirtual 23, 3) := by decide +kernel
theorem dX4_canFire_21 : decode cX4_canFire 21 = .ok (.iconst 2, 1) := by decide +kernel
theorem dX4_canFire_22 : decode cX4_canFire 22 = .ok (.if_icmp .eq 5, 3) := by decide +kernel
theorem dX4_canFire_25 : decode cX4_canFire 25 = .ok (.iconst 1, 1) := by decide +kernel
theorem dX4_canFire_26 : decode cX4_canFire 26 = .ok (.ireturn, 1) := by decide +kernel
theorem dX4_canFire_27 : decode cX4_canFire 27 = .ok (.aload_n 2, 1) := by decide +kernel
theorem dX4_canFire_28 : decode cX4_canFire 28 = .ok (.aload_n 0, 1) := by decide +kernel
theorem dX4_canFire_29 : decode cX4_canFire 29 = .ok (.iload_n 1, 1) := by decide +kernel
theorem dX4_canFire_30 : decode cX4_canFire 30 = .ok (.iconst 3, 1) := by decide +kernel
theorem dX4_canFire_31 : decode cX4_canFire 31 = .ok (.invokevirtual 23, 3) := by decide +kernel
theorem dX4_canFire_34 : decode cX4_canFire 34 = .ok (.invokevirtual 43, 3) := by decide +kernel
theorem dX4_canFire_37 : decode cX4_canFire 37 = .ok (.lstore 4, 2) := by decide +kernel
theorem dX4_canFire_39 : decode cX4_canFire 39 = .ok (.lload 4, 2) := by decide +kernel
theorem dX4_canFire_41 : decode cX4_canFire 41 = .ok (.aload_n 0, 1) := by decide +kernel
theorem dX4_canFire_42 : decode cX4_canFire 42 = .ok (.iload_n 1, 1) := by decide +kernel
theorem dX4_canFire_43 : decode cX4_canFire 43 = .ok (.iconst 4, 1) := by decide +kernel
theorem dX4_canFire_44 : decode cX4_canFire 44 = .ok (.invokevirtual 23, 3) := by decide +kernel
theorem dX4_canFire_47 : decode cX4_canFire 47 = .ok (.invokestatic 47, 3) := by decide +kernel
theorem dX4_canFire_50 : decode cX4_canFire 50 = .ok (.istore 6, 2) := by decide +kernel
theorem dX4_canFire_52 : decode cX4_canFire 52 = .ok (.iload_n 3, 1) := by decide +kernel
theorem dX4_canFire_53 : decode cX4_canFire 53 = .ok (.ifCond .eq 16, 3) := by decide +kernel
theorem dX4_canFire_56 : decode cX4_canFire 56 = .ok (.iload 6, 2) := by decide +kernel
theorem dX4_canFire_58 : decode cX4_canFire 58 = .ok (.ifCond .lt 7, 3) := by decide +kernel
theorem dX4_canFire_61 : decode cX4_canFire 61 = .ok (.iconst 1, 1) := by decide +kernel
theorem dX4_canFire_62 : decode cX4_canFire 62 = .ok (.goto 17, 3) := by decide +kernel
theorem dX4_canFire_65 : decode cX4_canFire 65 = .ok (.iconst 0, 1) := by decide +kernel
theorem dX4_canFire_66 : decode cX4_canFire 66 = .ok (.goto 13, 3) := by decide +kernel
theorem dX4_canFire_69 : decode cX4_canFire 69 = .ok (.iload 6, 2) := by decide +kernel
theorem dX4_canFire_71 : decode cX4_canFire 71 = .ok (.ifCond .ne 7, 3) := by decide +kernel
theorem dX4_canFire_74 : decode cX4_canFire 74 = .ok (.iconst 1, 1) := by decide +kernel
theorem dX4_canFire_75 : decode cX4_canFire 75 = .ok (.goto 4, 3) := by decide +kernel
theorem dX4_canFire_78 : decode cX4_canFire 78 = .ok (.iconst 0, 1) := by decide +kernel
theorem dX4_canFire_79 : decode cX4_canFire 79 = .ok (.ireturn, 1) := by decide +kernel
theorem dX4_firable_0 : decode cX4_firable 0 = .ok (.iconst 0, 1) := by decide +kernel
theorem dX4_firable_1 : decode cX4_firable 1 = .ok (.istore_n 3, 1) := by decide +kernel
theorem dX4_firable_2 : decode cX4_firable 2 = .ok (.iconst 0, 1) := by decide +kernel
theorem dX4_firable_3 : decode cX4_firable 3 = .ok (.istore 4, 2) := by decide +kernel
theorem dX4_firable_5 : decode cX4_firable 5 = .ok (.iload 4, 2) := by decide +kernel
theorem dX4_firable_7 : decode cX4_firable 7 = .ok (.aload_n 0, 1) := by decide +kernel
theorem dX4_firable_8 : decode cX4_firable 8 = .ok (.getfield 15, 3) := by decide +kernel
theorem dX4_firable_11 : decode cX4_firable 11 = .ok (.if_icmp .ge 27, 3) := by decide +kernel
theorem dX4_firable_14 : decode cX4_firable 14 = .ok (.aload_n 0, 1) := by decide +kernel
theorem dX4_firable_15 : decode cX4_firable 15 = .ok (.iload 4, 2) := by decide +kernel
theorem dX4_firable_17 : decode cX4_firable 17 = .ok (.aload_n 1, 1) := by decide +kernel
theorem dX4_firable_18 : decode cX4_firable 18 = .ok (.iload_n 2, 1) := by decide +kernel
theorem dX4_firable_19 : decode cX4_firable 19 = .ok (.invokevirtual 53, 3) := by decide +kernel
theorem dX4_firable_22 : decode cX4_firable 22 = .ok (.ifCond .eq 10, 3) := by decide +kernel
theorem dX4_firable_25 : decode cX4_firable 25 = .ok (.iload_n 3, 1) := by decide +kernel
theorem dX4_firable_26 : decode cX4_firable 26 = .ok (.iconst 1, 1) := by decide +kernel
theorem dX4_firable_27 : decode cX4_firable 27 = .ok (.iload 4, 2) := by decide +kernel
theorem dX4_firable_29 : decode cX4_firable 29 = .ok (.ishl, 1) := by decide +kernel
theorem dX4_firable_30 : decode cX4_firable 30 = .ok (.ior, 1) := by decide +kernel
theorem dX4_firable_31 : decode cX4_firable 31 = .ok (.istore_n 3, 1) := by decide +kernel
theorem dX4_firable_32 : decode cX4_firable 32 = .ok (.iinc 4 1, 3) := by decide +kernel
theorem dX4_firable_35 : decode cX4_firable 35 = .ok (.goto (-30), 3) := by decide +kernel
theorem dX4_firable_38 : decode cX4_firable 38 = .ok (.iload_n 3, 1) := by decide +kernel
theorem dX4_firable_39 : decode cX4_firable 39 = .ok (.ireturn, 1) := by decide +kernel
theorem dX4_newStates_0 : decode cX4_newStates 0 = .ok (.iconst 0, 1) := by decide +kernel
theorem dX4_newStates_1 : decode cX4_newStates 1 = .ok (.istore_n 2, 1) := by decide +kernel
theorem dX4_newStates_2 : decode cX4_newStates 2 = .ok (.iconst 0, 1) := by decide +kernel
theorem dX4_newStates_3 : decode cX4_newStates 3 = .ok (.istore_n 3, 1) := by decide +kernel
theorem dX4_newStates_4 : decode cX4_newStates 4 = .ok (.iload_n 3, 1) := by decide +kernel
theorem dX4_newStates_5 : decode cX4_newStates 5 = .ok (.aload_n 0, 1) := by decide +kernel
theorem dX4_newStates_6 : decode cX4_newStates 6 = .ok (.getfield 15, 3) := by decide +kernel
theorem dX4_newStates_9 : decode cX4_newStates 9 = .ok (.if_icmp .ge 29, 3) := by decide +kernel
theorem dX4_newStates_12 : decode cX4_newStates 12 = .ok (.iload_n 1, 1) := by decide +kernel
theorem dX4_newStates_13 : decode cX4_newStates 13 = .ok (.iload_n 3, 1) := by decide +kernel
theorem dX4_newStates_14 : decode cX4_newStates 14 = .ok (.ishr, 1) := by decide +kernel
theorem dX4_newStates_15 : decode cX4_newStates 15 = .ok (.iconst 1, 1) := by decide +kernel
theorem dX4_newStates_16 : decode cX4_newStates 16 = .ok (.iand, 1) := by decide +kernel
theorem dX4_newStates_17 : decode cX4_newStates 17 = .ok (.iconst 1, 1) := by decide +kernel
theorem dX4_newStates_18 : decode cX4_newStates 18 = .ok (.if_icmp .ne 14, 3) := by decide +kernel
theorem dX4_newStates_21 : decode cX4_newStates 21 = .ok (.iload_n 2, 1) := by decide +kernel
theorem dX4_newStates_22 : decode cX4_newStates 22 = .ok (.iconst 1, 1) := by decide +kernel
theorem dX4_newStates_23 : decode cX4_newStates 23 = .ok (.aload_n 0, 1) := by decide +kernel
theorem dX4_newStates_24 : decode cX4_newStates 24 = .ok (.iload_n 3, 1) := by decide +kernel
theorem dX4_newStates_25 : decode cX4_newStates 25 = .ok (.iconst 1, 1) := by decide +kernel
theorem dX4_newStates_26 : decode cX4_newStates 26 = .ok (.invokevirtual 23, 3) := by decide +kernel
theorem dX4_newStates_29 : decode cX4_newStates 29 = .ok (.ishl, 1) := by decide +kernel
theorem dX4_newStates_30 : decode cX4_newStates 30 = .ok (.ior, 1) := by decide +kernel
theorem dX4_newStates_31 : decode cX4_newStates 31 = .ok (.istore_n 2, 1) := by decide +kernel
theorem dX4_newStates_32 : decode cX4_newStates 32 = .ok (.iinc 3 1, 3) := by decide +kernel
theorem dX4_newStates_35 : decode cX4_newStates 35 = .ok (.goto (-31), 3) := by decide +kernel
theorem dX4_newStates_38 : decode cX4_newStates 38 = .ok (.iload_n 2, 1) := by decide +kernel
theorem dX4_newStates_39 : decode cX4_newStates 39 = .ok (.ireturn, 1) := by decide +kernel
theorem dX4_overfills_0 : decode cX4_overfills 0 = .ok (.aload_n 0, 1) := by decide +kernel
theorem dX4_overfills_1 : decode cX4_overfills 1 = .ok (.iload_n 1, 1) := by decide +kernel
theorem dX4_overfills_2 : decode cX4_overfills 2 = .ok (.iconst 2, 1) := by decide +kernel
theorem dX4_overfills_3 : decode cX4_overfills 3 = .ok (.invokevirtual 23, 3) := by decide +kernel
theorem dX4_overfills_6 : decode cX4_overfills 6 = .ok (.iconst 1, 1) := by decide +kernel
theorem dX4_overfills_7 : decode cX4_overfills 7 = .ok (.if_icmp .ne 25, 3) := by decide +kernel
theorem dX4_overfills_10 : decode cX4_overfills 10 = .ok (.aload_n 2, 1) := by decide +kernel
theorem dX4_overfills_11 : decode cX4_overfills 11 = .ok (.aload_n 0, 1) := by decide +kernel
theorem dX4_overfills_12 : decode cX4_overfills 12 = .ok (.iload_n 1, 1) := by decide +kernel
theorem dX4_overfills_13 : decode cX4_overfills 13 = .ok (.iconst 3, 1) := by decide +kernel
theorem dX4_overfills_14 : decode cX4_overfills 14 = .ok (.invokevirtual 23, 3) := by decide +kernel
theorem dX4_overfills_17 : decode cX4_overfills 17 = .ok (.invokevirtual 43, 3) := by decide +kernel
theorem dX4_overfills_20 : decode cX4_overfills 20 = .ok (.invokestatic 57, 3) := by decide +kernel
theorem dX4_overfills_23 : decode cX4_overfills 23 = .ok (.bipush 10, 2) := by decide +kernel
theorem dX4_overfills_25 : decode cX4_overfills 25 = .ok (.if_icmp .lt 7, 3) := by decide +kernel
theorem dX4_overfills_28 : decode cX4_overfills 28 = .ok (.iconst 1, 1) := by decide +kernel
theorem dX4_overfills_29 : decode cX4_overfills 29 = .ok (.goto 4, 3) := by decide +kernel
theorem dX4_overfills_32 : decode cX4_overfills 32 = .ok (.iconst 0, 1) := by decide +kernel
theorem dX4_overfills_33 : decode cX4_overfills 33 = .ok (.ireturn, 1) := by decide +kernel
theorem dX4_apply_0 : decode cX4_apply 0 = .ok (.aload_n 0, 1) := by decide +kernel
theorem dX4_apply_1 : decode cX4_apply 1 = .ok (.iload_n 1, 1) := by decide +kernel
theorem dX4_apply_2 : decode cX4_apply 2 = .ok (.iconst 2, 1) := by decide +kernel
theorem dX4_apply_3 : decode cX4_apply 3 = .ok (.invokevirtual 23, 3) := by decide +kernel
theorem dX4_apply_6 : decode cX4_apply 6 = .ok (.istore_n 3, 1) := by decide +kernel
theorem dX4_apply_7 : decode cX4_apply 7 = .ok (.aload_n 0, 1) := by decide +kernel
theorem dX4_apply_8 : decode cX4_apply 8 = .ok (.iload_n 1, 1) := by decide +kernel
theorem dX4_apply_9 : decode cX4_apply 9 = .ok (.iconst 3, 1) := by decide +kernel
theorem dX4_apply_10 : decode cX4_apply 10 = .ok (.invokevirtual 23, 3) := by decide +kernel
theorem dX4_apply_13 : decode cX4_apply 13 = .ok (.istore 4, 2) := by decide +kernel
theorem dX4_apply_15 : decode cX4_apply 15 = .ok (.aload_n 0, 1) := by decide +kernel
theorem dX4_apply_16 : decode cX4_apply 16 = .ok (.iload_n 1, 1) := by decide +kernel
theorem dX4_apply_17 : decode cX4_apply 17 = .ok (.iconst 4, 1) := by decide +kernel
theorem dX4_apply_18 : decode cX4_apply 18 = .ok (.invokevirtual 23, 3) := by decide +kernel
theorem dX4_apply_21 : decode cX4_apply 21 = .ok (.istore 5, 2) := by decide +kernel
theorem dX4_apply_23 : decode cX4_apply 23 = .ok (.iconst 0, 1) := by decide +kernel
theorem dX4_apply_24 : decode cX4_apply 24 = .ok (.istore 6, 2) := by decide +kernel
theorem dX4_apply_26 : decode cX4_apply 26 = .ok (.iload_n 3, 1) := by decide +kernel
theorem dX4_apply_27 : decode cX4_apply 27 = .ok (.iconst 1, 1) := by decide +kernel
theorem dX4_apply_28 : decode cX4_apply 28 = .ok (.if_icmp .ne 23, 3) := by decide +kernel
theorem dX4_apply_31 : decode cX4_apply 31 = .ok (.aload_n 2, 1) := by decide +kernel
theorem dX4_apply_32 : decode cX4_apply 32 = .ok (.iload 4, 2) := by decide +kernel
theorem dX4_apply_34 : decode cX4_apply 34 = .ok (.aload_n 2, 1) := by decide +kernel
theorem dX4_apply_35 : decode cX4_apply 35 = .ok (.iload 4, 2) := by decide +kernel
theorem dX4_apply_37 : decode cX4_apply 37 = .ok (.invokevirtual 43, 3) := by decide +kernel
theorem dX4_apply_40 : decode cX4_apply 40 = .ok (.iload 5, 2) := by decide +kernel
theorem dX4_apply_42 : decode cX4_apply 42 = .ok (.invokestatic 61, 3) := by decide +kernel
theorem dX4_apply_45 : decode cX4_apply 45 = .ok (.invokevirtual 65, 3) := by decide +kernel
theorem dX4_apply_48 : decode cX4_apply 48 = .ok (.goto 38, 3) := by decide +kernel
theorem dX4_apply_51 : decode cX4_apply 51 = .ok (.iload_n 3, 1) := by decide +kernel
theorem dX4_apply_52 : decode cX4_apply 52 = .ok (.iconst 2, 1) := by decide +kernel
theorem dX4_apply_53 : decode cX4_apply 53 = .ok (.if_icmp .ne 33, 3) := by decide +kernel
theorem dX4_apply_56 : decode cX4_apply 56 = .ok (.aload_n 2, 1) := by decide +kernel
theorem dX4_apply_57 : decode cX4_apply 57 = .ok (.iload 4, 2) := by decide +kernel
theorem dX4_apply_59 : decode cX4_apply 59 = .ok (.invokevirtual 43, 3) := by decide +kernel
theorem dX4_apply_62 : decode cX4_apply 62 = .ok (.iload 5, 2) := by decide +kernel
theorem dX4_apply_64 : decode cX4_apply 64 = .ok (.invokestatic 47, 3) := by decide +kernel
theorem dX4_apply_67 : decode cX4_apply 67 = .ok (.istore 6, 2) := by decide +kernel
theorem dX4_apply_69 : decode cX4_apply 69 = .ok (.aload_n 2, 1) := by decide +kernel
theorem dX4_apply_70 : decode cX4_apply 70 = .ok (.iload 4, 2) := by decide +kernel
theorem dX4_apply_72 : decode cX4_apply 72 = .ok (.aload_n 2, 1) := by decide +kernel
theorem dX4_apply_73 : decode cX4_apply 73 = .ok (.iload 4, 2) := by decide +kernel
theorem dX4_apply_75 : decode cX4_apply 75 = .ok (.invokevirtual 43, 3) := by decide +kernel
theorem dX4_apply_78 : decode cX4_apply 78 = .ok (.iload 6, 2) := by decide +kernel
theorem dX4_apply_80 : decode cX4_apply 80 = .ok (.invokestatic 69, 3) := by decide +kernel
theorem dX4_apply_83 : decode cX4_apply 83 = .ok (.invokevirtual 65, 3) := by decide +kernel
theorem dX4_apply_86 : decode cX4_apply 86 = .ok (.aload_n 2, 1) := by decide +kernel
theorem dX4_apply_87 : decode cX4_apply 87 = .ok (.aload_n 0, 1) := by decide +kernel
theorem dX4_apply_88 : decode cX4_apply 88 = .ok (.iload_n 1, 1) := by decide +kernel
theorem dX4_apply_89 : decode cX4_apply 89 = .ok (.iconst 1, 1) := by decide +kernel
theorem dX4_apply_90 : decode cX4_apply 90 = .ok (.invokevirtual 23, 3) := by decide +kernel
theorem dX4_apply_93 : decode cX4_apply 93 = .ok (.putfield 38, 3) := by decide +kernel
theorem dX4_apply_96 : decode cX4_apply 96 = .ok (.iload 6, 2) := by decide +kernel
theorem dX4_apply_98 : decode cX4_apply 98 = .ok (.ireturn, 1) := by decide +kernel
theorem dX4_leadsTo_0 : decode cX4_leadsTo 0 = .ok (.aload_n 0, 1) := by decide +kernel
theorem dX4_leadsTo_1 : decode cX4_leadsTo 1 = .ok (.iload_n 1, 1) := by decide +kernel
theorem dX4_leadsTo_2 : decode cX4_leadsTo 2 = .ok (.iconst 1, 1) := by decide +kernel
theorem dX4_leadsTo_3 : decode cX4_leadsTo 3 = .ok (.invokevirtual 23, 3) := by decide +kernel
theorem dX4_leadsTo_6 : decode cX4_leadsTo 6 = .ok (.iload_n 2, 1) := by decide +kernel
theorem dX4_leadsTo_7 : decode cX4_leadsTo 7 = .ok (.if_icmp .ne 7, 3) := by decide +kernel
theorem dX4_leadsTo_10 : decode cX4_leadsTo 10 = .ok (.iconst 1, 1) := by decide +kernel
theorem dX4_leadsTo_11 : decode cX4_leadsTo 11 = .ok (.goto 4, 3) := by decide +kernel
theorem dX4_leadsTo_14 : decode cX4_leadsTo 14 = .ok (.iconst 0, 1) := by decide +kernel
theorem dX4_leadsTo_15 : decode cX4_leadsTo 15 = .ok (.ireturn, 1) := by decide +kernel
theorem dX4_applyBackwards_0 : decode cX4_applyBackwards 0 = .ok (.aload_n 0, 1) := by decide +kernel
theorem dX4_applyBackwards_1 : decode cX4_applyBackwards 1 = .ok (.iload_n 1, 1) := by decide +kernel
theorem dX4_applyBackwards_2 : decode cX4_applyBackwards 2 = .ok (.iconst 2, 1) := by decide +kernel
theorem dX4_applyBackwards_3 : decode cX4_applyBackwards 3 = .ok (.invokevirtual 23, 3) := by decide +kernel
theorem dX4_applyBackwards_6 : decode cX4_applyBackwards 6 = .ok (.istore_n 3, 1) := by decide +kernel
theorem dX4_applyBackwards_7 : decode cX4_applyBackwards 7 = .ok (.aload_n 0, 1) := by decide +kernel
theorem dX4_applyBackwards_8 : decode cX4_applyBackwards 8 = .ok (.iload_n 1, 1) := by decide +kernel
theorem dX4_applyBackwards_9 : decode cX4_applyBackwards 9 = .ok (.iconst 3, 1) := by decide +kernel
theorem dX4_applyBackwards_10 : decode cX4_applyBackwards 10 = .ok (.invokevirtual 23, 3) := by decide +kernel
theorem dX4_applyBackwards_13 : decode cX4_applyBackwards 13 = .ok (.istore 4, 2) := by decide +kernel
theorem dX4_applyBackwards_15 : decode cX4_applyBackwards 15 = .ok (.aload_n 0, 1) := by decide +kernel
theorem dX4_applyBackwards_16 : decode cX4_applyBackwards 16 = .ok (.iload_n 1, 1) := by decide +kernel
theorem dX4_applyBackwards_17 : decode cX4_applyBackwards 17 = .ok (.iconst 4, 1) := by decide +kernel
theorem dX4_applyBackwards_18 : decode cX4_applyBackwards 18 = .ok (.invokevirtual 23, 3) := by decide +kernel
theorem dX4_applyBackwards_21 : decode cX4_applyBackwards 21 = .ok (.istore 5, 2) := by decide +kernel
theorem dX4_applyBackwards_23 : decode cX4_applyBackwards 23 = .ok (.iload_n 3, 1) := by decide +kernel
theorem dX4_applyBackwards_24 : decode cX4_applyBackwards 24 = .ok (.iconst 2, 1) := by decide +kernel
theorem dX4_applyBackwards_25 : decode cX4_applyBackwards 25 = .ok (.if_icmp .ne 23, 3) := by decide +kernel
theorem dX4_applyBackwards_28 : decode cX4_applyBackwards 28 = .ok (.aload_n 2, 1) := by decide +kernel
theorem dX4_applyBackwards_29 : decode cX4_applyBackwards 29 = .ok (.iload 4, 2) := by decide +kernel
theorem dX4_applyBackwards_31 : decode cX4_applyBackwards 31 = .ok (.iload 5, 2) := by decide +kernel
theorem dX4_applyBackwards_33 : decode cX4_applyBackwards 33 = .ok (.aload_n 2, 1) := by decide +kernel
theorem dX4_applyBackwards_34 : decode cX4_applyBackwards 34 = .ok (.iload 4, 2) := by decide +kernel
theorem dX4_applyBackwards_36 : decode cX4_applyBackwards 36 = .ok (.invokevirtual 43, 3) := by decide +kernel
theorem dX4_applyBackwards_39 : decode cX4_applyBackwards 39 = .ok (.invokestatic 72, 3) := by decide +kernel
theorem dX4_applyBackwards_42 : decode cX4_applyBackwards 42 = .ok (.invokevirtual 65, 3) := by decide +kernel
theorem dX4_applyBackwards_45 : decode cX4_applyBackwards 45 = .ok (.goto 37, 3) := by decide +kernel
theorem dX4_applyBackwards_48 : decode cX4_applyBackwards 48 = .ok (.iload_n 3, 1) := by decide +kernel
theorem dX4_applyBackwards_49 : decode cX4_applyBackwards 49 = .ok (.iconst 1, 1) := by decide +kernel
theorem dX4_applyBackwards_50 : decode cX4_applyBackwards 50 = .ok (.if_icmp .ne 32, 3) := by decide +kernel
theorem dX4_applyBackwards_53 : decode cX4_applyBackwards 53 = .ok (.aload_n 2, 1) := by decide +kernel
theorem dX4_applyBackwards_54 : decode cX4_applyBackwards 54 = .ok (.iload 4, 2) := by decide +kernel
theorem dX4_applyBackwards_56 : decode cX4_applyBackwards 56 = .ok (.invokevirtual 43, 3) := by decide +kernel
theorem dX4_applyBackwards_59 : decode cX4_applyBackwards 59 = .ok (.iload 5, 2) := by decide +kernel
theorem dX4_applyBackwards_61 : decode cX4_applyBackwards 61 = .ok (.invokestatic 76, 3) := by decide +kernel
theorem dX4_applyBackwards_64 : decode cX4_applyBackwards 64 = .ok (.ifCond .eq 18, 3) := by decide +kernel
theorem dX4_applyBackwards_67 : decode cX4_applyBackwards 67 = .ok (.aload_n 2, 1) := by decide +kernel
theorem dX4_applyBackwards_68 : decode cX4_applyBackwards 68 = .ok (.iload 4, 2) := by decide +kernel
theorem dX4_applyBackwards_70 : decode cX4_applyBackwards 70 = .ok (.aload_n 2, 1) := by decide +kernel
theorem dX4_applyBackwards_71 : decode cX4_applyBackwards 71 = .ok (.iload 4, 2) := by decide +kernel
theorem dX4_applyBackwards_73 : decode cX4_applyBackwards 73 = .ok (.invokevirtual 43, 3) := by decide +kernel
theorem dX4_applyBackwards_76 : decode cX4_applyBackwards 76 = .ok (.invokestatic 80, 3) := by decide +kernel
theorem dX4_applyBackwards_79 : decode cX4_applyBackwards 79 = .ok (.invokevirtual 65, 3) := by decide +kernel
theorem dX4_applyBackwards_82 : decode cX4_applyBackwards 82 = .ok (.aload_n 2, 1) := by decide +kernel
theorem dX4_applyBackwards_83 : decode cX4_applyBackwards 83 = .ok (.aload_n 0, 1) := by decide +kernel
theorem dX4_applyBackwards_84 : decode cX4_applyBackwards 84 = .ok (.iload_n 1, 1) := by decide +kernel
theorem dX4_applyBackwards_85 : decode cX4_applyBackwards 85 = .ok (.iconst 0, 1) := by decide +kernel
theorem dX4_applyBackwards_86 : decode cX4_applyBackwards 86 = .ok (.invokevirtual 23, 3) := by decide +kernel
theorem dX4_applyBackwards_89 : decode cX4_applyBackwards 89 = .ok (.putfield 38, 3) := by decide +kernel
theorem dX4_applyBackwards_92 : decode cX4_applyBackwards 92 = .ok (.return_, 1) := by decide +kernel
theorem dX5_init_0 : decode cX5_init 0 = .ok (.aload_n 0, 1) := by decide +kernel
theorem dX5_init_1 : decode cX5_init 1 = .ok (.invokespecial 3, 3) := by decide +kernel
theorem dX5_init_4 : decode cX5_init 4 = .ok (.aload_n 0, 1) := by decide +kernel
theorem dX5_init_5 : decode cX5_init 5 = .ok (.new 9, 3) := by decide +kernel
theorem dX5_init_8 : decode cX5_init 8 = .ok (.dup, 1) := by decide +kernel
theorem dX5_init_9 : decode cX5_init 9 = .ok (.invokespecial 11, 3) := by decide +kernel
theorem dX5_init_12 : decode cX5_init 12 = .ok (.putfield 12, 3) := by decide +kernel
theorem dX5_init_15 : decode cX5_init 15 = .ok (.aload_n 0, 1) := by decide +kernel
theorem dX5_init_16 : decode cX5_init 16 = .ok (.new 18, 3) := by decide +kernel
theorem dX5_init_19 : decode cX5_init 19 = .ok (.dup, 1) := by decide +kernel
theorem dX5_init_20 : decode cX5_init 20 = .ok (.sipush 1000, 3) := by decide +kernel
theorem dX5_init_23 : decode cX5_init 23 = .ok (.invokespecial 20, 3) := by decide +kernel
theorem dX5_init_26 : decode cX5_init 26 = .ok (.putfield 23, 3) := by decide +kernel
theorem dX5_init_29 : decode cX5_init 29 = .ok (.aload_n 0, 1) := by decide +kernel
theorem dX5_init_30 : decode cX5_init 30 = .ok (.new 18, 3) := by decide +kernel
theorem dX5_init_33 : decode cX5_init 33 = .ok (.dup, 1) := by decide +kernel
theorem dX5_init_34 : decode cX5_init 34 = .ok (.sipush 1000, 3) := by decide +kernel
theorem dX5_init_37 : decode cX5_init 37 = .ok (.invokespecial 20, 3) := by decide +kernel
theorem dX5_init_40 : decode cX5_init 40 = .ok (.putfield 27, 3) := by decide +kernel
theorem dX5_init_43 : decode cX5_init 43 = .ok (.return_, 1) := by decide +kernel
theorem dX5_lastFirings_0 : decode cX5_lastFirings 0 = .ok (.aload_n 0, 1) := by decide +kernel
theorem dX5_lastFirings_1 : decode cX5_lastFirings 1 = .ok (.getfield 23, 3) := by decide +kernel
theorem dX5_lastFirings_4 : decode cX5_lastFirings 4 = .ok (.invokevirtual 30, 3) := by decide +kernel
theorem dX5_lastFirings_7 : decode cX5_lastFirings 7 = .ok (.aload_n 0, 1) := by decide +kernel
theorem dX5_lastFirings_8 : decode cX5_lastFirings 8 = .ok (.getfield 23, 3) := by decide +kernel
theorem dX5_lastFirings_11 : decode cX5_lastFirings 11 = .ok (.aload_n 2, 1) := by decide +kernel
theorem dX5_lastFirings_12 : decode cX5_lastFirings 12 = .ok (.invokevirtual 33, 3) := by decide +kernel
theorem dX5_lastFirings_15 : decode cX5_lastFirings 15 = .ok (.iconst 1, 1) := by decide +kernel
theorem dX5_lastFirings_16 : decode cX5_lastFirings 16 = .ok (.istore 4, 2) := by decide +kernel
theorem dX5_lastFirings_18 : decode cX5_lastFirings 18 = .ok (.iload 4, 2) := by decide +kernel
theorem dX5_lastFirings_20 : decode cX5_lastFirings 20 = .ok (.iload_n 3, 1) := by decide +kernel
theorem dX5_lastFirings_21 : decode cX5_lastFirings 21 = .ok (.if_icmp .ge 20, 3) := by decide +kernel
theorem dX5_lastFirings_24 : decode cX5_lastFirings 24 = .ok (.iload 4, 2) := by decide +kernel
theorem dX5_lastFirings_26 : decode cX5_lastFirings 26 = .ok (.iconst 4, 1) := by decide +kernel
theorem dX5_lastFirings_27 : decode cX5_lastFirings 27 = .ok (.if_icmp .ge 14, 3) := by decide +kernel
theorem dX5_lastFirings_30 : decode cX5_lastFirings 30 = .ok (.aload_n 0, 1) := by decide +kernel
theorem dX5_lastFirings_31 : decode cX5_lastFirings 31 = .ok (.aload_n 1, 1) := by decide +kernel
theorem dX5_lastFirings_32 : decode cX5_lastFirings 32 = .ok (.invokevirtual 37, 3) := by decide +kernel
theorem dX5_lastFirings_35 : decode cX5_lastFirings 35 = .ok (.iinc 4 1, 3) := by decide +kernel
theorem dX5_lastFirings_38 : decode cX5_lastFirings 38 = .ok (.goto (-20), 3) := by decide +kernel
theorem dX5_lastFirings_41 : decode cX5_lastFirings 41 = .ok (.iconst 0, 1) := by decide +kernel
theorem dX5_lastFirings_42 : decode cX5_lastFirings 42 = .ok (.istore 4, 2) := by decide +kernel
theorem dX5_lastFirings_44 : decode cX5_lastFirings 44 = .ok (.iconst 0, 1) := by decide +kernel
theorem dX5_lastFirings_45 : decode cX5_lastFirings 45 = .ok (.istore 5, 2) := by decide +kernel
theorem dX5_lastFirings_47 : decode cX5_lastFirings 47 = .ok (.iload 5, 2) := by decide +kernel
theorem dX5_lastFirings_49 : decode cX5_lastFirings 49 = .ok (.aload_n 0, 1) := by decide +kernel
theorem dX5_lastFirings_50 : decode cX5_lastFirings 50 = .ok (.getfield 23, 3) := by decide +kernel
theorem dX5_lastFirings_53 : decode cX5_lastFirings 53 = .ok (.invokevirtual 41, 3) := by decide +kernel
theorem dX5_lastFirings_56 : decode cX5_lastFirings 56 = .ok (.if_icmp .ge 36, 3) := by decide +kernel
theorem dX5_lastFirings_59 : decode cX5_lastFirings 59 = .ok (.aload_n 0, 1) := by decide +kernel
theorem dX5_lastFirings_60 : decode cX5_lastFirings 60 = .ok (.getfield 23, 3) := by decide +kernel
theorem dX5_lastFirings_63 : decode cX5_lastFirings 63 = .ok (.iload 5, 2) := by decide +kernel
theorem dX5_lastFirings_65 : decode cX5_lastFirings 65 = .ok (.aload_n 0, 1) := by decide +kernel
theorem dX5_lastFirings_66 : decode cX5_lastFirings 66 = .ok (.getfield 12, 3) := by decide +kernel
theorem dX5_lastFirings_69 : decode cX5_lastFirings 69 = .ok (.invokevirtual 45, 3) := by decide +kernel
theorem dX5_lastFirings_72 : decode cX5_lastFirings 72 = .ok (.iload 4, 2) := by decide +kernel
theorem dX5_lastFirings_74 : decode cX5_lastFirings 74 = .ok (.aload_n 1, 1) := by decide +kernel
theorem dX5_lastFirings_75 : decode cX5_lastFirings 75 = .ok (.aload_n 0, 1) := by decide +kernel
theorem dX5_lastFirings_76 : decode cX5_lastFirings 76 = .ok (.getfield 12, 3) := by decide +kernel
theorem dX5_lastFirings_79 : decode cX5_lastFirings 79 = .ok (.iconst 1, 1) := by decide +kernel
theorem dX5_lastFirings_80 : decode cX5_lastFirings 80 = .ok (.invokevirtual 49, 3) := by decide +kernel
theorem dX5_lastFirings_83 : decode cX5_lastFirings 83 = .ok (.ior, 1) := by decide +kernel
theorem dX5_lastFirings_84 : decode cX5_lastFirings 84 = .ok (.istore 4, 2) := by decide +kernel
theorem dX5_lastFirings_86 : decode cX5_lastFirings 86 = .ok (.iinc 5 1, 3) := by decide +kernel
theorem dX5_lastFirings_89 : decode cX5_lastFirings 89 = .ok (.goto (-42), 3) := by decide +kernel
theorem dX5_lastFirings_92 : decode cX5_lastFirings 92 = .ok (.iload 4, 2) := by decide +kernel
theorem dX5_lastFirings_94 : decode cX5_lastFirings 94 = .ok (.ireturn, 1) := by decide +kernel
theorem dX5_fireAll_0 : decode cX5_fireAll 0 = .ok (.aload_n 0, 1) := by decide +kernel
theorem dX5_fireAll_1 : decode cX5_fireAll 1 = .ok (.getfield 27, 3) := by decide +kernel
theorem dX5_fireAll_4 : decode cX5_fireAll 4 = .ok (.invokevirtual 30, 3) := by decide +kernel
theorem dX5_fireAll_7 : decode cX5_fireAll 7 = .ok (.iconst 0, 1) := by decide +kernel
theorem dX5_fireAll_8 : decode cX5_fireAll 8 = .ok (.istore_n 2, 1) := by decide +kernel
theorem dX5_fireAll_9 : decode cX5_fireAll 9 = .ok (.iload_n 2, 1) := by decide +kernel
theorem dX5_fireAll_10 : decode cX5_fireAll 10 = .ok (.aload_n 0, 1) := by decide +kernel
theorem dX5_fireAll_11 : decode cX5_fireAll 11 = .ok (.getfield 23, 3) := by decide +kernel
theorem dX5_fireAll_14 : decode cX5_fireAll 14 = .ok (.invokevirtual 41, 3) := by decide +kernel
theorem dX5_fireAll_17 : decode cX5_fireAll 17 = .ok (.if_icmp .ge 71, 3) := by decide +kernel
theorem dX5_fireAll_20 : decode cX5_fireAll 20 = .ok (.iconst 0, 1) := by decide +kernel
theorem dX5_fireAll_21 : decode cX5_fireAll 21 = .ok (.istore_n 3, 1) := by decide +kernel
theorem dX5_fireAll_22 : decode cX5_fireAll 22 = .ok (.iload_n 3, 1) := by decide +kernel
theorem dX5_fireAll_23 : decode cX5_fireAll 23 = .ok (.aload_n 1, 1) := by decide +kernel
theorem dX5_fireAll_24 : decode cX5_fireAll 24 = .ok (.invokevirtual 55, 3) := by decide +kernel
theorem dX5_fireAll_27 : decode cX5_fireAll 27 = .ok (.if_icmp .ge 55, 3) := by decide +kernel
theorem dX5_fireAll_30 : decode cX5_fireAll 30 = .ok (.aload_n 0, 1) := by decide +kernel
theorem dX5_fireAll_31 : decode cX5_fireAll 31 = .ok (.getfield 23, 3) := by decide +kernel
theorem dX5_fireAll_34 : decode cX5_fireAll 34 = .ok (.iload_n 2, 1) := by decide +kernel
theorem dX5_fireAll_35 : decode cX5_fireAll 35 = .ok (.aload_n 0, 1) := by decide +kernel
theorem dX5_fireAll_36 : decode cX5_fireAll 36 = .ok (.getfield 12, 3) := by decide +kernel
theorem dX5_fireAll_39 : decode cX5_fireAll 39 = .ok (.invokevirtual 45, 3) := by decide +kernel
theorem dX5_fireAll_42 : decode cX5_fireAll 42 = .ok (.aload_n 1, 1) := by decide +kernel
theorem dX5_fireAll_43 : decode cX5_fireAll 43 = .ok (.iload_n 3, 1) := by decide +kernel
theorem dX5_fireAll_44 : decode cX5_fireAll 44 = .ok (.aload_n 0, 1) := by decide +kernel
theorem dX5_fireAll_45 : decode cX5_fireAll 45 = .ok (.getfield 12, 3) := by decide +kernel
theorem dX5_fireAll_48 : decode cX5_fireAll 48 = .ok (.iconst 1, 1) := by decide +kernel
theorem dX5_fireAll_49 : decode cX5_fireAll 49 = .ok (.invokevirtual 58, 3) := by decide +kernel
theorem dX5_fireAll_52 : decode cX5_fireAll 52 = .ok (.ifCond .eq 24, 3) := by decide +kernel
theorem dX5_fireAll_55 : decode cX5_fireAll 55 = .ok (.aload_n 1, 1) := by decide +kernel
theorem dX5_fireAll_56 : decode cX5_fireAll 56 = .ok (.iload_n 3, 1) := by decide +kernel
theorem dX5_fireAll_57 : decode cX5_fireAll 57 = .ok (.aload_n 0, 1) := by decide +kernel
theorem dX5_fireAll_58 : decode cX5_fireAll 58 = .ok (.getfield 12, 3) := by decide +kernel
theorem dX5_fireAll_61 : decode cX5_fireAll 61 = .ok (.invokevirtual 62, 3) := by decide +kernel
theorem dX5_fireAll_64 : decode cX5_fireAll 64 = .ok (.pop, 1) := by decide +kernel
theorem dX5_fireAll_65 : decode cX5_fireAll 65 = .ok (.aload_n 0, 1) := by decide +kernel
theorem dX5_fireAll_66 : decode cX5_fireAll 66 = .ok (.getfield 27, 3) := by decide +kernel
theorem dX5_fireAll_69 : decode cX5_fireAll 69 = .ok (.aload_n 0, 1) := by decide +kernel
theorem dX5_fireAll_70 : decode cX5_fireAll 70 = .ok (.getfield 12, 3) := by decide +kernel
theorem dX5_fireAll_73 : decode cX5_fireAll 73 = .ok (.invokevirtual 33, 3) := by decide +kernel
theorem dX5_fireAll_76 : decode cX5_fireAll 76 = .ok (.iinc 3 1, 3) := by decide +kernel
theorem dX5_fireAll_79 : decode cX5_fireAll 79 = .ok (.goto (-57), 3) := by decide +kernel
theorem dX5_fireAll_82 : decode cX5_fireAll 82 = .ok (.iinc 2 1, 3) := by decide +kernel
theorem dX5_fireAll_85 : decode cX5_fireAll 85 = .ok (.goto (-76), 3) := by decide +kernel
theorem dX5_fireAll_88 : decode cX5_fireAll 88 = .ok (.aload_n 0, 1) := by decide +kernel
theorem dX5_fireAll_89 : decode cX5_fireAll 89 = .ok (.getfield 23, 3) := by decide +kernel
theorem dX5_fireAll_92 : decode cX5_fireAll 92 = .ok (.astore_n 2, 1) := by decide +kernel
theorem dX5_fireAll_93 : decode cX5_fireAll 93 = .ok (.aload_n 0, 1) := by decide +kernel
theorem dX5_fireAll_94 : decode cX5_fireAll 94 = .ok (.aload_n 0, 1) := by decide +kernel
theorem dX5_fireAll_95 : decode cX5_fireAll 95 = .ok (.getfield 27, 3) := by decide +kernel
theorem dX5_fireAll_98 : decode cX5_fireAll 98 = .ok (.putfield 23, 3) := by decide +kernel
theorem dX5_fireAll_101 : decode cX5_fireAll 101 = .ok (.aload_n 0, 1) := by decide +kernel
theorem dX5_fireAll_102 : decode cX5_fireAll 102 = .ok (.aload_n 2, 1) := by decide +kernel
theorem dX5_fireAll_103 : decode cX5_fireAll 103 = .ok (.putfield 27, 3) := by decide +kernel
theorem dX5_fireAll_106 : decode cX5_fireAll 106 = .ok (.return_, 1) := by decide +kernel
theorem dX6_init_0 : decode cX6_init 0 = .ok (.aload_n 0, 1) := by decide +kernel
theorem dX6_init_1 : decode cX6_init 1 = .ok (.invokespecial 3, 3) := by decide +kernel
theorem dX6_init_4 : decode cX6_init 4 = .ok (.aload_n 0, 1) := by decide +kernel
theorem dX6_init_5 : decode cX6_init 5 = .ok (.new 9, 3) := by decide +kernel
theorem dX6_init_8 : decode cX6_init 8 = .ok (.dup, 1) := by decide +kernel
theorem dX6_init_9 : decode cX6_init 9 = .ok (.invokespecial 11, 3) := by decide +kernel
theorem dX6_init_12 : decode cX6_init 12 = .ok (.putfield 12, 3) := by decide +kernel
theorem dX6_init_15 : decode cX6_init 15 = .ok (.aload_n 0, 1) := by decide +kernel
theorem dX6_init_16 : decode cX6_init 16 = .ok (.new 18, 3) := by decide +kernel
theorem dX6_init_19 : decode cX6_init 19 = .ok (.dup, 1) := by decide +kernel
theorem dX6_init_20 : decode cX6_init 20 = .ok (.invokespecial 20, 3) := by decide +kernel
theorem dX6_init_23 : decode cX6_init 23 = .ok (.putfield 21, 3) := by decide +kernel
theorem dX6_init_26 : decode cX6_init 26 = .ok (.aload_n 0, 1) := by decide +kernel
theorem dX6_init_27 : decode cX6_init 27 = .ok (.new 25, 3) := by decide +kernel
theorem dX6_init_30 : decode cX6_init 30 = .ok (.dup, 1) := by decide +kernel
theorem dX6_init_31 : decode cX6_init 31 = .ok (.iconst 3, 1) := by decide +kernel
theorem dX6_init_32 : decode cX6_init 32 = .ok (.invokespecial 27, 3) := by decide +kernel
theorem dX6_init_35 : decode cX6_init 35 = .ok (.putfield 30, 3) := by decide +kernel
theorem dX6_init_38 : decode cX6_init 38 = .ok (.aload_n 0, 1) := by decide +kernel
theorem dX6_init_39 : decode cX6_init 39 = .ok (.iconst 0, 1) := by decide +kernel
theorem dX6_init_40 : decode cX6_init 40 = .ok (.putfield 34, 3) := by decide +kernel
theorem dX6_init_43 : decode cX6_init 43 = .ok (.return_, 1) := by decide +kernel
theorem dX6_isTaken_0 : decode cX6_isTaken 0 = .ok (.aload_n 0, 1) := by decide +kernel
theorem dX6_isTaken_1 : decode cX6_isTaken 1 = .ok (.getfield 34, 3) := by decide +kernel
theorem dX6_isTaken_4 : decode cX6_isTaken 4 = .ok (.ireturn, 1) := by decide +kernel
theorem dX6_take_0 : decode cX6_take 0 = .ok (.aload_n 0, 1) := by decide +kernel
theorem dX6_take_1 : decode cX6_take 1 = .ok (.getfield 12, 3) := by decide +kernel
theorem dX6_take_4 : decode cX6_take 4 = .ok (.aload_n 1, 1) := by decide +kernel
theorem dX6_take_5 : decode cX6_take 5 = .ok (.invokevirtual 38, 3) := by decide +kernel
theorem dX6_take_8 : decode cX6_take 8 = .ok (.aload_n 0, 1) := by decide +kernel
theorem dX6_take_9 : decode cX6_take 9 = .ok (.getfield 21, 3) := by decide +kernel
theorem dX6_take_12 : decode cX6_take 12 = .ok (.aload_n 2, 1) := by decide +kernel
theorem dX6_take_13 : decode cX6_take 13 = .ok (.invokevirtual 42, 3) := by decide +kernel
theorem dX6_take_16 : decode cX6_take 16 = .ok (.aload_n 0, 1) := by decide +kernel
theorem dX6_take_17 : decode cX6_take 17 = .ok (.getfield 30, 3) := by decide +kernel
theorem dX6_take_20 : decode cX6_take 20 = .ok (.aload_n 3, 1) := by decide +kernel
theorem dX6_take_21 : decode cX6_take 21 = .ok (.invokevirtual 45, 3) := by decide +kernel
theorem dX6_take_24 : decode cX6_take 24 = .ok (.aload_n 0, 1) := by decide +kernel
theorem dX6_take_25 : decode cX6_take 25 = .ok (.iconst 1, 1) := by decide +kernel
theorem dX6_take_26 : decode cX6_take 26 = .ok (.putfield 34, 3) := by decide +kernel
theorem dX6_take_29 : decode cX6_take 29 = .ok (.return_, 1) := by decide +kernel
theorem dX6_putBack_0 : decode cX6_putBack 0 = .ok (.aload_n 1, 1) := by decide +kernel
theorem dX6_putBack_1 : decode cX6_putBack 1 = .ok (.aload_n 0, 1) := by decide +kernel
theorem dX6_putBack_2 : decode cX6_putBack 2 = .ok (.getfield 12, 3) := by decide +kernel
theorem dX6_putBack_5 : decode cX6_putBack 5 = .ok (.invokevirtual 38, 3) := by decide +kernel
theorem dX6_putBack_8 : decode cX6_putBack 8 = .ok (.aload_n 2, 1) := by decide +kernel
theorem dX6_putBack_9 : decode cX6_putBack 9 = .ok (.aload_n 0, 1) := by decide +kernel
theorem dX6_putBack_10 : decode cX6_putBack 10 = .ok (.getfield 21, 3) := by decide +kernel
theorem dX6_putBack_13 : decode cX6_putBack 13 = .ok (.invokevirtual 42, 3) := by decide +kernel
theorem dX6_putBack_16 : decode cX6_putBack 16 = .ok (.aload_n 3, 1) := by decide +kernel
theorem dX6_putBack_17 : decode cX6_putBack 17 = .ok (.aload_n 0, 1) := by decide +kernel
theorem dX6_putBack_18 : decode cX6_putBack 18 = .ok (.getfield 30, 3) := by decide +kernel
theorem dX6_putBack_21 : decode cX6_putBack 21 = .ok (.invokevirtual 45, 3) := by decide +kernel
theorem dX6_putBack_24 : decode cX6_putBack 24 = .ok (.return_, 1) := by decide +kernel
