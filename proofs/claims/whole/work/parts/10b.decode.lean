theorem dX7_init_0 : decode cX7_init 0 = .ok (.aload_n 0, 1) := by decide +kernel
theorem dX7_init_1 : decode cX7_init 1 = .ok (.invokespecial 3, 3) := by decide +kernel
theorem dX7_init_4 : decode cX7_init 4 = .ok (.aload_n 0, 1) := by decide +kernel
theorem dX7_init_5 : decode cX7_init 5 = .ok (.bipush 80, 2) := by decide +kernel
theorem dX7_init_7 : decode cX7_init 7 = .ok (.newarray .char, 2) := by decide +kernel
theorem dX7_init_9 : decode cX7_init 9 = .ok (.putfield 9, 3) := by decide +kernel
theorem dX7_init_12 : decode cX7_init 12 = .ok (.aload_n 0, 1) := by decide +kernel
theorem dX7_init_13 : decode cX7_init 13 = .ok (.new 15, 3) := by decide +kernel
theorem dX7_init_16 : decode cX7_init 16 = .ok (.dup, 1) := by decide +kernel
theorem dX7_init_17 : decode cX7_init 17 = .ok (.invokespecial 17, 3) := by decide +kernel
theorem dX7_init_20 : decode cX7_init 20 = .ok (.putfield 18, 3) := by decide +kernel
theorem dX7_init_23 : decode cX7_init 23 = .ok (.aload_n 0, 1) := by decide +kernel
theorem dX7_init_24 : decode cX7_init 24 = .ok (.new 22, 3) := by decide +kernel
theorem dX7_init_27 : decode cX7_init 27 = .ok (.dup, 1) := by decide +kernel
theorem dX7_init_28 : decode cX7_init 28 = .ok (.bipush 8, 2) := by decide +kernel
theorem dX7_init_30 : decode cX7_init 30 = .ok (.invokespecial 24, 3) := by decide +kernel
theorem dX7_init_33 : decode cX7_init 33 = .ok (.putfield 27, 3) := by decide +kernel
theorem dX7_init_36 : decode cX7_init 36 = .ok (.aload_n 0, 1) := by decide +kernel
theorem dX7_init_37 : decode cX7_init 37 = .ok (.new 31, 3) := by decide +kernel
theorem dX7_init_40 : decode cX7_init 40 = .ok (.dup, 1) := by decide +kernel
theorem dX7_init_41 : decode cX7_init 41 = .ok (.invokespecial 33, 3) := by decide +kernel
theorem dX7_init_44 : decode cX7_init 44 = .ok (.putfield 34, 3) := by decide +kernel
theorem dX7_init_47 : decode cX7_init 47 = .ok (.aload_n 0, 1) := by decide +kernel
theorem dX7_init_48 : decode cX7_init 48 = .ok (.iconst 0, 1) := by decide +kernel
theorem dX7_init_49 : decode cX7_init 49 = .ok (.putfield 38, 3) := by decide +kernel
theorem dX7_init_52 : decode cX7_init 52 = .ok (.aload_n 0, 1) := by decide +kernel
theorem dX7_init_53 : decode cX7_init 53 = .ok (.iconst 0, 1) := by decide +kernel
theorem dX7_init_54 : decode cX7_init 54 = .ok (.putfield 42, 3) := by decide +kernel
theorem dX7_init_57 : decode cX7_init 57 = .ok (.aload_n 0, 1) := by decide +kernel
theorem dX7_init_58 : decode cX7_init 58 = .ok (.iconst 0, 1) := by decide +kernel
theorem dX7_init_59 : decode cX7_init 59 = .ok (.putfield 45, 3) := by decide +kernel
theorem dX7_init_62 : decode cX7_init 62 = .ok (.aload_n 0, 1) := by decide +kernel
theorem dX7_init_63 : decode cX7_init 63 = .ok (.iconst (-1), 1) := by decide +kernel
theorem dX7_init_64 : decode cX7_init 64 = .ok (.putfield 49, 3) := by decide +kernel
theorem dX7_init_67 : decode cX7_init 67 = .ok (.return_, 1) := by decide +kernel
theorem dX7_isFull_0 : decode cX7_isFull 0 = .ok (.aload_n 0, 1) := by decide +kernel
theorem dX7_isFull_1 : decode cX7_isFull 1 = .ok (.getfield 38, 3) := by decide +kernel
theorem dX7_isFull_4 : decode cX7_isFull 4 = .ok (.bipush 80, 2) := by decide +kernel
theorem dX7_isFull_6 : decode cX7_isFull 6 = .ok (.if_icmp .lt 7, 3) := by decide +kernel
theorem dX7_isFull_9 : decode cX7_isFull 9 = .ok (.iconst 1, 1) := by decide +kernel
theorem dX7_isFull_10 : decode cX7_isFull 10 = .ok (.goto 4, 3) := by decide +kernel
theorem dX7_isFull_13 : decode cX7_isFull 13 = .ok (.iconst 0, 1) := by decide +kernel
theorem dX7_isFull_14 : decode cX7_isFull 14 = .ok (.ireturn, 1) := by decide +kernel
theorem dX7_add_0 : decode cX7_add 0 = .ok (.aload_n 0, 1) := by decide +kernel
theorem dX7_add_1 : decode cX7_add 1 = .ok (.invokevirtual 52, 3) := by decide +kernel
theorem dX7_add_4 : decode cX7_add 4 = .ok (.ifCond .ne 23, 3) := by decide +kernel
theorem dX7_add_7 : decode cX7_add 7 = .ok (.aload_n 0, 1) := by decide +kernel
theorem dX7_add_8 : decode cX7_add 8 = .ok (.getfield 9, 3) := by decide +kernel
theorem dX7_add_11 : decode cX7_add 11 = .ok (.aload_n 0, 1) := by decide +kernel
theorem dX7_add_12 : decode cX7_add 12 = .ok (.getfield 38, 3) := by decide +kernel
theorem dX7_add_15 : decode cX7_add 15 = .ok (.iload_n 1, 1) := by decide +kernel
theorem dX7_add_16 : decode cX7_add 16 = .ok (.castore, 1) := by decide +kernel
theorem dX7_add_17 : decode cX7_add 17 = .ok (.aload_n 0, 1) := by decide +kernel
theorem dX7_add_18 : decode cX7_add 18 = .ok (.dup, 1) := by decide +kernel
theorem dX7_add_19 : decode cX7_add 19 = .ok (.getfield 38, 3) := by decide +kernel
theorem dX7_add_22 : decode cX7_add 22 = .ok (.iconst 1, 1) := by decide +kernel
theorem dX7_add_23 : decode cX7_add 23 = .ok (.iadd, 1) := by decide +kernel
theorem dX7_add_24 : decode cX7_add 24 = .ok (.putfield 38, 3) := by decide +kernel
theorem dX7_add_27 : decode cX7_add 27 = .ok (.return_, 1) := by decide +kernel
theorem dX7_fault_0 : decode cX7_fault 0 = .ok (.aload_n 0, 1) := by decide +kernel
theorem dX7_fault_1 : decode cX7_fault 1 = .ok (.getfield 49, 3) := by decide +kernel
theorem dX7_fault_4 : decode cX7_fault 4 = .ok (.ireturn, 1) := by decide +kernel
theorem dX7_transitions_0 : decode cX7_transitions 0 = .ok (.aload_n 0, 1) := by decide +kernel
theorem dX7_transitions_1 : decode cX7_transitions 1 = .ok (.getfield 18, 3) := by decide +kernel
theorem dX7_transitions_4 : decode cX7_transitions 4 = .ok (.areturn, 1) := by decide +kernel
theorem dX7_goals_0 : decode cX7_goals 0 = .ok (.aload_n 0, 1) := by decide +kernel
theorem dX7_goals_1 : decode cX7_goals 1 = .ok (.getfield 27, 3) := by decide +kernel
theorem dX7_goals_4 : decode cX7_goals 4 = .ok (.areturn, 1) := by decide +kernel
theorem dX7_parse_0 : decode cX7_parse 0 = .ok (.aload_n 0, 1) := by decide +kernel
theorem dX7_parse_1 : decode cX7_parse 1 = .ok (.getfield 18, 3) := by decide +kernel
theorem dX7_parse_4 : decode cX7_parse 4 = .ok (.invokevirtual 56, 3) := by decide +kernel
theorem dX7_parse_7 : decode cX7_parse 7 = .ok (.aload_n 0, 1) := by decide +kernel
theorem dX7_parse_8 : decode cX7_parse 8 = .ok (.getfield 27, 3) := by decide +kernel
theorem dX7_parse_11 : decode cX7_parse 11 = .ok (.invokevirtual 59, 3) := by decide +kernel
theorem dX7_parse_14 : decode cX7_parse 14 = .ok (.aload_n 0, 1) := by decide +kernel
theorem dX7_parse_15 : decode cX7_parse 15 = .ok (.iconst 0, 1) := by decide +kernel
theorem dX7_parse_16 : decode cX7_parse 16 = .ok (.putfield 42, 3) := by decide +kernel
theorem dX7_parse_19 : decode cX7_parse 19 = .ok (.aload_n 0, 1) := by decide +kernel
theorem dX7_parse_20 : decode cX7_parse 20 = .ok (.iconst 0, 1) := by decide +kernel
theorem dX7_parse_21 : decode cX7_parse 21 = .ok (.putfield 45, 3) := by decide +kernel
theorem dX7_parse_24 : decode cX7_parse 24 = .ok (.iconst 0, 1) := by decide +kernel
theorem dX7_parse_25 : decode cX7_parse 25 = .ok (.istore_n 1, 1) := by decide +kernel
theorem dX7_parse_26 : decode cX7_parse 26 = .ok (.aload_n 0, 1) := by decide +kernel
theorem dX7_parse_27 : decode cX7_parse 27 = .ok (.invokevirtual 60, 3) := by decide +kernel
theorem dX7_parse_30 : decode cX7_parse 30 = .ok (.iinc 1 1, 3) := by decide +kernel
theorem dX7_parse_33 : decode cX7_parse 33 = .ok (.aload_n 0, 1) := by decide +kernel
theorem dX7_parse_34 : decode cX7_parse 34 = .ok (.getfield 45, 3) := by decide +kernel
theorem dX7_parse_37 : decode cX7_parse 37 = .ok (.ifCond .ne 20, 3) := by decide +kernel
theorem dX7_parse_40 : decode cX7_parse 40 = .ok (.aload_n 0, 1) := by decide +kernel
theorem dX7_parse_41 : decode cX7_parse 41 = .ok (.getfield 42, 3) := by decide +kernel
theorem dX7_parse_44 : decode cX7_parse 44 = .ok (.aload_n 0, 1) := by decide +kernel
theorem dX7_parse_45 : decode cX7_parse 45 = .ok (.getfield 38, 3) := by decide +kernel
theorem dX7_parse_48 : decode cX7_parse 48 = .ok (.if_icmp .ge 9, 3) := by decide +kernel
theorem dX7_parse_51 : decode cX7_parse 51 = .ok (.iload_n 1, 1) := by decide +kernel
theorem dX7_parse_52 : decode cX7_parse 52 = .ok (.bipush 80, 2) := by decide +kernel
theorem dX7_parse_54 : decode cX7_parse 54 = .ok (.if_icmp .lt (-28), 3) := by decide +kernel
theorem dX7_parse_57 : decode cX7_parse 57 = .ok (.aload_n 0, 1) := by decide +kernel
theorem dX7_parse_58 : decode cX7_parse 58 = .ok (.aload_n 0, 1) := by decide +kernel
theorem dX7_parse_59 : decode cX7_parse 59 = .ok (.getfield 45, 3) := by decide +kernel
theorem dX7_parse_62 : decode cX7_parse 62 = .ok (.ifCond .eq 10, 3) := by decide +kernel
theorem dX7_parse_65 : decode cX7_parse 65 = .ok (.aload_n 0, 1) := by decide +kernel
theorem dX7_parse_66 : decode cX7_parse 66 = .ok (.getfield 42, 3) := by decide +kernel
theorem dX7_parse_69 : decode cX7_parse 69 = .ok (.goto 4, 3) := by decide +kernel
theorem dX7_parse_72 : decode cX7_parse 72 = .ok (.iconst (-1), 1) := by decide +kernel
theorem dX7_parse_73 : decode cX7_parse 73 = .ok (.putfield 49, 3) := by decide +kernel
theorem dX7_parse_76 : decode cX7_parse 76 = .ok (.aload_n 0, 1) := by decide +kernel
theorem dX7_parse_77 : decode cX7_parse 77 = .ok (.iconst 0, 1) := by decide +kernel
theorem dX7_parse_78 : decode cX7_parse 78 = .ok (.putfield 38, 3) := by decide +kernel
theorem dX7_parse_81 : decode cX7_parse 81 = .ok (.iload_n 1, 1) := by decide +kernel
theorem dX7_parse_82 : decode cX7_parse 82 = .ok (.ireturn, 1) := by decide +kernel
theorem dX7_parseCommand_0 : decode cX7_parseCommand 0 = .ok (.aload_n 0, 1) := by decide +kernel
theorem dX7_parseCommand_1 : decode cX7_parseCommand 1 = .ok (.invokevirtual 63, 3) := by decide +kernel
theorem dX7_parseCommand_4 : decode cX7_parseCommand 4 = .ok (.istore_n 1, 1) := by decide +kernel
theorem dX7_parseCommand_5 : decode cX7_parseCommand 5 = .ok (.aload_n 0, 1) := by decide +kernel
theorem dX7_parseCommand_6 : decode cX7_parseCommand 6 = .ok (.bipush 40, 2) := by decide +kernel
theorem dX7_parseCommand_8 : decode cX7_parseCommand 8 = .ok (.invokevirtual 67, 3) := by decide +kernel
theorem dX7_parseCommand_11 : decode cX7_parseCommand 11 = .ok (.aload_n 0, 1) := by decide +kernel
theorem dX7_parseCommand_12 : decode cX7_parseCommand 12 = .ok (.bipush 48, 2) := by decide +kernel
theorem dX7_parseCommand_14 : decode cX7_parseCommand 14 = .ok (.bipush 6, 2) := by decide +kernel
theorem dX7_parseCommand_16 : decode cX7_parseCommand 16 = .ok (.invokevirtual 71, 3) := by decide +kernel
theorem dX7_parseCommand_19 : decode cX7_parseCommand 19 = .ok (.istore_n 2, 1) := by decide +kernel
theorem dX7_parseCommand_20 : decode cX7_parseCommand 20 = .ok (.aload_n 0, 1) := by decide +kernel
theorem dX7_parseCommand_21 : decode cX7_parseCommand 21 = .ok (.bipush 44, 2) := by decide +kernel
theorem dX7_parseCommand_23 : decode cX7_parseCommand 23 = .ok (.invokevirtual 67, 3) := by decide +kernel
theorem dX7_parseCommand_26 : decode cX7_parseCommand 26 = .ok (.iload_n 1, 1) := by decide +kernel
theorem dX7_parseCommand_27 : decode cX7_parseCommand 27 = .ok (.iconst 3, 1) := by decide +kernel
theorem dX7_parseCommand_28 : decode cX7_parseCommand 28 = .ok (.if_icmp .ne 11, 3) := by decide +kernel
theorem dX7_parseCommand_31 : decode cX7_parseCommand 31 = .ok (.aload_n 0, 1) := by decide +kernel
theorem dX7_parseCommand_32 : decode cX7_parseCommand 32 = .ok (.iload_n 2, 1) := by decide +kernel
theorem dX7_parseCommand_33 : decode cX7_parseCommand 33 = .ok (.invokevirtual 75, 3) := by decide +kernel
theorem dX7_parseCommand_36 : decode cX7_parseCommand 36 = .ok (.goto 9, 3) := by decide +kernel
theorem dX7_parseCommand_39 : decode cX7_parseCommand 39 = .ok (.aload_n 0, 1) := by decide +kernel
theorem dX7_parseCommand_40 : decode cX7_parseCommand 40 = .ok (.iload_n 1, 1) := by decide +kernel
theorem dX7_parseCommand_41 : decode cX7_parseCommand 41 = .ok (.iload_n 2, 1) := by decide +kernel
theorem dX7_parseCommand_42 : decode cX7_parseCommand 42 = .ok (.invokevirtual 78, 3) := by decide +kernel
theorem dX7_parseCommand_45 : decode cX7_parseCommand 45 = .ok (.return_, 1) := by decide +kernel
theorem dX7_parseGoal_0 : decode cX7_parseGoal 0 = .ok (.aload_n 0, 1) := by decide +kernel
theorem dX7_parseGoal_1 : decode cX7_parseGoal 1 = .ok (.getfield 34, 3) := by decide +kernel
theorem dX7_parseGoal_4 : decode cX7_parseGoal 4 = .ok (.iload_n 1, 1) := by decide +kernel
theorem dX7_parseGoal_5 : decode cX7_parseGoal 5 = .ok (.putfield 82, 3) := by decide +kernel
theorem dX7_parseGoal_8 : decode cX7_parseGoal 8 = .ok (.aload_n 0, 1) := by decide +kernel
theorem dX7_parseGoal_9 : decode cX7_parseGoal 9 = .ok (.getfield 34, 3) := by decide +kernel
theorem dX7_parseGoal_12 : decode cX7_parseGoal 12 = .ok (.aload_n 0, 1) := by decide +kernel
theorem dX7_parseGoal_13 : decode cX7_parseGoal 13 = .ok (.invokevirtual 85, 3) := by decide +kernel
theorem dX7_parseGoal_16 : decode cX7_parseGoal 16 = .ok (.putfield 89, 3) := by decide +kernel
theorem dX7_parseGoal_19 : decode cX7_parseGoal 19 = .ok (.aload_n 0, 1) := by decide +kernel
theorem dX7_parseGoal_20 : decode cX7_parseGoal 20 = .ok (.bipush 44, 2) := by decide +kernel
theorem dX7_parseGoal_22 : decode cX7_parseGoal 22 = .ok (.invokevirtual 67, 3) := by decide +kernel
theorem dX7_parseGoal_25 : decode cX7_parseGoal 25 = .ok (.aload_n 0, 1) := by decide +kernel
theorem dX7_parseGoal_26 : decode cX7_parseGoal 26 = .ok (.getfield 34, 3) := by decide +kernel
theorem dX7_parseGoal_29 : decode cX7_parseGoal 29 = .ok (.aload_n 0, 1) := by decide +kernel
theorem dX7_parseGoal_30 : decode cX7_parseGoal 30 = .ok (.invokevirtual 85, 3) := by decide +kernel
theorem dX7_parseGoal_33 : decode cX7_parseGoal 33 = .ok (.putfield 93, 3) := by decide +kernel
theorem dX7_parseGoal_36 : decode cX7_parseGoal 36 = .ok (.aload_n 0, 1) := by decide +kernel
theorem dX7_parseGoal_37 : decode cX7_parseGoal 37 = .ok (.bipush 41, 2) := by decide +kernel
theorem dX7_parseGoal_39 : decode cX7_parseGoal 39 = .ok (.invokevirtual 67, 3) := by decide +kernel
theorem dX7_parseGoal_42 : decode cX7_parseGoal 42 = .ok (.aload_n 0, 1) := by decide +kernel
theorem dX7_parseGoal_43 : decode cX7_parseGoal 43 = .ok (.bipush 59, 2) := by decide +kernel
theorem dX7_parseGoal_45 : decode cX7_parseGoal 45 = .ok (.invokevirtual 67, 3) := by decide +kernel
theorem dX7_parseGoal_48 : decode cX7_parseGoal 48 = .ok (.aload_n 0, 1) := by decide +kernel
theorem dX7_parseGoal_49 : decode cX7_parseGoal 49 = .ok (.getfield 45, 3) := by decide +kernel
theorem dX7_parseGoal_52 : decode cX7_parseGoal 52 = .ok (.ifCond .ne 14, 3) := by decide +kernel
theorem dX7_parseGoal_55 : decode cX7_parseGoal 55 = .ok (.aload_n 0, 1) := by decide +kernel
theorem dX7_parseGoal_56 : decode cX7_parseGoal 56 = .ok (.getfield 27, 3) := by decide +kernel
theorem dX7_parseGoal_59 : decode cX7_parseGoal 59 = .ok (.aload_n 0, 1) := by decide +kernel
theorem dX7_parseGoal_60 : decode cX7_parseGoal 60 = .ok (.getfield 34, 3) := by decide +kernel
theorem dX7_parseGoal_63 : decode cX7_parseGoal 63 = .ok (.invokevirtual 96, 3) := by decide +kernel
theorem dX7_parseGoal_66 : decode cX7_parseGoal 66 = .ok (.return_, 1) := by decide +kernel
theorem dX7_parseTransition_0 : decode cX7_parseTransition 0 = .ok (.aload_n 0, 1) := by decide +kernel
theorem dX7_parseTransition_1 : decode cX7_parseTransition 1 = .ok (.bipush 48, 2) := by decide +kernel
theorem dX7_parseTransition_3 : decode cX7_parseTransition 3 = .ok (.bipush 6, 2) := by decide +kernel
theorem dX7_parseTransition_5 : decode cX7_parseTransition 5 = .ok (.invokevirtual 71, 3) := by decide +kernel
theorem dX7_parseTransition_8 : decode cX7_parseTransition 8 = .ok (.istore_n 3, 1) := by decide +kernel
theorem dX7_parseTransition_9 : decode cX7_parseTransition 9 = .ok (.iconst 0, 1) := by decide +kernel
theorem dX7_parseTransition_10 : decode cX7_parseTransition 10 = .ok (.istore 4, 2) := by decide +kernel
theorem dX7_parseTransition_12 : decode cX7_parseTransition 12 = .ok (.iconst 0, 1) := by decide +kernel
theorem dX7_parseTransition_13 : decode cX7_parseTransition 13 = .ok (.istore 5, 2) := by decide +kernel
theorem dX7_parseTransition_15 : decode cX7_parseTransition 15 = .ok (.iload_n 1, 1) := by decide +kernel
theorem dX7_parseTransition_16 : decode cX7_parseTransition 16 = .ok (.ifCond .eq 33, 3) := by decide +kernel
theorem dX7_parseTransition_19 : decode cX7_parseTransition 19 = .ok (.aload_n 0, 1) := by decide +kernel
theorem dX7_parseTransition_20 : decode cX7_parseTransition 20 = .ok (.bipush 44, 2) := by decide +kernel
theorem dX7_parseTransition_22 : decode cX7_parseTransition 22 = .ok (.invokevirtual 67, 3) := by decide +kernel
theorem dX7_parseTransition_25 : decode cX7_parseTransition 25 = .ok (.aload_n 0, 1) := by decide +kernel
theorem dX7_parseTransition_26 : decode cX7_parseTransition 26 = .ok (.bipush 48, 2) := by decide +kernel
theorem dX7_parseTransition_28 : decode cX7_parseTransition 28 = .ok (.iconst 2, 1) := by decide +kernel
theorem dX7_parseTransition_29 : decode cX7_parseTransition 29 = .ok (.invokevirtual 71, 3) := by decide +kernel
theorem dX7_parseTransition_32 : decode cX7_parseTransition 32 = .ok (.istore 4, 2) := by decide +kernel
theorem dX7_parseTransition_34 : decode cX7_parseTransition 34 = .ok (.aload_n 0, 1) := by decide +kernel
theorem dX7_parseTransition_35 : decode cX7_parseTransition 35 = .ok (.bipush 44, 2) := by decide +kernel
theorem dX7_parseTransition_37 : decode cX7_parseTransition 37 = .ok (.invokevirtual 67, 3) := by decide +kernel
theorem dX7_parseTransition_40 : decode cX7_parseTransition 40 = .ok (.aload_n 0, 1) := by decide +kernel
theorem dX7_parseTransition_41 : decode cX7_parseTransition 41 = .ok (.bipush 97, 2) := by decide +kernel
theorem dX7_parseTransition_43 : decode cX7_parseTransition 43 = .ok (.iconst 3, 1) := by decide +kernel
theorem dX7_parseTransition_44 : decode cX7_parseTransition 44 = .ok (.invokevirtual 71, 3) := by decide +kernel
theorem dX7_parseTransition_47 : decode cX7_parseTransition 47 = .ok (.istore 5, 2) := by decide +kernel
theorem dX7_parseTransition_49 : decode cX7_parseTransition 49 = .ok (.aload_n 0, 1) := by decide +kernel
theorem dX7_parseTransition_50 : decode cX7_parseTransition 50 = .ok (.bipush 41, 2) := by decide +kernel
theorem dX7_parseTransition_52 : decode cX7_parseTransition 52 = .ok (.invokevirtual 67, 3) := by decide +kernel
theorem dX7_parseTransition_55 : decode cX7_parseTransition 55 = .ok (.aload_n 0, 1) := by decide +kernel
theorem dX7_parseTransition_56 : decode cX7_parseTransition 56 = .ok (.bipush 59, 2) := by decide +kernel
theorem dX7_parseTransition_58 : decode cX7_parseTransition 58 = .ok (.invokevirtual 67, 3) := by decide +kernel
theorem dX7_parseTransition_61 : decode cX7_parseTransition 61 = .ok (.aload_n 0, 1) := by decide +kernel
theorem dX7_parseTransition_62 : decode cX7_parseTransition 62 = .ok (.getfield 45, 3) := by decide +kernel
theorem dX7_parseTransition_65 : decode cX7_parseTransition 65 = .ok (.ifCond .ne 17, 3) := by decide +kernel
theorem dX7_parseTransition_68 : decode cX7_parseTransition 68 = .ok (.aload_n 0, 1) := by decide +kernel
theorem dX7_parseTransition_69 : decode cX7_parseTransition 69 = .ok (.getfield 18, 3) := by decide +kernel
theorem dX7_parseTransition_72 : decode cX7_parseTransition 72 = .ok (.iload_n 2, 1) := by decide +kernel
theorem dX7_parseTransition_73 : decode cX7_parseTransition 73 = .ok (.iload_n 3, 1) := by decide +kernel
theorem dX7_parseTransition_74 : decode cX7_parseTransition 74 = .ok (.iload_n 1, 1) := by decide +kernel
theorem dX7_parseTransition_75 : decode cX7_parseTransition 75 = .ok (.iload 4, 2) := by decide +kernel
theorem dX7_parseTransition_77 : decode cX7_parseTransition 77 = .ok (.iload 5, 2) := by decide +kernel
theorem dX7_parseTransition_79 : decode cX7_parseTransition 79 = .ok (.invokevirtual 100, 3) := by decide +kernel
theorem dX7_parseTransition_82 : decode cX7_parseTransition 82 = .ok (.return_, 1) := by decide +kernel
theorem dX7_parseName_0 : decode cX7_parseName 0 = .ok (.aload_n 0, 1) := by decide +kernel
theorem dX7_parseName_1 : decode cX7_parseName 1 = .ok (.getfield 42, 3) := by decide +kernel
theorem dX7_parseName_4 : decode cX7_parseName 4 = .ok (.istore_n 1, 1) := by decide +kernel
theorem dX7_parseName_5 : decode cX7_parseName 5 = .ok (.aload_n 0, 1) := by decide +kernel
theorem dX7_parseName_6 : decode cX7_parseName 6 = .ok (.getfield 42, 3) := by decide +kernel
theorem dX7_parseName_9 : decode cX7_parseName 9 = .ok (.aload_n 0, 1) := by decide +kernel
theorem dX7_parseName_10 : decode cX7_parseName 10 = .ok (.getfield 38, 3) := by decide +kernel
theorem dX7_parseName_13 : decode cX7_parseName 13 = .ok (.if_icmp .ge 44, 3) := by decide +kernel
theorem dX7_parseName_16 : decode cX7_parseName 16 = .ok (.aload_n 0, 1) := by decide +kernel
theorem dX7_parseName_17 : decode cX7_parseName 17 = .ok (.getfield 9, 3) := by decide +kernel
theorem dX7_parseName_20 : decode cX7_parseName 20 = .ok (.aload_n 0, 1) := by decide +kernel
theorem dX7_parseName_21 : decode cX7_parseName 21 = .ok (.getfield 42, 3) := by decide +kernel
theorem dX7_parseName_24 : decode cX7_parseName 24 = .ok (.caload, 1) := by decide +kernel
theorem dX7_parseName_25 : decode cX7_parseName 25 = .ok (.bipush 97, 2) := by decide +kernel
theorem dX7_parseName_27 : decode cX7_parseName 27 = .ok (.if_icmp .lt 30, 3) := by decide +kernel
theorem dX7_parseName_30 : decode cX7_parseName 30 = .ok (.aload_n 0, 1) := by decide +kernel
theorem dX7_parseName_31 : decode cX7_parseName 31 = .ok (.getfield 9, 3) := by decide +kernel
theorem dX7_parseName_34 : decode cX7_parseName 34 = .ok (.aload_n 0, 1) := by decide +kernel
theorem dX7_parseName_35 : decode cX7_parseName 35 = .ok (.getfield 42, 3) := by decide +kernel
theorem dX7_parseName_38 : decode cX7_parseName 38 = .ok (.caload, 1) := by decide +kernel
theorem dX7_parseName_39 : decode cX7_parseName 39 = .ok (.bipush 122, 2) := by decide +kernel
theorem dX7_parseName_41 : decode cX7_parseName 41 = .ok (.if_icmp .gt 16, 3) := by decide +kernel
theorem dX7_parseName_44 : decode cX7_parseName 44 = .ok (.aload_n 0, 1) := by decide +kernel
theorem dX7_parseName_45 : decode cX7_parseName 45 = .ok (.dup, 1) := by decide +kernel
theorem dX7_parseName_46 : decode cX7_parseName 46 = .ok (.getfield 42, 3) := by decide +kernel
theorem dX7_parseName_49 : decode cX7_parseName 49 = .ok (.iconst 1, 1) := by decide +kernel
theorem dX7_parseName_50 : decode cX7_parseName 50 = .ok (.iadd, 1) := by decide +kernel
theorem dX7_parseName_51 : decode cX7_parseName 51 = .ok (.putfield 42, 3) := by decide +kernel
theorem dX7_parseName_54 : decode cX7_parseName 54 = .ok (.goto (-49), 3) := by decide +kernel
theorem dX7_parseName_57 : decode cX7_parseName 57 = .ok (.aload_n 0, 1) := by decide +kernel
theorem dX7_parseName_58 : decode cX7_parseName 58 = .ok (.iload_n 1, 1) := by decide +kernel
theorem dX7_parseName_59 : decode cX7_parseName 59 = .ok (.invokevirtual 103, 3) := by decide +kernel
theorem dX7_parseName_62 : decode cX7_parseName 62 = .ok (.istore_n 2, 1) := by decide +kernel
theorem dX7_parseName_63 : decode cX7_parseName 63 = .ok (.iload_n 2, 1) := by decide +kernel
theorem dX7_parseName_64 : decode cX7_parseName 64 = .ok (.iconst (-1), 1) := by decide +kernel
theorem dX7_parseName_65 : decode cX7_parseName 65 = .ok (.if_icmp .ne 13, 3) := by decide +kernel
theorem dX7_parseName_68 : decode cX7_parseName 68 = .ok (.aload_n 0, 1) := by decide +kernel
theorem dX7_parseName_69 : decode cX7_parseName 69 = .ok (.iload_n 1, 1) := by decide +kernel
theorem dX7_parseName_70 : decode cX7_parseName 70 = .ok (.putfield 42, 3) := by decide +kernel
theorem dX7_parseName_73 : decode cX7_parseName 73 = .ok (.aload_n 0, 1) := by decide +kernel
theorem dX7_parseName_74 : decode cX7_parseName 74 = .ok (.iconst 1, 1) := by decide +kernel
theorem dX7_parseName_75 : decode cX7_parseName 75 = .ok (.putfield 45, 3) := by decide +kernel
theorem dX7_parseName_78 : decode cX7_parseName 78 = .ok (.iload_n 2, 1) := by decide +kernel
theorem dX7_parseName_79 : decode cX7_parseName 79 = .ok (.ireturn, 1) := by decide +kernel
theorem dX7_nameFrom_0 : decode cX7_nameFrom 0 = .ok (.aload_n 0, 1) := by decide +kernel
theorem dX7_nameFrom_1 : decode cX7_nameFrom 1 = .ok (.iload_n 1, 1) := by decide +kernel
theorem dX7_nameFrom_2 : decode cX7_nameFrom 2 = .ok (.ldc 107, 2) := by decide +kernel
theorem dX7_nameFrom_4 : decode cX7_nameFrom 4 = .ok (.invokevirtual 109, 3) := by decide +kernel
theorem dX7_nameFrom_7 : decode cX7_nameFrom 7 = .ok (.ifCond .eq 5, 3) := by decide +kernel
theorem dX7_nameFrom_10 : decode cX7_nameFrom 10 = .ok (.iconst 0, 1) := by decide +kernel
theorem dX7_nameFrom_11 : decode cX7_nameFrom 11 = .ok (.ireturn, 1) := by decide +kernel
theorem dX7_nameFrom_12 : decode cX7_nameFrom 12 = .ok (.aload_n 0, 1) := by decide +kernel
theorem dX7_nameFrom_13 : decode cX7_nameFrom 13 = .ok (.iload_n 1, 1) := by decide +kernel
theorem dX7_nameFrom_14 : decode cX7_nameFrom 14 = .ok (.ldc 113, 2) := by decide +kernel
theorem dX7_nameFrom_16 : decode cX7_nameFrom 16 = .ok (.invokevirtual 109, 3) := by decide +kernel
theorem dX7_nameFrom_19 : decode cX7_nameFrom 19 = .ok (.ifCond .eq 5, 3) := by decide +kernel
theorem dX7_nameFrom_22 : decode cX7_nameFrom 22 = .ok (.iconst 1, 1) := by decide +kernel
theorem dX7_nameFrom_23 : decode cX7_nameFrom 23 = .ok (.ireturn, 1) := by decide +kernel
theorem dX7_nameFrom_24 : decode cX7_nameFrom 24 = .ok (.aload_n 0, 1) := by decide +kernel
theorem dX7_nameFrom_25 : decode cX7_nameFrom 25 = .ok (.iload_n 1, 1) := by decide +kernel
theorem dX7_nameFrom_26 : decode cX7_nameFrom 26 = .ok (.ldc 115, 2) := by decide +kernel
theorem dX7_nameFrom_28 : decode cX7_nameFrom 28 = .ok (.invokevirtual 109, 3) := by decide +kernel
theorem dX7_nameFrom_31 : decode cX7_nameFrom 31 = .ok (.ifCond .eq 5, 3) := by decide +kernel
theorem dX7_nameFrom_34 : decode cX7_nameFrom 34 = .ok (.iconst 2, 1) := by decide +kernel
theorem dX7_nameFrom_35 : decode cX7_nameFrom 35 = .ok (.ireturn, 1) := by decide +kernel
theorem dX7_nameFrom_36 : decode cX7_nameFrom 36 = .ok (.aload_n 0, 1) := by decide +kernel
theorem dX7_nameFrom_37 : decode cX7_nameFrom 37 = .ok (.iload_n 1, 1) := by decide +kernel
theorem dX7_nameFrom_38 : decode cX7_nameFrom 38 = .ok (.ldc 117, 2) := by decide +kernel
theorem dX7_nameFrom_40 : decode cX7_nameFrom 40 = .ok (.invokevirtual 109, 3) := by decide +kernel
theorem dX7_nameFrom_43 : decode cX7_nameFrom 43 = .ok (.ifCond .eq 7, 3) := by decide +kernel
theorem dX7_nameFrom_46 : decode cX7_nameFrom 46 = .ok (.iconst 3, 1) := by decide +kernel
theorem dX7_nameFrom_47 : decode cX7_nameFrom 47 = .ok (.goto 4, 3) := by decide +kernel
theorem dX7_nameFrom_50 : decode cX7_nameFrom 50 = .ok (.iconst (-1), 1) := by decide +kernel
theorem dX7_nameFrom_51 : decode cX7_nameFrom 51 = .ok (.ireturn, 1) := by decide +kernel
theorem dX7_isRead_0 : decode cX7_isRead 0 = .ok (.iload_n 1, 1) := by decide +kernel
theorem dX7_isRead_1 : decode cX7_isRead 1 = .ok (.ifCond .lt 27, 3) := by decide +kernel
theorem dX7_isRead_4 : decode cX7_isRead 4 = .ok (.aload_n 0, 1) := by decide +kernel
theorem dX7_isRead_5 : decode cX7_isRead 5 = .ok (.getfield 42, 3) := by decide +kernel
theorem dX7_isRead_8 : decode cX7_isRead 8 = .ok (.aload_n 0, 1) := by decide +kernel
theorem dX7_isRead_9 : decode cX7_isRead 9 = .ok (.getfield 38, 3) := by decide +kernel
theorem dX7_isRead_12 : decode cX7_isRead 12 = .ok (.if_icmp .gt 16, 3) := by decide +kernel
theorem dX7_isRead_15 : decode cX7_isRead 15 = .ok (.aload_n 0, 1) := by decide +kernel
theorem dX7_isRead_16 : decode cX7_isRead 16 = .ok (.getfield 42, 3) := by decide +kernel
theorem dX7_isRead_19 : decode cX7_isRead 19 = .ok (.iload_n 1, 1) := by decide +kernel
theorem dX7_isRead_20 : decode cX7_isRead 20 = .ok (.isub, 1) := by decide +kernel
theorem dX7_isRead_21 : decode cX7_isRead 21 = .ok (.aload_n 2, 1) := by decide +kernel
theorem dX7_isRead_22 : decode cX7_isRead 22 = .ok (.invokevirtual 119, 3) := by decide +kernel
theorem dX7_isRead_25 : decode cX7_isRead 25 = .ok (.if_icmp .eq 5, 3) := by decide +kernel
theorem dX7_isRead_28 : decode cX7_isRead 28 = .ok (.iconst 0, 1) := by decide +kernel
theorem dX7_isRead_29 : decode cX7_isRead 29 = .ok (.ireturn, 1) := by decide +kernel
theorem dX7_isRead_30 : decode cX7_isRead 30 = .ok (.iconst 0, 1) := by decide +kernel
theorem dX7_isRead_31 : decode cX7_isRead 31 = .ok (.istore_n 3, 1) := by decide +kernel
theorem dX7_isRead_32 : decode cX7_isRead 32 = .ok (.iload_n 3, 1) := by decide +kernel
theorem dX7_isRead_33 : decode cX7_isRead 33 = .ok (.aload_n 2, 1) := by decide +kernel
theorem dX7_isRead_34 : decode cX7_isRead 34 = .ok (.invokevirtual 119, 3) := by decide +kernel
theorem dX7_isRead_37 : decode cX7_isRead 37 = .ok (.if_icmp .ge 27, 3) := by decide +kernel
theorem dX7_isRead_40 : decode cX7_isRead 40 = .ok (.aload_n 0, 1) := by decide +kernel
theorem dX7_isRead_41 : decode cX7_isRead 41 = .ok (.getfield 9, 3) := by decide +kernel
theorem dX7_isRead_44 : decode cX7_isRead 44 = .ok (.iload_n 1, 1) := by decide +kernel
theorem dX7_isRead_45 : decode cX7_isRead 45 = .ok (.iload_n 3, 1) := by decide +kernel
theorem dX7_isRead_46 : decode cX7_isRead 46 = .ok (.iadd, 1) := by decide +kernel
theorem dX7_isRead_47 : decode cX7_isRead 47 = .ok (.caload, 1) := by decide +kernel
theorem dX7_isRead_48 : decode cX7_isRead 48 = .ok (.aload_n 2, 1) := by decide +kernel
theorem dX7_isRead_49 : decode cX7_isRead 49 = .ok (.iload_n 3, 1) := by decide +kernel
theorem dX7_isRead_50 : decode cX7_isRead 50 = .ok (.invokevirtual 123, 3) := by decide +kernel
theorem dX7_isRead_53 : decode cX7_isRead 53 = .ok (.if_icmp .eq 5, 3) := by decide +kernel
theorem dX7_isRead_56 : decode cX7_isRead 56 = .ok (.iconst 0, 1) := by decide +kernel
theorem dX7_isRead_57 : decode cX7_isRead 57 = .ok (.ireturn, 1) := by decide +kernel
theorem dX7_isRead_58 : decode cX7_isRead 58 = .ok (.iinc 3 1, 3) := by decide +kernel
theorem dX7_isRead_61 : decode cX7_isRead 61 = .ok (.goto (-29), 3) := by decide +kernel
theorem dX7_isRead_64 : decode cX7_isRead 64 = .ok (.iconst 1, 1) := by decide +kernel
theorem dX7_isRead_65 : decode cX7_isRead 65 = .ok (.ireturn, 1) := by decide +kernel
theorem dX7_parseWord_0 : decode cX7_parseWord 0 = .ok (.lconst 1, 1) := by decide +kernel
theorem dX7_parseWord_1 : decode cX7_parseWord 1 = .ok (.lstore_n 1, 1) := by decide +kernel
theorem dX7_parseWord_2 : decode cX7_parseWord 2 = .ok (.iconst 0, 1) := by decide +kernel
theorem dX7_parseWord_3 : decode cX7_parseWord 3 = .ok (.istore_n 3, 1) := by decide +kernel
theorem dX7_parseWord_4 : decode cX7_parseWord 4 = .ok (.iload_n 3, 1) := by decide +kernel
theorem dX7_parseWord_5 : decode cX7_parseWord 5 = .ok (.bipush 10, 2) := by decide +kernel
theorem dX7_parseWord_7 : decode cX7_parseWord 7 = .ok (.if_icmp .ge 31, 3) := by decide +kernel
theorem dX7_parseWord_10 : decode cX7_parseWord 10 = .ok (.aload_n 0, 1) := by decide +kernel
theorem dX7_parseWord_11 : decode cX7_parseWord 11 = .ok (.bipush 97, 2) := by decide +kernel
theorem dX7_parseWord_13 : decode cX7_parseWord 13 = .ok (.iconst 3, 1) := by decide +kernel
theorem dX7_parseWord_14 : decode cX7_parseWord 14 = .ok (.invokevirtual 129, 3) := by decide +kernel
theorem dX7_parseWord_17 : decode cX7_parseWord 17 = .ok (.ifCond .eq 21, 3) := by decide +kernel
theorem dX7_parseWord_20 : decode cX7_parseWord 20 = .ok (.lload_n 1, 1) := by decide +kernel
theorem dX7_parseWord_21 : decode cX7_parseWord 21 = .ok (.aload_n 0, 1) := by decide +kernel
theorem dX7_parseWord_22 : decode cX7_parseWord 22 = .ok (.bipush 97, 2) := by decide +kernel
theorem dX7_parseWord_24 : decode cX7_parseWord 24 = .ok (.iconst 3, 1) := by decide +kernel
theorem dX7_parseWord_25 : decode cX7_parseWord 25 = .ok (.invokevirtual 71, 3) := by decide +kernel
theorem dX7_parseWord_28 : decode cX7_parseWord 28 = .ok (.invokestatic 133, 3) := by decide +kernel
theorem dX7_parseWord_31 : decode cX7_parseWord 31 = .ok (.lstore_n 1, 1) := by decide +kernel
theorem dX7_parseWord_32 : decode cX7_parseWord 32 = .ok (.iinc 3 1, 3) := by decide +kernel
theorem dX7_parseWord_35 : decode cX7_parseWord 35 = .ok (.goto (-31), 3) := by decide +kernel
theorem dX7_parseWord_38 : decode cX7_parseWord 38 = .ok (.lload_n 1, 1) := by decide +kernel
theorem dX7_parseWord_39 : decode cX7_parseWord 39 = .ok (.lreturn, 1) := by decide +kernel
theorem dX7_expect_0 : decode cX7_expect 0 = .ok (.aload_n 0, 1) := by decide +kernel
theorem dX7_expect_1 : decode cX7_expect 1 = .ok (.iload_n 1, 1) := by decide +kernel
theorem dX7_expect_2 : decode cX7_expect 2 = .ok (.iconst 1, 1) := by decide +kernel
theorem dX7_expect_3 : decode cX7_expect 3 = .ok (.invokevirtual 71, 3) := by decide +kernel
theorem dX7_expect_6 : decode cX7_expect 6 = .ok (.pop, 1) := by decide +kernel
theorem dX7_expect_7 : decode cX7_expect 7 = .ok (.return_, 1) := by decide +kernel
theorem dX7_parseSymbol_0 : decode cX7_parseSymbol 0 = .ok (.aload_n 0, 1) := by decide +kernel
theorem dX7_parseSymbol_1 : decode cX7_parseSymbol 1 = .ok (.iload_n 1, 1) := by decide +kernel
theorem dX7_parseSymbol_2 : decode cX7_parseSymbol 2 = .ok (.iload_n 2, 1) := by decide +kernel
theorem dX7_parseSymbol_3 : decode cX7_parseSymbol 3 = .ok (.invokevirtual 129, 3) := by decide +kernel
theorem dX7_parseSymbol_6 : decode cX7_parseSymbol 6 = .ok (.ifCond .ne 10, 3) := by decide +kernel
theorem dX7_parseSymbol_9 : decode cX7_parseSymbol 9 = .ok (.aload_n 0, 1) := by decide +kernel
theorem dX7_parseSymbol_10 : decode cX7_parseSymbol 10 = .ok (.iconst 1, 1) := by decide +kernel
theorem dX7_parseSymbol_11 : decode cX7_parseSymbol 11 = .ok (.putfield 45, 3) := by decide +kernel
theorem dX7_parseSymbol_14 : decode cX7_parseSymbol 14 = .ok (.iconst 0, 1) := by decide +kernel
theorem dX7_parseSymbol_15 : decode cX7_parseSymbol 15 = .ok (.ireturn, 1) := by decide +kernel
theorem dX7_parseSymbol_16 : decode cX7_parseSymbol 16 = .ok (.aload_n 0, 1) := by decide +kernel
theorem dX7_parseSymbol_17 : decode cX7_parseSymbol 17 = .ok (.getfield 9, 3) := by decide +kernel
theorem dX7_parseSymbol_20 : decode cX7_parseSymbol 20 = .ok (.aload_n 0, 1) := by decide +kernel
theorem dX7_parseSymbol_21 : decode cX7_parseSymbol 21 = .ok (.getfield 42, 3) := by decide +kernel
theorem dX7_parseSymbol_24 : decode cX7_parseSymbol 24 = .ok (.caload, 1) := by decide +kernel
theorem dX7_parseSymbol_25 : decode cX7_parseSymbol 25 = .ok (.iload_n 1, 1) := by decide +kernel
theorem dX7_parseSymbol_26 : decode cX7_parseSymbol 26 = .ok (.isub, 1) := by decide +kernel
theorem dX7_parseSymbol_27 : decode cX7_parseSymbol 27 = .ok (.istore_n 3, 1) := by decide +kernel
theorem dX7_parseSymbol_28 : decode cX7_parseSymbol 28 = .ok (.aload_n 0, 1) := by decide +kernel
theorem dX7_parseSymbol_29 : decode cX7_parseSymbol 29 = .ok (.dup, 1) := by decide +kernel
theorem dX7_parseSymbol_30 : decode cX7_parseSymbol 30 = .ok (.getfield 42, 3) := by decide +kernel
theorem dX7_parseSymbol_33 : decode cX7_parseSymbol 33 = .ok (.iconst 1, 1) := by decide +kernel
theorem dX7_parseSymbol_34 : decode cX7_parseSymbol 34 = .ok (.iadd, 1) := by decide +kernel
theorem dX7_parseSymbol_35 : decode cX7_parseSymbol 35 = .ok (.putfield 42, 3) := by decide +kernel
theorem dX7_parseSymbol_38 : decode cX7_parseSymbol 38 = .ok (.iload_n 3, 1) := by decide +kernel
theorem dX7_parseSymbol_39 : decode cX7_parseSymbol 39 = .ok (.ireturn, 1) := by decide +kernel
theorem dX7_isNext_0 : decode cX7_isNext 0 = .ok (.aload_n 0, 1) := by decide +kernel
theorem dX7_isNext_1 : decode cX7_isNext 1 = .ok (.getfield 45, 3) := by decide +kernel
theorem dX7_isNext_4 : decode cX7_isNext 4 = .ok (.ifCond .ne 53, 3) := by decide +kernel
theorem dX7_isNext_7 : decode cX7_isNext 7 = .ok (.aload_n 0, 1) := by decide +kernel
theorem dX7_isNext_8 : decode cX7_isNext 8 = .ok (.getfield 42, 3) := by decide +kernel
theorem dX7_isNext_11 : decode cX7_isNext 11 = .ok (.ifCond .lt 46, 3) := by decide +kernel
theorem dX7_isNext_14 : decode cX7_isNext 14 = .ok (.aload_n 0, 1) := by decide +kernel
theorem dX7_isNext_15 : decode cX7_isNext 15 = .ok (.getfield 42, 3) := by decide +kernel
theorem dX7_isNext_18 : decode cX7_isNext 18 = .ok (.aload_n 0, 1) := by decide +kernel
theorem dX7_isNext_19 : decode cX7_isNext 19 = .ok (.getfield 38, 3) := by decide +kernel
theorem dX7_isNext_22 : decode cX7_isNext 22 = .ok (.if_icmp .ge 35, 3) := by decide +kernel
theorem dX7_isNext_25 : decode cX7_isNext 25 = .ok (.aload_n 0, 1) := by decide +kernel
theorem dX7_isNext_26 : decode cX7_isNext 26 = .ok (.getfield 9, 3) := by decide +kernel
theorem dX7_isNext_29 : decode cX7_isNext 29 = .ok (.aload_n 0, 1) := by decide +kernel
theorem dX7_isNext_30 : decode cX7_isNext 30 = .ok (.getfield 42, 3) := by decide +kernel
theorem dX7_isNext_33 : decode cX7_isNext 33 = .ok (.caload, 1) := by decide +kernel
theorem dX7_isNext_34 : decode cX7_isNext 34 = .ok (.iload_n 1, 1) := by decide +kernel
theorem dX7_isNext_35 : decode cX7_isNext 35 = .ok (.if_icmp .lt 22, 3) := by decide +kernel
theorem dX7_isNext_38 : decode cX7_isNext 38 = .ok (.aload_n 0, 1) := by decide +kernel
theorem dX7_isNext_39 : decode cX7_isNext 39 = .ok (.getfield 9, 3) := by decide +kernel
theorem dX7_isNext_42 : decode cX7_isNext 42 = .ok (.aload_n 0, 1) := by decide +kernel
theorem dX7_isNext_43 : decode cX7_isNext 43 = .ok (.getfield 42, 3) := by decide +kernel
theorem dX7_isNext_46 : decode cX7_isNext 46 = .ok (.caload, 1) := by decide +kernel
theorem dX7_isNext_47 : decode cX7_isNext 47 = .ok (.iload_n 1, 1) := by decide +kernel
theorem dX7_isNext_48 : decode cX7_isNext 48 = .ok (.iload_n 2, 1) := by decide +kernel
theorem dX7_isNext_49 : decode cX7_isNext 49 = .ok (.iadd, 1) := by decide +kernel
theorem dX7_isNext_50 : decode cX7_isNext 50 = .ok (.if_icmp .ge 7, 3) := by decide +kernel
theorem dX7_isNext_53 : decode cX7_isNext 53 = .ok (.iconst 1, 1) := by decide +kernel
theorem dX7_isNext_54 : decode cX7_isNext 54 = .ok (.goto 4, 3) := by decide +kernel
theorem dX7_isNext_57 : decode cX7_isNext 57 = .ok (.iconst 0, 1) := by decide +kernel
theorem dX7_isNext_58 : decode cX7_isNext 58 = .ok (.ireturn, 1) := by decide +kernel
theorem dX8_init_0 : decode cX8_init 0 = .ok (.aload_n 0, 1) := by decide +kernel
theorem dX8_init_1 : decode cX8_init 1 = .ok (.invokespecial 3, 3) := by decide +kernel
theorem dX8_init_4 : decode cX8_init 4 = .ok (.aload_n 0, 1) := by decide +kernel
theorem dX8_init_5 : decode cX8_init 5 = .ok (.new 9, 3) := by decide +kernel
theorem dX8_init_8 : decode cX8_init 8 = .ok (.dup, 1) := by decide +kernel
theorem dX8_init_9 : decode cX8_init 9 = .ok (.bipush 20, 2) := by decide +kernel
theorem dX8_init_11 : decode cX8_init 11 = .ok (.invokespecial 11, 3) := by decide +kernel
theorem dX8_init_14 : decode cX8_init 14 = .ok (.putfield 14, 3) := by decide +kernel
theorem dX8_init_17 : decode cX8_init 17 = .ok (.aload_n 0, 1) := by decide +kernel
theorem dX8_init_18 : decode cX8_init 18 = .ok (.bipush 20, 2) := by decide +kernel
theorem dX8_init_20 : decode cX8_init 20 = .ok (.newarray .int, 2) := by decide +kernel
theorem dX8_init_22 : decode cX8_init 22 = .ok (.putfield 20, 3) := by decide +kernel
theorem dX8_init_25 : decode cX8_init 25 = .ok (.aload_n 0, 1) := by decide +kernel
theorem dX8_init_26 : decode cX8_init 26 = .ok (.new 24, 3) := by decide +kernel
theorem dX8_init_29 : decode cX8_init 29 = .ok (.dup, 1) := by decide +kernel
theorem dX8_init_30 : decode cX8_init 30 = .ok (.invokespecial 26, 3) := by decide +kernel
theorem dX8_init_33 : decode cX8_init 33 = .ok (.putfield 27, 3) := by decide +kernel
theorem dX8_init_36 : decode cX8_init 36 = .ok (.return_, 1) := by decide +kernel
theorem dX8_steps_0 : decode cX8_steps 0 = .ok (.aload_n 0, 1) := by decide +kernel
theorem dX8_steps_1 : decode cX8_steps 1 = .ok (.getfield 14, 3) := by decide +kernel
theorem dX8_steps_4 : decode cX8_steps 4 = .ok (.invokevirtual 31, 3) := by decide +kernel
theorem dX8_steps_7 : decode cX8_steps 7 = .ok (.ireturn, 1) := by decide +kernel
theorem dX8_forget_0 : decode cX8_forget 0 = .ok (.aload_n 0, 1) := by decide +kernel
theorem dX8_forget_1 : decode cX8_forget 1 = .ok (.getfield 14, 3) := by decide +kernel
theorem dX8_forget_4 : decode cX8_forget 4 = .ok (.invokevirtual 35, 3) := by decide +kernel
theorem dX8_forget_7 : decode cX8_forget 7 = .ok (.return_, 1) := by decide +kernel
theorem dX8_record_0 : decode cX8_record 0 = .ok (.aload_n 0, 1) := by decide +kernel
theorem dX8_record_1 : decode cX8_record 1 = .ok (.getfield 14, 3) := by decide +kernel
theorem dX8_record_4 : decode cX8_record 4 = .ok (.invokevirtual 31, 3) := by decide +kernel
theorem dX8_record_7 : decode cX8_record 7 = .ok (.bipush 20, 2) := by decide +kernel
theorem dX8_record_9 : decode cX8_record 9 = .ok (.if_icmp .lt 7, 3) := by decide +kernel
theorem dX8_record_12 : decode cX8_record 12 = .ok (.aload_n 0, 1) := by decide +kernel
theorem dX8_record_13 : decode cX8_record 13 = .ok (.invokevirtual 38, 3) := by decide +kernel
theorem dX8_record_16 : decode cX8_record 16 = .ok (.aload_n 0, 1) := by decide +kernel
theorem dX8_record_17 : decode cX8_record 17 = .ok (.getfield 14, 3) := by decide +kernel
theorem dX8_record_20 : decode cX8_record 20 = .ok (.invokevirtual 31, 3) := by decide +kernel
theorem dX8_record_23 : decode cX8_record 23 = .ok (.istore_n 3, 1) := by decide +kernel
theorem dX8_record_24 : decode cX8_record 24 = .ok (.iload_n 3, 1) := by decide +kernel
theorem dX8_record_25 : decode cX8_record 25 = .ok (.aload_n 0, 1) := by decide +kernel
theorem dX8_record_26 : decode cX8_record 26 = .ok (.getfield 20, 3) := by decide +kernel
theorem dX8_record_29 : decode cX8_record 29 = .ok (.arraylength, 1) := by decide +kernel
theorem dX8_record_30 : decode cX8_record 30 = .ok (.if_icmp .ge 18, 3) := by decide +kernel
theorem dX8_record_33 : decode cX8_record 33 = .ok (.aload_n 0, 1) := by decide +kernel
theorem dX8_record_34 : decode cX8_record 34 = .ok (.getfield 20, 3) := by decide +kernel
theorem dX8_record_37 : decode cX8_record 37 = .ok (.iload_n 3, 1) := by decide +kernel
theorem dX8_record_38 : decode cX8_record 38 = .ok (.iload_n 2, 1) := by decide +kernel
theorem dX8_record_39 : decode cX8_record 39 = .ok (.iastore, 1) := by decide +kernel
theorem dX8_record_40 : decode cX8_record 40 = .ok (.aload_n 0, 1) := by decide +kernel
theorem dX8_record_41 : decode cX8_record 41 = .ok (.getfield 14, 3) := by decide +kernel
theorem dX8_record_44 : decode cX8_record 44 = .ok (.aload_n 1, 1) := by decide +kernel
theorem dX8_record_45 : decode cX8_record 45 = .ok (.invokevirtual 41, 3) := by decide +kernel
theorem dX8_record_48 : decode cX8_record 48 = .ok (.return_, 1) := by decide +kernel
theorem dX8_takeBack_0 : decode cX8_takeBack 0 = .ok (.aload_n 0, 1) := by decide +kernel
theorem dX8_takeBack_1 : decode cX8_takeBack 1 = .ok (.getfield 14, 3) := by decide +kernel
theorem dX8_takeBack_4 : decode cX8_takeBack 4 = .ok (.invokevirtual 31, 3) := by decide +kernel
theorem dX8_takeBack_7 : decode cX8_takeBack 7 = .ok (.iconst 1, 1) := by decide +kernel
theorem dX8_takeBack_8 : decode cX8_takeBack 8 = .ok (.isub, 1) := by decide +kernel
theorem dX8_takeBack_9 : decode cX8_takeBack 9 = .ok (.istore_n 2, 1) := by decide +kernel
theorem dX8_takeBack_10 : decode cX8_takeBack 10 = .ok (.iload_n 2, 1) := by decide +kernel
theorem dX8_takeBack_11 : decode cX8_takeBack 11 = .ok (.ifCond .lt 12, 3) := by decide +kernel
theorem dX8_takeBack_14 : decode cX8_takeBack 14 = .ok (.iload_n 2, 1) := by decide +kernel
theorem dX8_takeBack_15 : decode cX8_takeBack 15 = .ok (.aload_n 0, 1) := by decide +kernel
theorem dX8_takeBack_16 : decode cX8_takeBack 16 = .ok (.getfield 20, 3) := by decide +kernel
theorem dX8_takeBack_19 : decode cX8_takeBack 19 = .ok (.arraylength, 1) := by decide +kernel
theorem dX8_takeBack_20 : decode cX8_takeBack 20 = .ok (.if_icmp .lt 5, 3) := by decide +kernel
theorem dX8_takeBack_23 : decode cX8_takeBack 23 = .ok (.iconst 0, 1) := by decide +kernel
theorem dX8_takeBack_24 : decode cX8_takeBack 24 = .ok (.ireturn, 1) := by decide +kernel
theorem dX8_takeBack_25 : decode cX8_takeBack 25 = .ok (.aload_n 0, 1) := by decide +kernel
theorem dX8_takeBack_26 : decode cX8_takeBack 26 = .ok (.getfield 14, 3) := by decide +kernel
theorem dX8_takeBack_29 : decode cX8_takeBack 29 = .ok (.iload_n 2, 1) := by decide +kernel
theorem dX8_takeBack_30 : decode cX8_takeBack 30 = .ok (.aload_n 1, 1) := by decide +kernel
theorem dX8_takeBack_31 : decode cX8_takeBack 31 = .ok (.invokevirtual 45, 3) := by decide +kernel
theorem dX8_takeBack_34 : decode cX8_takeBack 34 = .ok (.aload_n 0, 1) := by decide +kernel
theorem dX8_takeBack_35 : decode cX8_takeBack 35 = .ok (.getfield 14, 3) := by decide +kernel
theorem dX8_takeBack_38 : decode cX8_takeBack 38 = .ok (.invokevirtual 49, 3) := by decide +kernel
theorem dX8_takeBack_41 : decode cX8_takeBack 41 = .ok (.aload_n 0, 1) := by decide +kernel
theorem dX8_takeBack_42 : decode cX8_takeBack 42 = .ok (.getfield 20, 3) := by decide +kernel
theorem dX8_takeBack_45 : decode cX8_takeBack 45 = .ok (.iload_n 2, 1) := by decide +kernel
theorem dX8_takeBack_46 : decode cX8_takeBack 46 = .ok (.iaload, 1) := by decide +kernel
theorem dX8_takeBack_47 : decode cX8_takeBack 47 = .ok (.ireturn, 1) := by decide +kernel
theorem dX8_firstIncrease_0 : decode cX8_firstIncrease 0 = .ok (.iconst 1, 1) := by decide +kernel
theorem dX8_firstIncrease_1 : decode cX8_firstIncrease 1 = .ok (.istore_n 2, 1) := by decide +kernel
theorem dX8_firstIncrease_2 : decode cX8_firstIncrease 2 = .ok (.iload_n 2, 1) := by decide +kernel
theorem dX8_firstIncrease_3 : decode cX8_firstIncrease 3 = .ok (.aload_n 0, 1) := by decide +kernel
theorem dX8_firstIncrease_4 : decode cX8_firstIncrease 4 = .ok (.getfield 14, 3) := by decide +kernel
theorem dX8_firstIncrease_7 : decode cX8_firstIncrease 7 = .ok (.invokevirtual 31, 3) := by decide +kernel
theorem dX8_firstIncrease_10 : decode cX8_firstIncrease 10 = .ok (.if_icmp .gt 53, 3) := by decide +kernel
theorem dX8_firstIncrease_13 : decode cX8_firstIncrease 13 = .ok (.aload_n 0, 1) := by decide +kernel
theorem dX8_firstIncrease_14 : decode cX8_firstIncrease 14 = .ok (.getfield 27, 3) := by decide +kernel
theorem dX8_firstIncrease_17 : decode cX8_firstIncrease 17 = .ok (.aload_n 1, 1) := by decide +kernel
theorem dX8_firstIncrease_18 : decode cX8_firstIncrease 18 = .ok (.invokevirtual 52, 3) := by decide +kernel
theorem dX8_firstIncrease_21 : decode cX8_firstIncrease 21 = .ok (.aload_n 0, 1) := by decide +kernel
theorem dX8_firstIncrease_22 : decode cX8_firstIncrease 22 = .ok (.getfield 14, 3) := by decide +kernel
theorem dX8_firstIncrease_25 : decode cX8_firstIncrease 25 = .ok (.iload_n 2, 1) := by decide +kernel
theorem dX8_firstIncrease_26 : decode cX8_firstIncrease 26 = .ok (.aload_n 0, 1) := by decide +kernel
theorem dX8_firstIncrease_27 : decode cX8_firstIncrease 27 = .ok (.getfield 27, 3) := by decide +kernel
theorem dX8_firstIncrease_30 : decode cX8_firstIncrease 30 = .ok (.invokevirtual 45, 3) := by decide +kernel
theorem dX8_firstIncrease_33 : decode cX8_firstIncrease 33 = .ok (.aload_n 0, 1) := by decide +kernel
theorem dX8_firstIncrease_34 : decode cX8_firstIncrease 34 = .ok (.getfield 14, 3) := by decide +kernel
theorem dX8_firstIncrease_37 : decode cX8_firstIncrease 37 = .ok (.aload_n 0, 1) := by decide +kernel
theorem dX8_firstIncrease_38 : decode cX8_firstIncrease 38 = .ok (.getfield 27, 3) := by decide +kernel
theorem dX8_firstIncrease_41 : decode cX8_firstIncrease 41 = .ok (.iload_n 2, 1) := by decide +kernel
theorem dX8_firstIncrease_42 : decode cX8_firstIncrease 42 = .ok (.invokevirtual 55, 3) := by decide +kernel
theorem dX8_firstIncrease_45 : decode cX8_firstIncrease 45 = .ok (.istore_n 3, 1) := by decide +kernel
theorem dX8_firstIncrease_46 : decode cX8_firstIncrease 46 = .ok (.iload_n 3, 1) := by decide +kernel
theorem dX8_firstIncrease_47 : decode cX8_firstIncrease 47 = .ok (.ifCond .lt 10, 3) := by decide +kernel
theorem dX8_firstIncrease_50 : decode cX8_firstIncrease 50 = .ok (.bipush 100, 2) := by decide +kernel
theorem dX8_firstIncrease_52 : decode cX8_firstIncrease 52 = .ok (.iload_n 3, 1) := by decide +kernel
theorem dX8_firstIncrease_53 : decode cX8_firstIncrease 53 = .ok (.imul, 1) := by decide +kernel
theorem dX8_firstIncrease_54 : decode cX8_firstIncrease 54 = .ok (.iload_n 2, 1) := by decide +kernel
theorem dX8_firstIncrease_55 : decode cX8_firstIncrease 55 = .ok (.iadd, 1) := by decide +kernel
theorem dX8_firstIncrease_56 : decode cX8_firstIncrease 56 = .ok (.ireturn, 1) := by decide +kernel
theorem dX8_firstIncrease_57 : decode cX8_firstIncrease 57 = .ok (.iinc 2 1, 3) := by decide +kernel
theorem dX8_firstIncrease_60 : decode cX8_firstIncrease 60 = .ok (.goto (-58), 3) := by decide +kernel
theorem dX8_firstIncrease_63 : decode cX8_firstIncrease 63 = .ok (.iconst (-1), 1) := by decide +kernel
theorem dX8_firstIncrease_64 : decode cX8_firstIncrease 64 = .ok (.ireturn, 1) := by decide +kernel
theorem dX8_dropOldest_0 : decode cX8_dropOldest 0 = .ok (.aload_n 0, 1) := by decide +kernel
theorem dX8_dropOldest_1 : decode cX8_dropOldest 1 = .ok (.getfield 14, 3) := by decide +kernel
theorem dX8_dropOldest_4 : decode cX8_dropOldest 4 = .ok (.invokevirtual 59, 3) := by decide +kernel
theorem dX8_dropOldest_7 : decode cX8_dropOldest 7 = .ok (.iconst 1, 1) := by decide +kernel
theorem dX8_dropOldest_8 : decode cX8_dropOldest 8 = .ok (.istore_n 1, 1) := by decide +kernel
theorem dX8_dropOldest_9 : decode cX8_dropOldest 9 = .ok (.iload_n 1, 1) := by decide +kernel
theorem dX8_dropOldest_10 : decode cX8_dropOldest 10 = .ok (.aload_n 0, 1) := by decide +kernel
theorem dX8_dropOldest_11 : decode cX8_dropOldest 11 = .ok (.getfield 20, 3) := by decide +kernel
theorem dX8_dropOldest_14 : decode cX8_dropOldest 14 = .ok (.arraylength, 1) := by decide +kernel
theorem dX8_dropOldest_15 : decode cX8_dropOldest 15 = .ok (.if_icmp .ge 23, 3) := by decide +kernel
theorem dX8_dropOldest_18 : decode cX8_dropOldest 18 = .ok (.aload_n 0, 1) := by decide +kernel
theorem dX8_dropOldest_19 : decode cX8_dropOldest 19 = .ok (.getfield 20, 3) := by decide +kernel
theorem dX8_dropOldest_22 : decode cX8_dropOldest 22 = .ok (.iload_n 1, 1) := by decide +kernel
theorem dX8_dropOldest_23 : decode cX8_dropOldest 23 = .ok (.iconst 1, 1) := by decide +kernel
theorem dX8_dropOldest_24 : decode cX8_dropOldest 24 = .ok (.isub, 1) := by decide +kernel
theorem dX8_dropOldest_25 : decode cX8_dropOldest 25 = .ok (.aload_n 0, 1) := by decide +kernel
theorem dX8_dropOldest_26 : decode cX8_dropOldest 26 = .ok (.getfield 20, 3) := by decide +kernel
theorem dX8_dropOldest_29 : decode cX8_dropOldest 29 = .ok (.iload_n 1, 1) := by decide +kernel
theorem dX8_dropOldest_30 : decode cX8_dropOldest 30 = .ok (.iaload, 1) := by decide +kernel
theorem dX8_dropOldest_31 : decode cX8_dropOldest 31 = .ok (.iastore, 1) := by decide +kernel
theorem dX8_dropOldest_32 : decode cX8_dropOldest 32 = .ok (.iinc 1 1, 3) := by decide +kernel
theorem dX8_dropOldest_35 : decode cX8_dropOldest 35 = .ok (.goto (-26), 3) := by decide +kernel
theorem dX8_dropOldest_38 : decode cX8_dropOldest 38 = .ok (.return_, 1) := by decide +kernel
theorem dX9_size_0 : decode cX9_size 0 = .ok (.iconst 0, 1) := by decide +kernel
theorem dX9_size_1 : decode cX9_size 1 = .ok (.istore_n 2, 1) := by decide +kernel
theorem dX9_size_2 : decode cX9_size 2 = .ok (.iload_n 2, 1) := by decide +kernel
theorem dX9_size_3 : decode cX9_size 3 = .ok (.bipush 31, 2) := by decide +kernel
theorem dX9_size_5 : decode cX9_size 5 = .ok (.if_icmp .ge 19, 3) := by decide +kernel
theorem dX9_size_8 : decode cX9_size 8 = .ok (.lload_n 0, 1) := by decide +kernel
theorem dX9_size_9 : decode cX9_size 9 = .ok (.iconst 2, 1) := by decide +kernel
theorem dX9_size_10 : decode cX9_size 10 = .ok (.iload_n 2, 1) := by decide +kernel
theorem dX9_size_11 : decode cX9_size 11 = .ok (.imul, 1) := by decide +kernel
theorem dX9_size_12 : decode cX9_size 12 = .ok (.lshr, 1) := by decide +kernel
theorem dX9_size_13 : decode cX9_size 13 = .ok (.lconst 1, 1) := by decide +kernel
theorem dX9_size_14 : decode cX9_size 14 = .ok (.lcmp, 1) := by decide +kernel
theorem dX9_size_15 : decode cX9_size 15 = .ok (.ifCond .le 9, 3) := by decide +kernel
theorem dX9_size_18 : decode cX9_size 18 = .ok (.iinc 2 1, 3) := by decide +kernel
theorem dX9_size_21 : decode cX9_size 21 = .ok (.goto (-19), 3) := by decide +kernel
theorem dX9_size_24 : decode cX9_size 24 = .ok (.iload_n 2, 1) := by decide +kernel
theorem dX9_size_25 : decode cX9_size 25 = .ok (.ireturn, 1) := by decide +kernel
theorem dX9_at_0 : decode cX9_at 0 = .ok (.lload_n 0, 1) := by decide +kernel
theorem dX9_at_1 : decode cX9_at 1 = .ok (.iconst 2, 1) := by decide +kernel
theorem dX9_at_2 : decode cX9_at 2 = .ok (.lload_n 0, 1) := by decide +kernel
theorem dX9_at_3 : decode cX9_at 3 = .ok (.invokestatic 9, 3) := by decide +kernel
theorem dX9_at_6 : decode cX9_at 6 = .ok (.iconst 1, 1) := by decide +kernel
theorem dX9_at_7 : decode cX9_at 7 = .ok (.isub, 1) := by decide +kernel
theorem dX9_at_8 : decode cX9_at 8 = .ok (.iload_n 2, 1) := by decide +kernel
theorem dX9_at_9 : decode cX9_at 9 = .ok (.isub, 1) := by decide +kernel
theorem dX9_at_10 : decode cX9_at 10 = .ok (.imul, 1) := by decide +kernel
theorem dX9_at_11 : decode cX9_at 11 = .ok (.lshr, 1) := by decide +kernel
theorem dX9_at_12 : decode cX9_at 12 = .ok (.ldc2_w 13, 3) := by decide +kernel
theorem dX9_at_15 : decode cX9_at 15 = .ok (.land, 1) := by decide +kernel
theorem dX9_at_16 : decode cX9_at 16 = .ok (.l2i, 1) := by decide +kernel
theorem dX9_at_17 : decode cX9_at 17 = .ok (.ireturn, 1) := by decide +kernel
theorem dX9_extend_0 : decode cX9_extend 0 = .ok (.lload_n 0, 1) := by decide +kernel
theorem dX9_extend_1 : decode cX9_extend 1 = .ok (.iconst 2, 1) := by decide +kernel
theorem dX9_extend_2 : decode cX9_extend 2 = .ok (.lshl, 1) := by decide +kernel
theorem dX9_extend_3 : decode cX9_extend 3 = .ok (.iload_n 2, 1) := by decide +kernel
theorem dX9_extend_4 : decode cX9_extend 4 = .ok (.i2l, 1) := by decide +kernel
theorem dX9_extend_5 : decode cX9_extend 5 = .ok (.lor, 1) := by decide +kernel
theorem dX9_extend_6 : decode cX9_extend 6 = .ok (.lreturn, 1) := by decide +kernel
theorem dX9_prepend_0 : decode cX9_prepend 0 = .ok (.iconst 2, 1) := by decide +kernel
theorem dX9_prepend_1 : decode cX9_prepend 1 = .ok (.lload_n 1, 1) := by decide +kernel
theorem dX9_prepend_2 : decode cX9_prepend 2 = .ok (.invokestatic 9, 3) := by decide +kernel
theorem dX9_prepend_5 : decode cX9_prepend 5 = .ok (.imul, 1) := by decide +kernel
theorem dX9_prepend_6 : decode cX9_prepend 6 = .ok (.istore_n 3, 1) := by decide +kernel
theorem dX9_prepend_7 : decode cX9_prepend 7 = .ok (.lload_n 1, 1) := by decide +kernel
theorem dX9_prepend_8 : decode cX9_prepend 8 = .ok (.lconst 1, 1) := by decide +kernel
theorem dX9_prepend_9 : decode cX9_prepend 9 = .ok (.iload_n 3, 1) := by decide +kernel
theorem dX9_prepend_10 : decode cX9_prepend 10 = .ok (.lshl, 1) := by decide +kernel
theorem dX9_prepend_11 : decode cX9_prepend 11 = .ok (.lsub, 1) := by decide +kernel
theorem dX9_prepend_12 : decode cX9_prepend 12 = .ok (.ldc2_w 15, 3) := by decide +kernel
theorem dX9_prepend_15 : decode cX9_prepend 15 = .ok (.iload_n 0, 1) := by decide +kernel
theorem dX9_prepend_16 : decode cX9_prepend 16 = .ok (.i2l, 1) := by decide +kernel
theorem dX9_prepend_17 : decode cX9_prepend 17 = .ok (.lor, 1) := by decide +kernel
theorem dX9_prepend_18 : decode cX9_prepend 18 = .ok (.iload_n 3, 1) := by decide +kernel
theorem dX9_prepend_19 : decode cX9_prepend 19 = .ok (.lshl, 1) := by decide +kernel
theorem dX9_prepend_20 : decode cX9_prepend 20 = .ok (.ladd, 1) := by decide +kernel
theorem dX9_prepend_21 : decode cX9_prepend 21 = .ok (.lreturn, 1) := by decide +kernel
theorem dX9_endsWith_0 : decode cX9_endsWith 0 = .ok (.lload_n 0, 1) := by decide +kernel
theorem dX9_endsWith_1 : decode cX9_endsWith 1 = .ok (.lconst 1, 1) := by decide +kernel
theorem dX9_endsWith_2 : decode cX9_endsWith 2 = .ok (.lcmp, 1) := by decide +kernel
theorem dX9_endsWith_3 : decode cX9_endsWith 3 = .ok (.ifCond .le 18, 3) := by decide +kernel
theorem dX9_endsWith_6 : decode cX9_endsWith 6 = .ok (.lload_n 0, 1) := by decide +kernel
theorem dX9_endsWith_7 : decode cX9_endsWith 7 = .ok (.ldc2_w 13, 3) := by decide +kernel
theorem dX9_endsWith_10 : decode cX9_endsWith 10 = .ok (.land, 1) := by decide +kernel
theorem dX9_endsWith_11 : decode cX9_endsWith 11 = .ok (.iload_n 2, 1) := by decide +kernel
theorem dX9_endsWith_12 : decode cX9_endsWith 12 = .ok (.i2l, 1) := by decide +kernel
theorem dX9_endsWith_13 : decode cX9_endsWith 13 = .ok (.lcmp, 1) := by decide +kernel
theorem dX9_endsWith_14 : decode cX9_endsWith 14 = .ok (.ifCond .ne 7, 3) := by decide +kernel
theorem dX9_endsWith_17 : decode cX9_endsWith 17 = .ok (.iconst 1, 1) := by decide +kernel
theorem dX9_endsWith_18 : decode cX9_endsWith 18 = .ok (.goto 4, 3) := by decide +kernel
theorem dX9_endsWith_21 : decode cX9_endsWith 21 = .ok (.iconst 0, 1) := by decide +kernel
theorem dX9_endsWith_22 : decode cX9_endsWith 22 = .ok (.ireturn, 1) := by decide +kernel
theorem dX9_withoutLast_0 : decode cX9_withoutLast 0 = .ok (.lload_n 0, 1) := by decide +kernel
theorem dX9_withoutLast_1 : decode cX9_withoutLast 1 = .ok (.lconst 1, 1) := by decide +kernel
theorem dX9_withoutLast_2 : decode cX9_withoutLast 2 = .ok (.lcmp, 1) := by decide +kernel
theorem dX9_withoutLast_3 : decode cX9_withoutLast 3 = .ok (.ifCond .le 9, 3) := by decide +kernel
theorem dX9_withoutLast_6 : decode cX9_withoutLast 6 = .ok (.lload_n 0, 1) := by decide +kernel
theorem dX9_withoutLast_7 : decode cX9_withoutLast 7 = .ok (.iconst 2, 1) := by decide +kernel
theorem dX9_withoutLast_8 : decode cX9_withoutLast 8 = .ok (.lshr, 1) := by decide +kernel
theorem dX9_withoutLast_9 : decode cX9_withoutLast 9 = .ok (.goto 4, 3) := by decide +kernel
theorem dX9_withoutLast_12 : decode cX9_withoutLast 12 = .ok (.lconst 1, 1) := by decide +kernel
theorem dX9_withoutLast_13 : decode cX9_withoutLast 13 = .ok (.lreturn, 1) := by decide +kernel
theorem dX9_without_0 : decode cX9_without 0 = .ok (.iconst 2, 1) := by decide +kernel
theorem dX9_without_1 : decode cX9_without 1 = .ok (.lload_n 0, 1) := by decide +kernel
theorem dX9_without_2 : decode cX9_without 2 = .ok (.invokestatic 9, 3) := by decide +kernel
theorem dX9_without_5 : decode cX9_without 5 = .ok (.iconst 1, 1) := by decide +kernel
theorem dX9_without_6 : decode cX9_without 6 = .ok (.isub, 1) := by decide +kernel
theorem dX9_without_7 : decode cX9_without 7 = .ok (.iload_n 2, 1) := by decide +kernel
theorem dX9_without_8 : decode cX9_without 8 = .ok (.isub, 1) := by decide +kernel
theorem dX9_without_9 : decode cX9_without 9 = .ok (.imul, 1) := by decide +kernel
theorem dX9_without_10 : decode cX9_without 10 = .ok (.istore_n 3, 1) := by decide +kernel
theorem dX9_without_11 : decode cX9_without 11 = .ok (.lload_n 0, 1) := by decide +kernel
theorem dX9_without_12 : decode cX9_without 12 = .ok (.iload_n 3, 1) := by decide +kernel
theorem dX9_without_13 : decode cX9_without 13 = .ok (.iconst 2, 1) := by decide +kernel
theorem dX9_without_14 : decode cX9_without 14 = .ok (.iadd, 1) := by decide +kernel
theorem dX9_without_15 : decode cX9_without 15 = .ok (.lshr, 1) := by decide +kernel
theorem dX9_without_16 : decode cX9_without 16 = .ok (.iload_n 3, 1) := by decide +kernel
theorem dX9_without_17 : decode cX9_without 17 = .ok (.lshl, 1) := by decide +kernel
theorem dX9_without_18 : decode cX9_without 18 = .ok (.lload_n 0, 1) := by decide +kernel
theorem dX9_without_19 : decode cX9_without 19 = .ok (.lconst 1, 1) := by decide +kernel
theorem dX9_without_20 : decode cX9_without 20 = .ok (.iload_n 3, 1) := by decide +kernel
theorem dX9_without_21 : decode cX9_without 21 = .ok (.lshl, 1) := by decide +kernel
theorem dX9_without_22 : decode cX9_without 22 = .ok (.lconst 1, 1) := by decide +kernel
theorem dX9_without_23 : decode cX9_without 23 = .ok (.lsub, 1) := by decide +kernel
theorem dX9_without_24 : decode cX9_without 24 = .ok (.land, 1) := by decide +kernel
theorem dX9_without_25 : decode cX9_without 25 = .ok (.lor, 1) := by decide +kernel
theorem dX9_without_26 : decode cX9_without 26 = .ok (.lreturn, 1) := by decide +kernel
theorem dX9_behind_0 : decode cX9_behind 0 = .ok (.iconst 2, 1) := by decide +kernel
theorem dX9_behind_1 : decode cX9_behind 1 = .ok (.lload_n 0, 1) := by decide +kernel
theorem dX9_behind_2 : decode cX9_behind 2 = .ok (.invokestatic 9, 3) := by decide +kernel
theorem dX9_behind_5 : decode cX9_behind 5 = .ok (.iconst 1, 1) := by decide +kernel
theorem dX9_behind_6 : decode cX9_behind 6 = .ok (.isub, 1) := by decide +kernel
theorem dX9_behind_7 : decode cX9_behind 7 = .ok (.iload_n 2, 1) := by decide +kernel
theorem dX9_behind_8 : decode cX9_behind 8 = .ok (.isub, 1) := by decide +kernel
theorem dX9_behind_9 : decode cX9_behind 9 = .ok (.imul, 1) := by decide +kernel
theorem dX9_behind_10 : decode cX9_behind 10 = .ok (.istore_n 3, 1) := by decide +kernel
theorem dX9_behind_11 : decode cX9_behind 11 = .ok (.lconst 1, 1) := by decide +kernel
theorem dX9_behind_12 : decode cX9_behind 12 = .ok (.iload_n 3, 1) := by decide +kernel
theorem dX9_behind_13 : decode cX9_behind 13 = .ok (.lshl, 1) := by decide +kernel
theorem dX9_behind_14 : decode cX9_behind 14 = .ok (.lload_n 0, 1) := by decide +kernel
theorem dX9_behind_15 : decode cX9_behind 15 = .ok (.lconst 1, 1) := by decide +kernel
theorem dX9_behind_16 : decode cX9_behind 16 = .ok (.iload_n 3, 1) := by decide +kernel
theorem dX9_behind_17 : decode cX9_behind 17 = .ok (.lshl, 1) := by decide +kernel
theorem dX9_behind_18 : decode cX9_behind 18 = .ok (.lconst 1, 1) := by decide +kernel
theorem dX9_behind_19 : decode cX9_behind 19 = .ok (.lsub, 1) := by decide +kernel
theorem dX9_behind_20 : decode cX9_behind 20 = .ok (.land, 1) := by decide +kernel
theorem dX9_behind_21 : decode cX9_behind 21 = .ok (.lor, 1) := by decide +kernel
theorem dX9_behind_22 : decode cX9_behind 22 = .ok (.lreturn, 1) := by decide +kernel
theorem dX9_indexOf_0 : decode cX9_indexOf 0 = .ok (.lload_n 0, 1) := by decide +kernel
theorem dX9_indexOf_1 : decode cX9_indexOf 1 = .ok (.invokestatic 9, 3) := by decide +kernel
theorem dX9_indexOf_4 : decode cX9_indexOf 4 = .ok (.istore_n 3, 1) := by decide +kernel
theorem dX9_indexOf_5 : decode cX9_indexOf 5 = .ok (.iconst 0, 1) := by decide +kernel
theorem dX9_indexOf_6 : decode cX9_indexOf 6 = .ok (.istore 4, 2) := by decide +kernel
theorem dX9_indexOf_8 : decode cX9_indexOf 8 = .ok (.iload 4, 2) := by decide +kernel
theorem dX9_indexOf_10 : decode cX9_indexOf 10 = .ok (.iload_n 3, 1) := by decide +kernel
theorem dX9_indexOf_11 : decode cX9_indexOf 11 = .ok (.if_icmp .ge 32, 3) := by decide +kernel
theorem dX9_indexOf_14 : decode cX9_indexOf 14 = .ok (.lload_n 0, 1) := by decide +kernel
theorem dX9_indexOf_15 : decode cX9_indexOf 15 = .ok (.iconst 2, 1) := by decide +kernel
theorem dX9_indexOf_16 : decode cX9_indexOf 16 = .ok (.iload_n 3, 1) := by decide +kernel
theorem dX9_indexOf_17 : decode cX9_indexOf 17 = .ok (.iconst 1, 1) := by decide +kernel
theorem dX9_indexOf_18 : decode cX9_indexOf 18 = .ok (.isub, 1) := by decide +kernel
theorem dX9_indexOf_19 : decode cX9_indexOf 19 = .ok (.iload 4, 2) := by decide +kernel
theorem dX9_indexOf_21 : decode cX9_indexOf 21 = .ok (.isub, 1) := by decide +kernel
theorem dX9_indexOf_22 : decode cX9_indexOf 22 = .ok (.imul, 1) := by decide +kernel
theorem dX9_indexOf_23 : decode cX9_indexOf 23 = .ok (.lshr, 1) := by decide +kernel
theorem dX9_indexOf_24 : decode cX9_indexOf 24 = .ok (.ldc2_w 13, 3) := by decide +kernel
theorem dX9_indexOf_27 : decode cX9_indexOf 27 = .ok (.land, 1) := by decide +kernel
theorem dX9_indexOf_28 : decode cX9_indexOf 28 = .ok (.iload_n 2, 1) := by decide +kernel
theorem dX9_indexOf_29 : decode cX9_indexOf 29 = .ok (.i2l, 1) := by decide +kernel
theorem dX9_indexOf_30 : decode cX9_indexOf 30 = .ok (.lcmp, 1) := by decide +kernel
theorem dX9_indexOf_31 : decode cX9_indexOf 31 = .ok (.ifCond .ne 6, 3) := by decide +kernel
theorem dX9_indexOf_34 : decode cX9_indexOf 34 = .ok (.iload 4, 2) := by decide +kernel
theorem dX9_indexOf_36 : decode cX9_indexOf 36 = .ok (.ireturn, 1) := by decide +kernel
theorem dX9_indexOf_37 : decode cX9_indexOf 37 = .ok (.iinc 4 1, 3) := by decide +kernel
theorem dX9_indexOf_40 : decode cX9_indexOf 40 = .ok (.goto (-32), 3) := by decide +kernel
theorem dX9_indexOf_43 : decode cX9_indexOf 43 = .ok (.iconst (-1), 1) := by decide +kernel
theorem dX9_indexOf_44 : decode cX9_indexOf 44 = .ok (.ireturn, 1) := by decide +kernel
theorem dX9_below_0 : decode cX9_below 0 = .ok (.lload_n 0, 1) := by decide +kernel
theorem dX9_below_1 : decode cX9_below 1 = .ok (.lstore 4, 2) := by decide +kernel
theorem dX9_below_3 : decode cX9_below 3 = .ok (.lload_n 2, 1) := by decide +kernel
theorem dX9_below_4 : decode cX9_below 4 = .ok (.lstore 6, 2) := by decide +kernel
theorem dX9_below_6 : decode cX9_below 6 = .ok (.iconst 0, 1) := by decide +kernel
theorem dX9_below_7 : decode cX9_below 7 = .ok (.istore 8, 2) := by decide +kernel
theorem dX9_below_9 : decode cX9_below 9 = .ok (.iload 8, 2) := by decide +kernel
theorem dX9_below_11 : decode cX9_below 11 = .ok (.bipush 31, 2) := by decide +kernel
theorem dX9_below_13 : decode cX9_below 13 = .ok (.if_icmp .ge 51, 3) := by decide +kernel
theorem dX9_below_16 : decode cX9_below 16 = .ok (.lload 4, 2) := by decide +kernel
theorem dX9_below_18 : decode cX9_below 18 = .ok (.lconst 1, 1) := by decide +kernel
theorem dX9_below_19 : decode cX9_below 19 = .ok (.lcmp, 1) := by decide +kernel
theorem dX9_below_20 : decode cX9_below 20 = .ok (.ifCond .le 44, 3) := by decide +kernel
theorem dX9_below_23 : decode cX9_below 23 = .ok (.lload 6, 2) := by decide +kernel
theorem dX9_below_25 : decode cX9_below 25 = .ok (.lconst 1, 1) := by decide +kernel
theorem dX9_below_26 : decode cX9_below 26 = .ok (.lcmp, 1) := by decide +kernel
theorem dX9_below_27 : decode cX9_below 27 = .ok (.ifCond .le 37, 3) := by decide +kernel
theorem dX9_below_30 : decode cX9_below 30 = .ok (.lload 4, 2) := by decide +kernel
theorem dX9_below_32 : decode cX9_below 32 = .ok (.ldc2_w 13, 3) := by decide +kernel
theorem dX9_below_35 : decode cX9_below 35 = .ok (.land, 1) := by decide +kernel
theorem dX9_below_36 : decode cX9_below 36 = .ok (.lload 6, 2) := by decide +kernel
theorem dX9_below_38 : decode cX9_below 38 = .ok (.ldc2_w 13, 3) := by decide +kernel
theorem dX9_below_41 : decode cX9_below 41 = .ok (.land, 1) := by decide +kernel
theorem dX9_below_42 : decode cX9_below 42 = .ok (.lcmp, 1) := by decide +kernel
theorem dX9_below_43 : decode cX9_below 43 = .ok (.ifCond .ne 9, 3) := by decide +kernel
theorem dX9_below_46 : decode cX9_below 46 = .ok (.lload 4, 2) := by decide +kernel
theorem dX9_below_48 : decode cX9_below 48 = .ok (.iconst 2, 1) := by decide +kernel
theorem dX9_below_49 : decode cX9_below 49 = .ok (.lshr, 1) := by decide +kernel
theorem dX9_below_50 : decode cX9_below 50 = .ok (.lstore 4, 2) := by decide +kernel
theorem dX9_below_52 : decode cX9_below 52 = .ok (.lload 6, 2) := by decide +kernel
theorem dX9_below_54 : decode cX9_below 54 = .ok (.iconst 2, 1) := by decide +kernel
theorem dX9_below_55 : decode cX9_below 55 = .ok (.lshr, 1) := by decide +kernel
theorem dX9_below_56 : decode cX9_below 56 = .ok (.lstore 6, 2) := by decide +kernel
theorem dX9_below_58 : decode cX9_below 58 = .ok (.iinc 8 1, 3) := by decide +kernel
theorem dX9_below_61 : decode cX9_below 61 = .ok (.goto (-52), 3) := by decide +kernel
theorem dX9_below_64 : decode cX9_below 64 = .ok (.lload 4, 2) := by decide +kernel
theorem dX9_below_66 : decode cX9_below 66 = .ok (.lconst 1, 1) := by decide +kernel
theorem dX9_below_67 : decode cX9_below 67 = .ok (.lcmp, 1) := by decide +kernel
theorem dX9_below_68 : decode cX9_below 68 = .ok (.ifCond .ne 7, 3) := by decide +kernel
theorem dX9_below_71 : decode cX9_below 71 = .ok (.iconst 1, 1) := by decide +kernel
theorem dX9_below_72 : decode cX9_below 72 = .ok (.goto 4, 3) := by decide +kernel
theorem dX9_below_75 : decode cX9_below 75 = .ok (.iconst 0, 1) := by decide +kernel
theorem dX9_below_76 : decode cX9_below 76 = .ok (.ireturn, 1) := by decide +kernel
theorem dX10_init_0 : decode cX10_init 0 = .ok (.aload_n 0, 1) := by decide +kernel
theorem dX10_init_1 : decode cX10_init 1 = .ok (.invokespecial 1, 3) := by decide +kernel
theorem dX10_init_4 : decode cX10_init 4 = .ok (.aload_n 0, 1) := by decide +kernel
theorem dX10_init_5 : decode cX10_init 5 = .ok (.new 7, 3) := by decide +kernel
theorem dX10_init_8 : decode cX10_init 8 = .ok (.dup, 1) := by decide +kernel
theorem dX10_init_9 : decode cX10_init 9 = .ok (.invokespecial 9, 3) := by decide +kernel
theorem dX10_init_12 : decode cX10_init 12 = .ok (.putfield 10, 3) := by decide +kernel
theorem dX10_init_15 : decode cX10_init 15 = .ok (.aload_n 0, 1) := by decide +kernel
theorem dX10_init_16 : decode cX10_init 16 = .ok (.new 16, 3) := by decide +kernel
theorem dX10_init_19 : decode cX10_init 19 = .ok (.dup, 1) := by decide +kernel
theorem dX10_init_20 : decode cX10_init 20 = .ok (.invokespecial 18, 3) := by decide +kernel
theorem dX10_init_23 : decode cX10_init 23 = .ok (.putfield 19, 3) := by decide +kernel
theorem dX10_init_26 : decode cX10_init 26 = .ok (.aload_n 0, 1) := by decide +kernel
theorem dX10_init_27 : decode cX10_init 27 = .ok (.new 23, 3) := by decide +kernel
theorem dX10_init_30 : decode cX10_init 30 = .ok (.dup, 1) := by decide +kernel
theorem dX10_init_31 : decode cX10_init 31 = .ok (.iconst 3, 1) := by decide +kernel
theorem dX10_init_32 : decode cX10_init 32 = .ok (.invokespecial 25, 3) := by decide +kernel
theorem dX10_init_35 : decode cX10_init 35 = .ok (.putfield 28, 3) := by decide +kernel
theorem dX10_init_38 : decode cX10_init 38 = .ok (.aload_n 0, 1) := by decide +kernel
theorem dX10_init_39 : decode cX10_init 39 = .ok (.new 32, 3) := by decide +kernel
theorem dX10_init_42 : decode cX10_init 42 = .ok (.dup, 1) := by decide +kernel
theorem dX10_init_43 : decode cX10_init 43 = .ok (.invokespecial 34, 3) := by decide +kernel
theorem dX10_init_46 : decode cX10_init 46 = .ok (.putfield 35, 3) := by decide +kernel
theorem dX10_init_49 : decode cX10_init 49 = .ok (.aload_n 0, 1) := by decide +kernel
theorem dX10_init_50 : decode cX10_init 50 = .ok (.new 39, 3) := by decide +kernel
theorem dX10_init_53 : decode cX10_init 53 = .ok (.dup, 1) := by decide +kernel
theorem dX10_init_54 : decode cX10_init 54 = .ok (.invokespecial 41, 3) := by decide +kernel
theorem dX10_init_57 : decode cX10_init 57 = .ok (.putfield 42, 3) := by decide +kernel
theorem dX10_init_60 : decode cX10_init 60 = .ok (.aload_n 0, 1) := by decide +kernel
theorem dX10_init_61 : decode cX10_init 61 = .ok (.new 46, 3) := by decide +kernel
theorem dX10_init_64 : decode cX10_init 64 = .ok (.dup, 1) := by decide +kernel
theorem dX10_init_65 : decode cX10_init 65 = .ok (.invokespecial 48, 3) := by decide +kernel
theorem dX10_init_68 : decode cX10_init 68 = .ok (.putfield 49, 3) := by decide +kernel
theorem dX10_init_71 : decode cX10_init 71 = .ok (.aload_n 0, 1) := by decide +kernel
theorem dX10_init_72 : decode cX10_init 72 = .ok (.new 53, 3) := by decide +kernel
theorem dX10_init_75 : decode cX10_init 75 = .ok (.dup, 1) := by decide +kernel
theorem dX10_init_76 : decode cX10_init 76 = .ok (.invokespecial 55, 3) := by decide +kernel
theorem dX10_init_79 : decode cX10_init 79 = .ok (.putfield 56, 3) := by decide +kernel
theorem dX10_init_82 : decode cX10_init 82 = .ok (.aload_n 0, 1) := by decide +kernel
theorem dX10_init_83 : decode cX10_init 83 = .ok (.new 60, 3) := by decide +kernel
theorem dX10_init_86 : decode cX10_init 86 = .ok (.dup, 1) := by decide +kernel
theorem dX10_init_87 : decode cX10_init 87 = .ok (.invokespecial 62, 3) := by decide +kernel
theorem dX10_init_90 : decode cX10_init 90 = .ok (.putfield 63, 3) := by decide +kernel
theorem dX10_init_93 : decode cX10_init 93 = .ok (.aload_n 0, 1) := by decide +kernel
theorem dX10_init_94 : decode cX10_init 94 = .ok (.new 67, 3) := by decide +kernel
theorem dX10_init_97 : decode cX10_init 97 = .ok (.dup, 1) := by decide +kernel
theorem dX10_init_98 : decode cX10_init 98 = .ok (.invokespecial 69, 3) := by decide +kernel
theorem dX10_init_101 : decode cX10_init 101 = .ok (.putfield 70, 3) := by decide +kernel
theorem dX10_init_104 : decode cX10_init 104 = .ok (.return_, 1) := by decide +kernel
theorem dX10_addTransition_0 : decode cX10_addTransition 0 = .ok (.iload_n 1, 1) := by decide +kernel
theorem dX10_addTransition_1 : decode cX10_addTransition 1 = .ok (.invokestatic 74, 3) := by decide +kernel
theorem dX10_addTransition_4 : decode cX10_addTransition 4 = .ok (.ifCond .eq 19, 3) := by decide +kernel
theorem dX10_addTransition_7 : decode cX10_addTransition 7 = .ok (.iload_n 2, 1) := by decide +kernel
theorem dX10_addTransition_8 : decode cX10_addTransition 8 = .ok (.invokestatic 74, 3) := by decide +kernel
theorem dX10_addTransition_11 : decode cX10_addTransition 11 = .ok (.ifCond .eq 12, 3) := by decide +kernel
theorem dX10_addTransition_14 : decode cX10_addTransition 14 = .ok (.iload_n 3, 1) := by decide +kernel
theorem dX10_addTransition_15 : decode cX10_addTransition 15 = .ok (.ifCond .lt 8, 3) := by decide +kernel
theorem dX10_addTransition_18 : decode cX10_addTransition 18 = .ok (.iload_n 3, 1) := by decide +kernel
theorem dX10_addTransition_19 : decode cX10_addTransition 19 = .ok (.iconst 3, 1) := by decide +kernel
theorem dX10_addTransition_20 : decode cX10_addTransition 20 = .ok (.if_icmp .lt 13, 3) := by decide +kernel
theorem dX10_addTransition_23 : decode cX10_addTransition 23 = .ok (.new 78, 3) := by decide +kernel
theorem dX10_addTransition_26 : decode cX10_addTransition 26 = .ok (.dup, 1) := by decide +kernel
theorem dX10_addTransition_27 : decode cX10_addTransition 27 = .ok (.ldc 80, 2) := by decide +kernel
theorem dX10_addTransition_29 : decode cX10_addTransition 29 = .ok (.invokespecial 82, 3) := by decide +kernel
theorem dX10_addTransition_32 : decode cX10_addTransition 32 = .ok (.athrow, 1) := by decide +kernel
theorem dX10_addTransition_33 : decode cX10_addTransition 33 = .ok (.iload_n 3, 1) := by decide +kernel
theorem dX10_addTransition_34 : decode cX10_addTransition 34 = .ok (.ifCond .eq 29, 3) := by decide +kernel
theorem dX10_addTransition_37 : decode cX10_addTransition 37 = .ok (.iload 4, 2) := by decide +kernel
theorem dX10_addTransition_39 : decode cX10_addTransition 39 = .ok (.invokestatic 85, 3) := by decide +kernel
theorem dX10_addTransition_42 : decode cX10_addTransition 42 = .ok (.ifCond .eq 11, 3) := by decide +kernel
theorem dX10_addTransition_45 : decode cX10_addTransition 45 = .ok (.iload 5, 2) := by decide +kernel
theorem dX10_addTransition_47 : decode cX10_addTransition 47 = .ok (.invokestatic 88, 3) := by decide +kernel
theorem dX10_addTransition_50 : decode cX10_addTransition 50 = .ok (.ifCond .ne 13, 3) := by decide +kernel
theorem dX10_addTransition_53 : decode cX10_addTransition 53 = .ok (.new 78, 3) := by decide +kernel
theorem dX10_addTransition_56 : decode cX10_addTransition 56 = .ok (.dup, 1) := by decide +kernel
theorem dX10_addTransition_57 : decode cX10_addTransition 57 = .ok (.ldc 91, 2) := by decide +kernel
theorem dX10_addTransition_59 : decode cX10_addTransition 59 = .ok (.invokespecial 82, 3) := by decide +kernel
theorem dX10_addTransition_62 : decode cX10_addTransition 62 = .ok (.athrow, 1) := by decide +kernel
theorem dX10_addTransition_63 : decode cX10_addTransition 63 = .ok (.aload_n 0, 1) := by decide +kernel
theorem dX10_addTransition_64 : decode cX10_addTransition 64 = .ok (.getfield 10, 3) := by decide +kernel
theorem dX10_addTransition_67 : decode cX10_addTransition 67 = .ok (.invokevirtual 93, 3) := by decide +kernel
theorem dX10_addTransition_70 : decode cX10_addTransition 70 = .ok (.bipush 10, 2) := by decide +kernel
theorem dX10_addTransition_72 : decode cX10_addTransition 72 = .ok (.if_icmp .lt 13, 3) := by decide +kernel
theorem dX10_addTransition_75 : decode cX10_addTransition 75 = .ok (.new 97, 3) := by decide +kernel
theorem dX10_addTransition_78 : decode cX10_addTransition 78 = .ok (.dup, 1) := by decide +kernel
theorem dX10_addTransition_79 : decode cX10_addTransition 79 = .ok (.ldc 99, 2) := by decide +kernel
theorem dX10_addTransition_81 : decode cX10_addTransition 81 = .ok (.invokespecial 101, 3) := by decide +kernel
theorem dX10_addTransition_84 : decode cX10_addTransition 84 = .ok (.athrow, 1) := by decide +kernel
theorem dX10_addTransition_85 : decode cX10_addTransition 85 = .ok (.aload_n 0, 1) := by decide +kernel
theorem dX10_addTransition_86 : decode cX10_addTransition 86 = .ok (.getfield 10, 3) := by decide +kernel
theorem dX10_addTransition_89 : decode cX10_addTransition 89 = .ok (.iload_n 1, 1) := by decide +kernel
theorem dX10_addTransition_90 : decode cX10_addTransition 90 = .ok (.iload_n 2, 1) := by decide +kernel
theorem dX10_addTransition_91 : decode cX10_addTransition 91 = .ok (.iload_n 3, 1) := by decide +kernel
theorem dX10_addTransition_92 : decode cX10_addTransition 92 = .ok (.iload 4, 2) := by decide +kernel
theorem dX10_addTransition_94 : decode cX10_addTransition 94 = .ok (.iload 5, 2) := by decide +kernel
theorem dX10_addTransition_96 : decode cX10_addTransition 96 = .ok (.invokevirtual 102, 3) := by decide +kernel
theorem dX10_addTransition_99 : decode cX10_addTransition 99 = .ok (.aload_n 0, 1) := by decide +kernel
theorem dX10_addTransition_100 : decode cX10_addTransition 100 = .ok (.getfield 49, 3) := by decide +kernel
theorem dX10_addTransition_103 : decode cX10_addTransition 103 = .ok (.invokevirtual 106, 3) := by decide +kernel
theorem dX10_addTransition_106 : decode cX10_addTransition 106 = .ok (.aload_n 0, 1) := by decide +kernel
theorem dX10_addTransition_107 : decode cX10_addTransition 107 = .ok (.getfield 10, 3) := by decide +kernel
theorem dX10_addTransition_110 : decode cX10_addTransition 110 = .ok (.invokevirtual 93, 3) := by decide +kernel
theorem dX10_addTransition_113 : decode cX10_addTransition 113 = .ok (.iconst 1, 1) := by decide +kernel
theorem dX10_addTransition_114 : decode cX10_addTransition 114 = .ok (.isub, 1) := by decide +kernel
theorem dX10_addTransition_115 : decode cX10_addTransition 115 = .ok (.ireturn, 1) := by decide +kernel
theorem dX10_removeTransition_0 : decode cX10_removeTransition 0 = .ok (.aload_n 0, 1) := by decide +kernel
theorem dX10_removeTransition_1 : decode cX10_removeTransition 1 = .ok (.iload_n 1, 1) := by decide +kernel
theorem dX10_removeTransition_2 : decode cX10_removeTransition 2 = .ok (.invokevirtual 109, 3) := by decide +kernel
theorem dX10_removeTransition_5 : decode cX10_removeTransition 5 = .ok (.aload_n 0, 1) := by decide +kernel
theorem dX10_removeTransition_6 : decode cX10_removeTransition 6 = .ok (.getfield 10, 3) := by decide +kernel
theorem dX10_removeTransition_9 : decode cX10_removeTransition 9 = .ok (.iload_n 1, 1) := by decide +kernel
theorem dX10_removeTransition_10 : decode cX10_removeTransition 10 = .ok (.invokevirtual 112, 3) := by decide +kernel
theorem dX10_removeTransition_13 : decode cX10_removeTransition 13 = .ok (.aload_n 0, 1) := by decide +kernel
theorem dX10_removeTransition_14 : decode cX10_removeTransition 14 = .ok (.getfield 49, 3) := by decide +kernel
theorem dX10_removeTransition_17 : decode cX10_removeTransition 17 = .ok (.invokevirtual 106, 3) := by decide +kernel
theorem dX10_removeTransition_20 : decode cX10_removeTransition 20 = .ok (.aload_n 0, 1) := by decide +kernel
theorem dX10_removeTransition_21 : decode cX10_removeTransition 21 = .ok (.getfield 10, 3) := by decide +kernel
theorem dX10_removeTransition_24 : decode cX10_removeTransition 24 = .ok (.invokevirtual 93, 3) := by decide +kernel
theorem dX10_removeTransition_27 : decode cX10_removeTransition 27 = .ok (.ireturn, 1) := by decide +kernel
theorem dX10_transition_0 : decode cX10_transition 0 = .ok (.aload_n 0, 1) := by decide +kernel
theorem dX10_transition_1 : decode cX10_transition 1 = .ok (.iload_n 1, 1) := by decide +kernel
theorem dX10_transition_2 : decode cX10_transition 2 = .ok (.invokevirtual 109, 3) := by decide +kernel
theorem dX10_transition_5 : decode cX10_transition 5 = .ok (.iload_n 2, 1) := by decide +kernel
theorem dX10_transition_6 : decode cX10_transition 6 = .ok (.ifCond .lt 8, 3) := by decide +kernel
theorem dX10_transition_9 : decode cX10_transition 9 = .ok (.iload_n 2, 1) := by decide +kernel
theorem dX10_transition_10 : decode cX10_transition 10 = .ok (.iconst 5, 1) := by decide +kernel
theorem dX10_transition_11 : decode cX10_transition 11 = .ok (.if_icmp .lt 13, 3) := by decide +kernel
theorem dX10_transition_14 : decode cX10_transition 14 = .ok (.new 78, 3) := by decide +kernel
theorem dX10_transition_17 : decode cX10_transition 17 = .ok (.dup, 1) := by decide +kernel
theorem dX10_transition_18 : decode cX10_transition 18 = .ok (.ldc 115, 2) := by decide +kernel
theorem dX10_transition_20 : decode cX10_transition 20 = .ok (.invokespecial 82, 3) := by decide +kernel
theorem dX10_transition_23 : decode cX10_transition 23 = .ok (.athrow, 1) := by decide +kernel
theorem dX10_transition_24 : decode cX10_transition 24 = .ok (.aload_n 0, 1) := by decide +kernel
theorem dX10_transition_25 : decode cX10_transition 25 = .ok (.getfield 10, 3) := by decide +kernel
theorem dX10_transition_28 : decode cX10_transition 28 = .ok (.iload_n 1, 1) := by decide +kernel
theorem dX10_transition_29 : decode cX10_transition 29 = .ok (.iload_n 2, 1) := by decide +kernel
theorem dX10_transition_30 : decode cX10_transition 30 = .ok (.invokevirtual 117, 3) := by decide +kernel
theorem dX10_transition_33 : decode cX10_transition 33 = .ok (.ireturn, 1) := by decide +kernel
theorem dX10_transitionCount_0 : decode cX10_transitionCount 0 = .ok (.aload_n 0, 1) := by decide +kernel
theorem dX10_transitionCount_1 : decode cX10_transitionCount 1 = .ok (.getfield 10, 3) := by decide +kernel
theorem dX10_transitionCount_4 : decode cX10_transitionCount 4 = .ok (.invokevirtual 93, 3) := by decide +kernel
theorem dX10_transitionCount_7 : decode cX10_transitionCount 7 = .ok (.ireturn, 1) := by decide +kernel
theorem dX10_setState_0 : decode cX10_setState 0 = .ok (.iload_n 1, 1) := by decide +kernel
theorem dX10_setState_1 : decode cX10_setState 1 = .ok (.invokestatic 74, 3) := by decide +kernel
theorem dX10_setState_4 : decode cX10_setState 4 = .ok (.ifCond .ne 13, 3) := by decide +kernel
theorem dX10_setState_7 : decode cX10_setState 7 = .ok (.new 78, 3) := by decide +kernel
theorem dX10_setState_10 : decode cX10_setState 10 = .ok (.dup, 1) := by decide +kernel
theorem dX10_setState_11 : decode cX10_setState 11 = .ok (.ldc 121, 2) := by decide +kernel
theorem dX10_setState_13 : decode cX10_setState 13 = .ok (.invokespecial 82, 3) := by decide +kernel
theorem dX10_setState_16 : decode cX10_setState 16 = .ok (.athrow, 1) := by decide +kernel
theorem dX10_setState_17 : decode cX10_setState 17 = .ok (.aload_n 0, 1) := by decide +kernel
theorem dX10_setState_18 : decode cX10_setState 18 = .ok (.getfield 19, 3) := by decide +kernel
theorem dX10_setState_21 : decode cX10_setState 21 = .ok (.getfield 123, 3) := by decide +kernel
theorem dX10_setState_24 : decode cX10_setState 24 = .ok (.istore_n 2, 1) := by decide +kernel
theorem dX10_setState_25 : decode cX10_setState 25 = .ok (.aload_n 0, 1) := by decide +kernel
theorem dX10_setState_26 : decode cX10_setState 26 = .ok (.getfield 19, 3) := by decide +kernel
theorem dX10_setState_29 : decode cX10_setState 29 = .ok (.iload_n 1, 1) := by decide +kernel
theorem dX10_setState_30 : decode cX10_setState 30 = .ok (.putfield 123, 3) := by decide +kernel
theorem dX10_setState_33 : decode cX10_setState 33 = .ok (.aload_n 0, 1) := by decide +kernel
theorem dX10_setState_34 : decode cX10_setState 34 = .ok (.getfield 35, 3) := by decide +kernel
theorem dX10_setState_37 : decode cX10_setState 37 = .ok (.invokevirtual 127, 3) := by decide +kernel
theorem dX10_setState_40 : decode cX10_setState 40 = .ok (.iload_n 2, 1) := by decide +kernel
theorem dX10_setState_41 : decode cX10_setState 41 = .ok (.ireturn, 1) := by decide +kernel
theorem dX10_put_0 : decode cX10_put 0 = .ok (.iload_n 1, 1) := by decide +kernel
theorem dX10_put_1 : decode cX10_put 1 = .ok (.invokestatic 130, 3) := by decide +kernel
theorem dX10_put_4 : decode cX10_put 4 = .ok (.iload_n 2, 1) := by decide +kernel
theorem dX10_put_5 : decode cX10_put 5 = .ok (.invokestatic 88, 3) := by decide +kernel
theorem dX10_put_8 : decode cX10_put 8 = .ok (.ifCond .ne 13, 3) := by decide +kernel
theorem dX10_put_11 : decode cX10_put 11 = .ok (.new 78, 3) := by decide +kernel
theorem dX10_put_14 : decode cX10_put 14 = .ok (.dup, 1) := by decide +kernel
theorem dX10_put_15 : decode cX10_put 15 = .ok (.ldc 133, 2) := by decide +kernel
theorem dX10_put_17 : decode cX10_put 17 = .ok (.invokespecial 82, 3) := by decide +kernel
theorem dX10_put_20 : decode cX10_put 20 = .ok (.athrow, 1) := by decide +kernel
theorem dX10_put_21 : decode cX10_put 21 = .ok (.aload_n 0, 1) := by decide +kernel
theorem dX10_put_22 : decode cX10_put 22 = .ok (.getfield 19, 3) := by decide +kernel
theorem dX10_put_25 : decode cX10_put 25 = .ok (.iload_n 1, 1) := by decide +kernel
theorem dX10_put_26 : decode cX10_put 26 = .ok (.invokevirtual 135, 3) := by decide +kernel
theorem dX10_put_29 : decode cX10_put 29 = .ok (.invokestatic 139, 3) := by decide +kernel
theorem dX10_put_32 : decode cX10_put 32 = .ok (.istore_n 3, 1) := by decide +kernel
theorem dX10_put_33 : decode cX10_put 33 = .ok (.iload_n 3, 1) := by decide +kernel
theorem dX10_put_34 : decode cX10_put 34 = .ok (.bipush 10, 2) := by decide +kernel
theorem dX10_put_36 : decode cX10_put 36 = .ok (.if_icmp .lt 13, 3) := by decide +kernel
theorem dX10_put_39 : decode cX10_put 39 = .ok (.new 97, 3) := by decide +kernel
theorem dX10_put_42 : decode cX10_put 42 = .ok (.dup, 1) := by decide +kernel
theorem dX10_put_43 : decode cX10_put 43 = .ok (.ldc 145, 2) := by decide +kernel
theorem dX10_put_45 : decode cX10_put 45 = .ok (.invokespecial 101, 3) := by decide +kernel
theorem dX10_put_48 : decode cX10_put 48 = .ok (.athrow, 1) := by decide +kernel
theorem dX10_put_49 : decode cX10_put 49 = .ok (.aload_n 0, 1) := by decide +kernel
theorem dX10_put_50 : decode cX10_put 50 = .ok (.getfield 19, 3) := by decide +kernel
theorem dX10_put_53 : decode cX10_put 53 = .ok (.iload_n 1, 1) := by decide +kernel
theorem dX10_put_54 : decode cX10_put 54 = .ok (.aload_n 0, 1) := by decide +kernel
theorem dX10_put_55 : decode cX10_put 55 = .ok (.getfield 19, 3) := by decide +kernel
theorem dX10_put_58 : decode cX10_put 58 = .ok (.iload_n 1, 1) := by decide +kernel
theorem dX10_put_59 : decode cX10_put 59 = .ok (.invokevirtual 135, 3) := by decide +kernel
theorem dX10_put_62 : decode cX10_put 62 = .ok (.iload_n 2, 1) := by decide +kernel
theorem dX10_put_63 : decode cX10_put 63 = .ok (.invokestatic 147, 3) := by decide +kernel
theorem dX10_put_66 : decode cX10_put 66 = .ok (.invokevirtual 151, 3) := by decide +kernel
theorem dX10_put_69 : decode cX10_put 69 = .ok (.aload_n 0, 1) := by decide +kernel
theorem dX10_put_70 : decode cX10_put 70 = .ok (.getfield 35, 3) := by decide +kernel
theorem dX10_put_73 : decode cX10_put 73 = .ok (.invokevirtual 127, 3) := by decide +kernel
theorem dX10_put_76 : decode cX10_put 76 = .ok (.iload_n 3, 1) := by decide +kernel
theorem dX10_put_77 : decode cX10_put 77 = .ok (.iconst 1, 1) := by decide +kernel
theorem dX10_put_78 : decode cX10_put 78 = .ok (.iadd, 1) := by decide +kernel
theorem dX10_put_79 : decode cX10_put 79 = .ok (.ireturn, 1) := by decide +kernel
theorem dX10_clear_0 : decode cX10_clear 0 = .ok (.iload_n 1, 1) := by decide +kernel
theorem dX10_clear_1 : decode cX10_clear 1 = .ok (.invokestatic 130, 3) := by decide +kernel
theorem dX10_clear_4 : decode cX10_clear 4 = .ok (.aload_n 0, 1) := by decide +kernel
theorem dX10_clear_5 : decode cX10_clear 5 = .ok (.getfield 19, 3) := by decide +kernel
theorem dX10_clear_8 : decode cX10_clear 8 = .ok (.iload_n 1, 1) := by decide +kernel
theorem dX10_clear_9 : decode cX10_clear 9 = .ok (.invokevirtual 135, 3) := by decide +kernel
theorem dX10_clear_12 : decode cX10_clear 12 = .ok (.invokestatic 139, 3) := by decide +kernel
theorem dX10_clear_15 : decode cX10_clear 15 = .ok (.istore_n 2, 1) := by decide +kernel
theorem dX10_clear_16 : decode cX10_clear 16 = .ok (.aload_n 0, 1) := by decide +kernel
theorem dX10_clear_17 : decode cX10_clear 17 = .ok (.getfield 19, 3) := by decide +kernel
theorem dX10_clear_20 : decode cX10_clear 20 = .ok (.iload_n 1, 1) := by decide +kernel
theorem dX10_clear_21 : decode cX10_clear 21 = .ok (.lconst 1, 1) := by decide +kernel
theorem dX10_clear_22 : decode cX10_clear 22 = .ok (.invokevirtual 151, 3) := by decide +kernel
theorem dX10_clear_25 : decode cX10_clear 25 = .ok (.aload_n 0, 1) := by decide +kernel
theorem dX10_clear_26 : decode cX10_clear 26 = .ok (.getfield 35, 3) := by decide +kernel
theorem dX10_clear_29 : decode cX10_clear 29 = .ok (.invokevirtual 127, 3) := by decide +kernel
theorem dX10_clear_32 : decode cX10_clear 32 = .ok (.iload_n 2, 1) := by decide +kernel
theorem dX10_clear_33 : decode cX10_clear 33 = .ok (.ireturn, 1) := by decide +kernel
theorem dX10_state_0 : decode cX10_state 0 = .ok (.aload_n 0, 1) := by decide +kernel
theorem dX10_state_1 : decode cX10_state 1 = .ok (.getfield 19, 3) := by decide +kernel
theorem dX10_state_4 : decode cX10_state 4 = .ok (.getfield 123, 3) := by decide +kernel
theorem dX10_state_7 : decode cX10_state 7 = .ok (.ireturn, 1) := by decide +kernel
theorem dX10_length_0 : decode cX10_length 0 = .ok (.iload_n 1, 1) := by decide +kernel
theorem dX10_length_1 : decode cX10_length 1 = .ok (.invokestatic 130, 3) := by decide +kernel
theorem dX10_length_4 : decode cX10_length 4 = .ok (.aload_n 0, 1) := by decide +kernel
theorem dX10_length_5 : decode cX10_length 5 = .ok (.getfield 19, 3) := by decide +kernel
theorem dX10_length_8 : decode cX10_length 8 = .ok (.iload_n 1, 1) := by decide +kernel
theorem dX10_length_9 : decode cX10_length 9 = .ok (.invokevirtual 135, 3) := by decide +kernel
theorem dX10_length_12 : decode cX10_length 12 = .ok (.invokestatic 139, 3) := by decide +kernel
theorem dX10_length_15 : decode cX10_length 15 = .ok (.ireturn, 1) := by decide +kernel
theorem dX10_letter_0 : decode cX10_letter 0 = .ok (.iload_n 1, 1) := by decide +kernel
theorem dX10_letter_1 : decode cX10_letter 1 = .ok (.invokestatic 130, 3) := by decide +kernel
theorem dX10_letter_4 : decode cX10_letter 4 = .ok (.aload_n 0, 1) := by decide +kernel
theorem dX10_letter_5 : decode cX10_letter 5 = .ok (.iload_n 1, 1) := by decide +kernel
theorem dX10_letter_6 : decode cX10_letter 6 = .ok (.iload_n 2, 1) := by decide +kernel
theorem dX10_letter_7 : decode cX10_letter 7 = .ok (.invokevirtual 155, 3) := by decide +kernel
theorem dX10_letter_10 : decode cX10_letter 10 = .ok (.aload_n 0, 1) := by decide +kernel
theorem dX10_letter_11 : decode cX10_letter 11 = .ok (.getfield 19, 3) := by decide +kernel
theorem dX10_letter_14 : decode cX10_letter 14 = .ok (.iload_n 1, 1) := by decide +kernel
theorem dX10_letter_15 : decode cX10_letter 15 = .ok (.invokevirtual 135, 3) := by decide +kernel
theorem dX10_letter_18 : decode cX10_letter 18 = .ok (.iload_n 2, 1) := by decide +kernel
theorem dX10_letter_19 : decode cX10_letter 19 = .ok (.invokestatic 159, 3) := by decide +kernel
theorem dX10_letter_22 : decode cX10_letter 22 = .ok (.ireturn, 1) := by decide +kernel
theorem dX10_enabled_0 : decode cX10_enabled 0 = .ok (.aload_n 0, 1) := by decide +kernel
theorem dX10_enabled_1 : decode cX10_enabled 1 = .ok (.getfield 10, 3) := by decide +kernel
theorem dX10_enabled_4 : decode cX10_enabled 4 = .ok (.aload_n 0, 1) := by decide +kernel
theorem dX10_enabled_5 : decode cX10_enabled 5 = .ok (.getfield 19, 3) := by decide +kernel
theorem dX10_enabled_8 : decode cX10_enabled 8 = .ok (.iload_n 1, 1) := by decide +kernel
theorem dX10_enabled_9 : decode cX10_enabled 9 = .ok (.invokevirtual 163, 3) := by decide +kernel
theorem dX10_enabled_12 : decode cX10_enabled 12 = .ok (.ireturn, 1) := by decide +kernel
theorem dX10_fire_0 : decode cX10_fire 0 = .ok (.aload_n 0, 1) := by decide +kernel
theorem dX10_fire_1 : decode cX10_fire 1 = .ok (.iload_n 1, 1) := by decide +kernel
theorem dX10_fire_2 : decode cX10_fire 2 = .ok (.invokevirtual 109, 3) := by decide +kernel
theorem dX10_fire_5 : decode cX10_fire 5 = .ok (.aload_n 0, 1) := by decide +kernel
theorem dX10_fire_6 : decode cX10_fire 6 = .ok (.getfield 10, 3) := by decide +kernel
theorem dX10_fire_9 : decode cX10_fire 9 = .ok (.iload_n 1, 1) := by decide +kernel
theorem dX10_fire_10 : decode cX10_fire 10 = .ok (.aload_n 0, 1) := by decide +kernel
theorem dX10_fire_11 : decode cX10_fire 11 = .ok (.getfield 19, 3) := by decide +kernel
theorem dX10_fire_14 : decode cX10_fire 14 = .ok (.iconst 0, 1) := by decide +kernel
theorem dX10_fire_15 : decode cX10_fire 15 = .ok (.invokevirtual 167, 3) := by decide +kernel
theorem dX10_fire_18 : decode cX10_fire 18 = .ok (.ifCond .ne 13, 3) := by decide +kernel
theorem dX10_fire_21 : decode cX10_fire 21 = .ok (.new 97, 3) := by decide +kernel
theorem dX10_fire_24 : decode cX10_fire 24 = .ok (.dup, 1) := by decide +kernel
theorem dX10_fire_25 : decode cX10_fire 25 = .ok (.ldc 171, 2) := by decide +kernel
theorem dX10_fire_27 : decode cX10_fire 27 = .ok (.invokespecial 101, 3) := by decide +kernel
theorem dX10_fire_30 : decode cX10_fire 30 = .ok (.athrow, 1) := by decide +kernel
theorem dX10_fire_31 : decode cX10_fire 31 = .ok (.aload_n 0, 1) := by decide +kernel
theorem dX10_fire_32 : decode cX10_fire 32 = .ok (.getfield 10, 3) := by decide +kernel
theorem dX10_fire_35 : decode cX10_fire 35 = .ok (.iload_n 1, 1) := by decide +kernel
theorem dX10_fire_36 : decode cX10_fire 36 = .ok (.aload_n 0, 1) := by decide +kernel
theorem dX10_fire_37 : decode cX10_fire 37 = .ok (.getfield 19, 3) := by decide +kernel
theorem dX10_fire_40 : decode cX10_fire 40 = .ok (.invokevirtual 173, 3) := by decide +kernel
theorem dX10_fire_43 : decode cX10_fire 43 = .ok (.ifCond .eq 13, 3) := by decide +kernel
theorem dX10_fire_46 : decode cX10_fire 46 = .ok (.new 97, 3) := by decide +kernel
theorem dX10_fire_49 : decode cX10_fire 49 = .ok (.dup, 1) := by decide +kernel
theorem dX10_fire_50 : decode cX10_fire 50 = .ok (.ldc 145, 2) := by decide +kernel
theorem dX10_fire_52 : decode cX10_fire 52 = .ok (.invokespecial 101, 3) := by decide +kernel
theorem dX10_fire_55 : decode cX10_fire 55 = .ok (.athrow, 1) := by decide +kernel
theorem dX10_fire_56 : decode cX10_fire 56 = .ok (.aload_n 0, 1) := by decide +kernel
theorem dX10_fire_57 : decode cX10_fire 57 = .ok (.getfield 35, 3) := by decide +kernel
theorem dX10_fire_60 : decode cX10_fire 60 = .ok (.aload_n 0, 1) := by decide +kernel
theorem dX10_fire_61 : decode cX10_fire 61 = .ok (.getfield 19, 3) := by decide +kernel
theorem dX10_fire_64 : decode cX10_fire 64 = .ok (.iconst 0, 1) := by decide +kernel
theorem dX10_fire_65 : decode cX10_fire 65 = .ok (.invokevirtual 177, 3) := by decide +kernel
theorem dX10_fire_68 : decode cX10_fire 68 = .ok (.aload_n 0, 1) := by decide +kernel
theorem dX10_fire_69 : decode cX10_fire 69 = .ok (.getfield 10, 3) := by decide +kernel
theorem dX10_fire_72 : decode cX10_fire 72 = .ok (.iload_n 1, 1) := by decide +kernel
theorem dX10_fire_73 : decode cX10_fire 73 = .ok (.aload_n 0, 1) := by decide +kernel
theorem dX10_fire_74 : decode cX10_fire 74 = .ok (.getfield 19, 3) := by decide +kernel
theorem dX10_fire_77 : decode cX10_fire 77 = .ok (.invokevirtual 181, 3) := by decide +kernel
theorem dX10_fire_80 : decode cX10_fire 80 = .ok (.pop, 1) := by decide +kernel
theorem dX10_fire_81 : decode cX10_fire 81 = .ok (.aload_n 0, 1) := by decide +kernel
theorem dX10_fire_82 : decode cX10_fire 82 = .ok (.getfield 19, 3) := by decide +kernel
theorem dX10_fire_85 : decode cX10_fire 85 = .ok (.getfield 123, 3) := by decide +kernel
theorem dX10_fire_88 : decode cX10_fire 88 = .ok (.ireturn, 1) := by decide +kernel
theorem dX10_lose_0 : decode cX10_lose 0 = .ok (.iload_n 1, 1) := by decide +kernel
theorem dX10_lose_1 : decode cX10_lose 1 = .ok (.invokestatic 130, 3) := by decide +kernel
theorem dX10_lose_4 : decode cX10_lose 4 = .ok (.aload_n 0, 1) := by decide +kernel
theorem dX10_lose_5 : decode cX10_lose 5 = .ok (.iload_n 1, 1) := by decide +kernel
theorem dX10_lose_6 : decode cX10_lose 6 = .ok (.iload_n 2, 1) := by decide +kernel
theorem dX10_lose_7 : decode cX10_lose 7 = .ok (.invokevirtual 155, 3) := by decide +kernel
theorem dX10_lose_10 : decode cX10_lose 10 = .ok (.aload_n 0, 1) := by decide +kernel
theorem dX10_lose_11 : decode cX10_lose 11 = .ok (.getfield 19, 3) := by decide +kernel
theorem dX10_lose_14 : decode cX10_lose 14 = .ok (.iload_n 1, 1) := by decide +kernel
theorem dX10_lose_15 : decode cX10_lose 15 = .ok (.invokevirtual 135, 3) := by decide +kernel
theorem dX10_lose_18 : decode cX10_lose 18 = .ok (.lstore_n 3, 1) := by decide +kernel
theorem dX10_lose_19 : decode cX10_lose 19 = .ok (.aload_n 0, 1) := by decide +kernel
theorem dX10_lose_20 : decode cX10_lose 20 = .ok (.getfield 35, 3) := by decide +kernel
theorem dX10_lose_23 : decode cX10_lose 23 = .ok (.aload_n 0, 1) := by decide +kernel
theorem dX10_lose_24 : decode cX10_lose 24 = .ok (.getfield 19, 3) := by decide +kernel
theorem dX10_lose_27 : decode cX10_lose 27 = .ok (.iconst 1, 1) := by decide +kernel
theorem dX10_lose_28 : decode cX10_lose 28 = .ok (.invokevirtual 177, 3) := by decide +kernel
theorem dX10_lose_31 : decode cX10_lose 31 = .ok (.aload_n 0, 1) := by decide +kernel
theorem dX10_lose_32 : decode cX10_lose 32 = .ok (.getfield 19, 3) := by decide +kernel
theorem dX10_lose_35 : decode cX10_lose 35 = .ok (.iload_n 1, 1) := by decide +kernel
theorem dX10_lose_36 : decode cX10_lose 36 = .ok (.lload_n 3, 1) := by decide +kernel
theorem dX10_lose_37 : decode cX10_lose 37 = .ok (.iload_n 2, 1) := by decide +kernel
theorem dX10_lose_38 : decode cX10_lose 38 = .ok (.invokestatic 185, 3) := by decide +kernel
theorem dX10_lose_41 : decode cX10_lose 41 = .ok (.invokevirtual 151, 3) := by decide +kernel
theorem dX10_lose_44 : decode cX10_lose 44 = .ok (.lload_n 3, 1) := by decide +kernel
theorem dX10_lose_45 : decode cX10_lose 45 = .ok (.iload_n 2, 1) := by decide +kernel
theorem dX10_lose_46 : decode cX10_lose 46 = .ok (.invokestatic 159, 3) := by decide +kernel
theorem dX10_lose_49 : decode cX10_lose 49 = .ok (.ireturn, 1) := by decide +kernel
theorem dX10_undo_0 : decode cX10_undo 0 = .ok (.aload_n 0, 1) := by decide +kernel
theorem dX10_undo_1 : decode cX10_undo 1 = .ok (.getfield 35, 3) := by decide +kernel
theorem dX10_undo_4 : decode cX10_undo 4 = .ok (.invokevirtual 188, 3) := by decide +kernel
theorem dX10_undo_7 : decode cX10_undo 7 = .ok (.ifCond .ne 13, 3) := by decide +kernel
theorem dX10_undo_10 : decode cX10_undo 10 = .ok (.new 97, 3) := by decide +kernel
theorem dX10_undo_13 : decode cX10_undo 13 = .ok (.dup, 1) := by decide +kernel
theorem dX10_undo_14 : decode cX10_undo 14 = .ok (.ldc 191, 2) := by decide +kernel
theorem dX10_undo_16 : decode cX10_undo 16 = .ok (.invokespecial 101, 3) := by decide +kernel
theorem dX10_undo_19 : decode cX10_undo 19 = .ok (.athrow, 1) := by decide +kernel
theorem dX10_undo_20 : decode cX10_undo 20 = .ok (.aload_n 0, 1) := by decide +kernel
theorem dX10_undo_21 : decode cX10_undo 21 = .ok (.getfield 35, 3) := by decide +kernel
theorem dX10_undo_24 : decode cX10_undo 24 = .ok (.aload_n 0, 1) := by decide +kernel
theorem dX10_undo_25 : decode cX10_undo 25 = .ok (.getfield 19, 3) := by decide +kernel
theorem dX10_undo_28 : decode cX10_undo 28 = .ok (.invokevirtual 193, 3) := by decide +kernel
theorem dX10_undo_31 : decode cX10_undo 31 = .ok (.ireturn, 1) := by decide +kernel
theorem dX10_increase_0 : decode cX10_increase 0 = .ok (.aload_n 0, 1) := by decide +kernel
theorem dX10_increase_1 : decode cX10_increase 1 = .ok (.getfield 35, 3) := by decide +kernel
theorem dX10_increase_4 : decode cX10_increase 4 = .ok (.aload_n 0, 1) := by decide +kernel
theorem dX10_increase_5 : decode cX10_increase 5 = .ok (.getfield 19, 3) := by decide +kernel
theorem dX10_increase_8 : decode cX10_increase 8 = .ok (.invokevirtual 197, 3) := by decide +kernel
theorem dX10_increase_11 : decode cX10_increase 11 = .ok (.ireturn, 1) := by decide +kernel
theorem dX10_isBelow_0 : decode cX10_isBelow 0 = .ok (.iload_n 1, 1) := by decide +kernel
theorem dX10_isBelow_1 : decode cX10_isBelow 1 = .ok (.invokestatic 130, 3) := by decide +kernel
theorem dX10_isBelow_4 : decode cX10_isBelow 4 = .ok (.aload_n 0, 1) := by decide +kernel
theorem dX10_isBelow_5 : decode cX10_isBelow 5 = .ok (.getfield 19, 3) := by decide +kernel
theorem dX10_isBelow_8 : decode cX10_isBelow 8 = .ok (.iload_n 1, 1) := by decide +kernel
theorem dX10_isBelow_9 : decode cX10_isBelow 9 = .ok (.invokevirtual 135, 3) := by decide +kernel
theorem dX10_isBelow_12 : decode cX10_isBelow 12 = .ok (.aload_n 0, 1) := by decide +kernel
theorem dX10_isBelow_13 : decode cX10_isBelow 13 = .ok (.getfield 19, 3) := by decide +kernel
theorem dX10_isBelow_16 : decode cX10_isBelow 16 = .ok (.iload_n 1, 1) := by decide +kernel
theorem dX10_isBelow_17 : decode cX10_isBelow 17 = .ok (.invokestatic 200, 3) := by decide +kernel
theorem dX10_isBelow_20 : decode cX10_isBelow 20 = .ok (.invokevirtual 135, 3) := by decide +kernel
theorem dX10_isBelow_23 : decode cX10_isBelow 23 = .ok (.invokestatic 204, 3) := by decide +kernel
theorem dX10_isBelow_26 : decode cX10_isBelow 26 = .ok (.ireturn, 1) := by decide +kernel
theorem dX10_embeddings_0 : decode cX10_embeddings 0 = .ok (.iload_n 1, 1) := by decide +kernel
theorem dX10_embeddings_1 : decode cX10_embeddings 1 = .ok (.invokestatic 130, 3) := by decide +kernel
theorem dX10_embeddings_4 : decode cX10_embeddings 4 = .ok (.aload_n 0, 1) := by decide +kernel
theorem dX10_embeddings_5 : decode cX10_embeddings 5 = .ok (.getfield 42, 3) := by decide +kernel
theorem dX10_embeddings_8 : decode cX10_embeddings 8 = .ok (.aload_n 0, 1) := by decide +kernel
theorem dX10_embeddings_9 : decode cX10_embeddings 9 = .ok (.getfield 19, 3) := by decide +kernel
theorem dX10_embeddings_12 : decode cX10_embeddings 12 = .ok (.iload_n 1, 1) := by decide +kernel
theorem dX10_embeddings_13 : decode cX10_embeddings 13 = .ok (.invokevirtual 135, 3) := by decide +kernel
theorem dX10_embeddings_16 : decode cX10_embeddings 16 = .ok (.aload_n 0, 1) := by decide +kernel
theorem dX10_embeddings_17 : decode cX10_embeddings 17 = .ok (.getfield 19, 3) := by decide +kernel
theorem dX10_embeddings_20 : decode cX10_embeddings 20 = .ok (.iload_n 1, 1) := by decide +kernel
theorem dX10_embeddings_21 : decode cX10_embeddings 21 = .ok (.invokestatic 200, 3) := by decide +kernel
theorem dX10_embeddings_24 : decode cX10_embeddings 24 = .ok (.invokevirtual 135, 3) := by decide +kernel
theorem dX10_embeddings_27 : decode cX10_embeddings 27 = .ok (.invokevirtual 208, 3) := by decide +kernel
theorem dX10_embeddings_30 : decode cX10_embeddings 30 = .ok (.ireturn, 1) := by decide +kernel
theorem dX10_common_0 : decode cX10_common 0 = .ok (.aload_n 0, 1) := by decide +kernel
theorem dX10_common_1 : decode cX10_common 1 = .ok (.getfield 42, 3) := by decide +kernel
theorem dX10_common_4 : decode cX10_common 4 = .ok (.aload_n 0, 1) := by decide +kernel
theorem dX10_common_5 : decode cX10_common 5 = .ok (.getfield 19, 3) := by decide +kernel
theorem dX10_common_8 : decode cX10_common 8 = .ok (.getfield 212, 3) := by decide +kernel
theorem dX10_common_11 : decode cX10_common 11 = .ok (.aload_n 0, 1) := by decide +kernel
theorem dX10_common_12 : decode cX10_common 12 = .ok (.getfield 19, 3) := by decide +kernel
theorem dX10_common_15 : decode cX10_common 15 = .ok (.getfield 216, 3) := by decide +kernel
theorem dX10_common_18 : decode cX10_common 18 = .ok (.invokevirtual 219, 3) := by decide +kernel
theorem dX10_common_21 : decode cX10_common 21 = .ok (.ireturn, 1) := by decide +kernel
theorem dX10_subwords_0 : decode cX10_subwords 0 = .ok (.iload_n 1, 1) := by decide +kernel
theorem dX10_subwords_1 : decode cX10_subwords 1 = .ok (.invokestatic 130, 3) := by decide +kernel
theorem dX10_subwords_4 : decode cX10_subwords 4 = .ok (.aload_n 0, 1) := by decide +kernel
theorem dX10_subwords_5 : decode cX10_subwords 5 = .ok (.getfield 42, 3) := by decide +kernel
theorem dX10_subwords_8 : decode cX10_subwords 8 = .ok (.aload_n 0, 1) := by decide +kernel
theorem dX10_subwords_9 : decode cX10_subwords 9 = .ok (.getfield 19, 3) := by decide +kernel
theorem dX10_subwords_12 : decode cX10_subwords 12 = .ok (.iload_n 1, 1) := by decide +kernel
theorem dX10_subwords_13 : decode cX10_subwords 13 = .ok (.invokevirtual 135, 3) := by decide +kernel
theorem dX10_subwords_16 : decode cX10_subwords 16 = .ok (.invokevirtual 222, 3) := by decide +kernel
theorem dX10_subwords_19 : decode cX10_subwords 19 = .ok (.ireturn, 1) := by decide +kernel
theorem dX10_addGoal_0 : decode cX10_addGoal 0 = .ok (.aload_n 0, 1) := by decide +kernel
theorem dX10_addGoal_1 : decode cX10_addGoal 1 = .ok (.getfield 28, 3) := by decide +kernel
theorem dX10_addGoal_4 : decode cX10_addGoal 4 = .ok (.invokevirtual 225, 3) := by decide +kernel
theorem dX10_addGoal_7 : decode cX10_addGoal 7 = .ok (.iconst 3, 1) := by decide +kernel
theorem dX10_addGoal_8 : decode cX10_addGoal 8 = .ok (.if_icmp .lt 13, 3) := by decide +kernel
theorem dX10_addGoal_11 : decode cX10_addGoal 11 = .ok (.new 97, 3) := by decide +kernel
theorem dX10_addGoal_14 : decode cX10_addGoal 14 = .ok (.dup, 1) := by decide +kernel
theorem dX10_addGoal_15 : decode cX10_addGoal 15 = .ok (.ldc 227, 2) := by decide +kernel
theorem dX10_addGoal_17 : decode cX10_addGoal 17 = .ok (.invokespecial 101, 3) := by decide +kernel
theorem dX10_addGoal_20 : decode cX10_addGoal 20 = .ok (.athrow, 1) := by decide +kernel
theorem dX10_addGoal_21 : decode cX10_addGoal 21 = .ok (.aload_n 0, 1) := by decide +kernel
theorem dX10_addGoal_22 : decode cX10_addGoal 22 = .ok (.getfield 28, 3) := by decide +kernel
theorem dX10_addGoal_25 : decode cX10_addGoal 25 = .ok (.aload_n 0, 1) := by decide +kernel
theorem dX10_addGoal_26 : decode cX10_addGoal 26 = .ok (.getfield 19, 3) := by decide +kernel
theorem dX10_addGoal_29 : decode cX10_addGoal 29 = .ok (.invokevirtual 229, 3) := by decide +kernel
theorem dX10_addGoal_32 : decode cX10_addGoal 32 = .ok (.aload_n 0, 1) := by decide +kernel
theorem dX10_addGoal_33 : decode cX10_addGoal 33 = .ok (.getfield 49, 3) := by decide +kernel
theorem dX10_addGoal_36 : decode cX10_addGoal 36 = .ok (.invokevirtual 106, 3) := by decide +kernel
theorem dX10_addGoal_39 : decode cX10_addGoal 39 = .ok (.aload_n 0, 1) := by decide +kernel
theorem dX10_addGoal_40 : decode cX10_addGoal 40 = .ok (.getfield 28, 3) := by decide +kernel
theorem dX10_addGoal_43 : decode cX10_addGoal 43 = .ok (.invokevirtual 225, 3) := by decide +kernel
theorem dX10_addGoal_46 : decode cX10_addGoal 46 = .ok (.ireturn, 1) := by decide +kernel
theorem dX10_clearGoals_0 : decode cX10_clearGoals 0 = .ok (.aload_n 0, 1) := by decide +kernel
theorem dX10_clearGoals_1 : decode cX10_clearGoals 1 = .ok (.getfield 28, 3) := by decide +kernel
theorem dX10_clearGoals_4 : decode cX10_clearGoals 4 = .ok (.invokevirtual 225, 3) := by decide +kernel
theorem dX10_clearGoals_7 : decode cX10_clearGoals 7 = .ok (.istore_n 1, 1) := by decide +kernel
theorem dX10_clearGoals_8 : decode cX10_clearGoals 8 = .ok (.aload_n 0, 1) := by decide +kernel
theorem dX10_clearGoals_9 : decode cX10_clearGoals 9 = .ok (.getfield 28, 3) := by decide +kernel
theorem dX10_clearGoals_12 : decode cX10_clearGoals 12 = .ok (.invokevirtual 232, 3) := by decide +kernel
theorem dX10_clearGoals_15 : decode cX10_clearGoals 15 = .ok (.aload_n 0, 1) := by decide +kernel
theorem dX10_clearGoals_16 : decode cX10_clearGoals 16 = .ok (.getfield 49, 3) := by decide +kernel
theorem dX10_clearGoals_19 : decode cX10_clearGoals 19 = .ok (.invokevirtual 106, 3) := by decide +kernel
theorem dX10_clearGoals_22 : decode cX10_clearGoals 22 = .ok (.iload_n 1, 1) := by decide +kernel
theorem dX10_clearGoals_23 : decode cX10_clearGoals 23 = .ok (.ireturn, 1) := by decide +kernel
theorem dX10_analyze_0 : decode cX10_analyze 0 = .ok (.aload_n 0, 1) := by decide +kernel
theorem dX10_analyze_1 : decode cX10_analyze 1 = .ok (.invokevirtual 235, 3) := by decide +kernel
theorem dX10_analyze_4 : decode cX10_analyze 4 = .ok (.aload_n 0, 1) := by decide +kernel
theorem dX10_analyze_5 : decode cX10_analyze 5 = .ok (.getfield 49, 3) := by decide +kernel
theorem dX10_analyze_8 : decode cX10_analyze 8 = .ok (.aload_n 0, 1) := by decide +kernel
theorem dX10_analyze_9 : decode cX10_analyze 9 = .ok (.getfield 10, 3) := by decide +kernel
theorem dX10_analyze_12 : decode cX10_analyze 12 = .ok (.aload_n 0, 1) := by decide +kernel
theorem dX10_analyze_13 : decode cX10_analyze 13 = .ok (.getfield 28, 3) := by decide +kernel
theorem dX10_analyze_16 : decode cX10_analyze 16 = .ok (.invokevirtual 238, 3) := by decide +kernel
theorem dX10_analyze_19 : decode cX10_analyze 19 = .ok (.ifCond .eq 7, 3) := by decide +kernel
theorem dX10_analyze_22 : decode cX10_analyze 22 = .ok (.iconst 1, 1) := by decide +kernel
theorem dX10_analyze_23 : decode cX10_analyze 23 = .ok (.goto 4, 3) := by decide +kernel
theorem dX10_analyze_26 : decode cX10_analyze 26 = .ok (.iconst 0, 1) := by decide +kernel
theorem dX10_analyze_27 : decode cX10_analyze 27 = .ok (.ireturn, 1) := by decide +kernel
theorem dX10_lastRound_0 : decode cX10_lastRound 0 = .ok (.aload_n 0, 1) := by decide +kernel
theorem dX10_lastRound_1 : decode cX10_lastRound 1 = .ok (.invokevirtual 242, 3) := by decide +kernel
theorem dX10_lastRound_4 : decode cX10_lastRound 4 = .ok (.aload_n 0, 1) := by decide +kernel
theorem dX10_lastRound_5 : decode cX10_lastRound 5 = .ok (.getfield 49, 3) := by decide +kernel
theorem dX10_lastRound_8 : decode cX10_lastRound 8 = .ok (.invokevirtual 245, 3) := by decide +kernel
theorem dX10_lastRound_11 : decode cX10_lastRound 11 = .ok (.ireturn, 1) := by decide +kernel
theorem dX10_basisSize_0 : decode cX10_basisSize 0 = .ok (.aload_n 0, 1) := by decide +kernel
theorem dX10_basisSize_1 : decode cX10_basisSize 1 = .ok (.invokevirtual 242, 3) := by decide +kernel
theorem dX10_basisSize_4 : decode cX10_basisSize 4 = .ok (.aload_n 0, 1) := by decide +kernel
theorem dX10_basisSize_5 : decode cX10_basisSize 5 = .ok (.iload_n 1, 1) := by decide +kernel
theorem dX10_basisSize_6 : decode cX10_basisSize 6 = .ok (.invokevirtual 248, 3) := by decide +kernel
theorem dX10_basisSize_9 : decode cX10_basisSize 9 = .ok (.aload_n 0, 1) := by decide +kernel
theorem dX10_basisSize_10 : decode cX10_basisSize 10 = .ok (.getfield 49, 3) := by decide +kernel
theorem dX10_basisSize_13 : decode cX10_basisSize 13 = .ok (.iload_n 1, 1) := by decide +kernel
theorem dX10_basisSize_14 : decode cX10_basisSize 14 = .ok (.invokevirtual 251, 3) := by decide +kernel
theorem dX10_basisSize_17 : decode cX10_basisSize 17 = .ok (.invokevirtual 225, 3) := by decide +kernel
theorem dX10_basisSize_20 : decode cX10_basisSize 20 = .ok (.ireturn, 1) := by decide +kernel
theorem dX10_basis_0 : decode cX10_basis 0 = .ok (.aload_n 0, 1) := by decide +kernel
theorem dX10_basis_1 : decode cX10_basis 1 = .ok (.invokevirtual 242, 3) := by decide +kernel
theorem dX10_basis_4 : decode cX10_basis 4 = .ok (.aload_n 0, 1) := by decide +kernel
theorem dX10_basis_5 : decode cX10_basis 5 = .ok (.iload_n 1, 1) := by decide +kernel
theorem dX10_basis_6 : decode cX10_basis 6 = .ok (.invokevirtual 248, 3) := by decide +kernel
theorem dX10_basis_9 : decode cX10_basis 9 = .ok (.aload_n 0, 1) := by decide +kernel
theorem dX10_basis_10 : decode cX10_basis 10 = .ok (.getfield 49, 3) := by decide +kernel
theorem dX10_basis_13 : decode cX10_basis 13 = .ok (.iload_n 1, 1) := by decide +kernel
theorem dX10_basis_14 : decode cX10_basis 14 = .ok (.invokevirtual 251, 3) := by decide +kernel
theorem dX10_basis_17 : decode cX10_basis 17 = .ok (.astore 4, 2) := by decide +kernel
theorem dX10_basis_19 : decode cX10_basis 19 = .ok (.iload_n 2, 1) := by decide +kernel
theorem dX10_basis_20 : decode cX10_basis 20 = .ok (.ifCond .lt 21, 3) := by decide +kernel
theorem dX10_basis_23 : decode cX10_basis 23 = .ok (.iload_n 2, 1) := by decide +kernel
theorem dX10_basis_24 : decode cX10_basis 24 = .ok (.aload 4, 2) := by decide +kernel
theorem dX10_basis_26 : decode cX10_basis 26 = .ok (.invokevirtual 225, 3) := by decide +kernel
theorem dX10_basis_29 : decode cX10_basis 29 = .ok (.if_icmp .ge 12, 3) := by decide +kernel
theorem dX10_basis_32 : decode cX10_basis 32 = .ok (.iload_n 3, 1) := by decide +kernel
theorem dX10_basis_33 : decode cX10_basis 33 = .ok (.ifCond .lt 8, 3) := by decide +kernel
theorem dX10_basis_36 : decode cX10_basis 36 = .ok (.iload_n 3, 1) := by decide +kernel
theorem dX10_basis_37 : decode cX10_basis 37 = .ok (.iconst 3, 1) := by decide +kernel
theorem dX10_basis_38 : decode cX10_basis 38 = .ok (.if_icmp .lt 14, 3) := by decide +kernel
theorem dX10_basis_41 : decode cX10_basis 41 = .ok (.new 255, 3) := by decide +kernel
theorem dX10_basis_44 : decode cX10_basis 44 = .ok (.dup, 1) := by decide +kernel
theorem dX10_basis_45 : decode cX10_basis 45 = .ok (.ldc_w 257, 3) := by decide +kernel
theorem dX10_basis_48 : decode cX10_basis 48 = .ok (.invokespecial 259, 3) := by decide +kernel
theorem dX10_basis_51 : decode cX10_basis 51 = .ok (.athrow, 1) := by decide +kernel
theorem dX10_basis_52 : decode cX10_basis 52 = .ok (.iload_n 3, 1) := by decide +kernel
theorem dX10_basis_53 : decode cX10_basis 53 = .ok (.ifCond .ne 12, 3) := by decide +kernel
theorem dX10_basis_56 : decode cX10_basis 56 = .ok (.aload 4, 2) := by decide +kernel
theorem dX10_basis_58 : decode cX10_basis 58 = .ok (.iload_n 2, 1) := by decide +kernel
theorem dX10_basis_59 : decode cX10_basis 59 = .ok (.invokevirtual 260, 3) := by decide +kernel
theorem dX10_basis_62 : decode cX10_basis 62 = .ok (.goto 15, 3) := by decide +kernel
theorem dX10_basis_65 : decode cX10_basis 65 = .ok (.aload 4, 2) := by decide +kernel
theorem dX10_basis_67 : decode cX10_basis 67 = .ok (.iload_n 2, 1) := by decide +kernel
theorem dX10_basis_68 : decode cX10_basis 68 = .ok (.iload_n 3, 1) := by decide +kernel
theorem dX10_basis_69 : decode cX10_basis 69 = .ok (.iconst 1, 1) := by decide +kernel
theorem dX10_basis_70 : decode cX10_basis 70 = .ok (.isub, 1) := by decide +kernel
theorem dX10_basis_71 : decode cX10_basis 71 = .ok (.invokevirtual 263, 3) := by decide +kernel
theorem dX10_basis_74 : decode cX10_basis 74 = .ok (.invokestatic 139, 3) := by decide +kernel
theorem dX10_basis_77 : decode cX10_basis 77 = .ok (.ireturn, 1) := by decide +kernel
theorem dX10_basisLetter_0 : decode cX10_basisLetter 0 = .ok (.aload_n 0, 1) := by decide +kernel
theorem dX10_basisLetter_1 : decode cX10_basisLetter 1 = .ok (.invokevirtual 242, 3) := by decide +kernel
theorem dX10_basisLetter_4 : decode cX10_basisLetter 4 = .ok (.aload_n 0, 1) := by decide +kernel
theorem dX10_basisLetter_5 : decode cX10_basisLetter 5 = .ok (.getfield 49, 3) := by decide +kernel
theorem dX10_basisLetter_8 : decode cX10_basisLetter 8 = .ok (.aload_n 0, 1) := by decide +kernel
theorem dX10_basisLetter_9 : decode cX10_basisLetter 9 = .ok (.getfield 49, 3) := by decide +kernel
theorem dX10_basisLetter_12 : decode cX10_basisLetter 12 = .ok (.invokevirtual 245, 3) := by decide +kernel
theorem dX10_basisLetter_15 : decode cX10_basisLetter 15 = .ok (.invokevirtual 251, 3) := by decide +kernel
theorem dX10_basisLetter_18 : decode cX10_basisLetter 18 = .ok (.astore 4, 2) := by decide +kernel
theorem dX10_basisLetter_20 : decode cX10_basisLetter 20 = .ok (.iload_n 1, 1) := by decide +kernel
theorem dX10_basisLetter_21 : decode cX10_basisLetter 21 = .ok (.ifCond .lt 19, 3) := by decide +kernel
theorem dX10_basisLetter_24 : decode cX10_basisLetter 24 = .ok (.iload_n 1, 1) := by decide +kernel
theorem dX10_basisLetter_25 : decode cX10_basisLetter 25 = .ok (.aload 4, 2) := by decide +kernel
theorem dX10_basisLetter_27 : decode cX10_basisLetter 27 = .ok (.invokevirtual 225, 3) := by decide +kernel
theorem dX10_basisLetter_30 : decode cX10_basisLetter 30 = .ok (.if_icmp .ge 10, 3) := by decide +kernel
theorem dX10_basisLetter_33 : decode cX10_basisLetter 33 = .ok (.iload_n 2, 1) := by decide +kernel
theorem dX10_basisLetter_34 : decode cX10_basisLetter 34 = .ok (.invokestatic 85, 3) := by decide +kernel
theorem dX10_basisLetter_37 : decode cX10_basisLetter 37 = .ok (.ifCond .ne 14, 3) := by decide +kernel
theorem dX10_basisLetter_40 : decode cX10_basisLetter 40 = .ok (.new 255, 3) := by decide +kernel
theorem dX10_basisLetter_43 : decode cX10_basisLetter 43 = .ok (.dup, 1) := by decide +kernel
theorem dX10_basisLetter_44 : decode cX10_basisLetter 44 = .ok (.ldc_w 267, 3) := by decide +kernel
theorem dX10_basisLetter_47 : decode cX10_basisLetter 47 = .ok (.invokespecial 259, 3) := by decide +kernel
theorem dX10_basisLetter_50 : decode cX10_basisLetter 50 = .ok (.athrow, 1) := by decide +kernel
theorem dX10_basisLetter_51 : decode cX10_basisLetter 51 = .ok (.aload 4, 2) := by decide +kernel
theorem dX10_basisLetter_53 : decode cX10_basisLetter 53 = .ok (.iload_n 1, 1) := by decide +kernel
theorem dX10_basisLetter_54 : decode cX10_basisLetter 54 = .ok (.iload_n 2, 1) := by decide +kernel
theorem dX10_basisLetter_55 : decode cX10_basisLetter 55 = .ok (.invokevirtual 263, 3) := by decide +kernel
theorem dX10_basisLetter_58 : decode cX10_basisLetter 58 = .ok (.lstore 5, 2) := by decide +kernel
theorem dX10_basisLetter_60 : decode cX10_basisLetter 60 = .ok (.iload_n 3, 1) := by decide +kernel
theorem dX10_basisLetter_61 : decode cX10_basisLetter 61 = .ok (.ifCond .lt 12, 3) := by decide +kernel
theorem dX10_basisLetter_64 : decode cX10_basisLetter 64 = .ok (.iload_n 3, 1) := by decide +kernel
theorem dX10_basisLetter_65 : decode cX10_basisLetter 65 = .ok (.lload 5, 2) := by decide +kernel
theorem dX10_basisLetter_67 : decode cX10_basisLetter 67 = .ok (.invokestatic 139, 3) := by decide +kernel
theorem dX10_basisLetter_70 : decode cX10_basisLetter 70 = .ok (.if_icmp .lt 14, 3) := by decide +kernel
theorem dX10_basisLetter_73 : decode cX10_basisLetter 73 = .ok (.new 255, 3) := by decide +kernel
theorem dX10_basisLetter_76 : decode cX10_basisLetter 76 = .ok (.dup, 1) := by decide +kernel
theorem dX10_basisLetter_77 : decode cX10_basisLetter 77 = .ok (.ldc_w 269, 3) := by decide +kernel
theorem dX10_basisLetter_80 : decode cX10_basisLetter 80 = .ok (.invokespecial 259, 3) := by decide +kernel
theorem dX10_basisLetter_83 : decode cX10_basisLetter 83 = .ok (.athrow, 1) := by decide +kernel
theorem dX10_basisLetter_84 : decode cX10_basisLetter 84 = .ok (.lload 5, 2) := by decide +kernel
theorem dX10_basisLetter_86 : decode cX10_basisLetter 86 = .ok (.iload_n 3, 1) := by decide +kernel
theorem dX10_basisLetter_87 : decode cX10_basisLetter 87 = .ok (.invokestatic 159, 3) := by decide +kernel
theorem dX10_basisLetter_90 : decode cX10_basisLetter 90 = .ok (.ireturn, 1) := by decide +kernel
theorem dX10_coveringStates_0 : decode cX10_coveringStates 0 = .ok (.aload_n 0, 1) := by decide +kernel
theorem dX10_coveringStates_1 : decode cX10_coveringStates 1 = .ok (.invokevirtual 242, 3) := by decide +kernel
theorem dX10_coveringStates_4 : decode cX10_coveringStates 4 = .ok (.iconst 0, 1) := by decide +kernel
theorem dX10_coveringStates_5 : decode cX10_coveringStates 5 = .ok (.istore_n 1, 1) := by decide +kernel
theorem dX10_coveringStates_6 : decode cX10_coveringStates 6 = .ok (.iconst 0, 1) := by decide +kernel
theorem dX10_coveringStates_7 : decode cX10_coveringStates 7 = .ok (.istore_n 2, 1) := by decide +kernel
theorem dX10_coveringStates_8 : decode cX10_coveringStates 8 = .ok (.iload_n 2, 1) := by decide +kernel
theorem dX10_coveringStates_9 : decode cX10_coveringStates 9 = .ok (.bipush 6, 2) := by decide +kernel
theorem dX10_coveringStates_11 : decode cX10_coveringStates 11 = .ok (.if_icmp .ge 26, 3) := by decide +kernel
theorem dX10_coveringStates_14 : decode cX10_coveringStates 14 = .ok (.aload_n 0, 1) := by decide +kernel
theorem dX10_coveringStates_15 : decode cX10_coveringStates 15 = .ok (.getfield 49, 3) := by decide +kernel
theorem dX10_coveringStates_18 : decode cX10_coveringStates 18 = .ok (.iload_n 2, 1) := by decide +kernel
theorem dX10_coveringStates_19 : decode cX10_coveringStates 19 = .ok (.invokevirtual 271, 3) := by decide +kernel
theorem dX10_coveringStates_22 : decode cX10_coveringStates 22 = .ok (.ifCond .ne 9, 3) := by decide +kernel
theorem dX10_coveringStates_25 : decode cX10_coveringStates 25 = .ok (.iload_n 1, 1) := by decide +kernel
theorem dX10_coveringStates_26 : decode cX10_coveringStates 26 = .ok (.iconst 1, 1) := by decide +kernel
theorem dX10_coveringStates_27 : decode cX10_coveringStates 27 = .ok (.iload_n 2, 1) := by decide +kernel
theorem dX10_coveringStates_28 : decode cX10_coveringStates 28 = .ok (.ishl, 1) := by decide +kernel
theorem dX10_coveringStates_29 : decode cX10_coveringStates 29 = .ok (.ior, 1) := by decide +kernel
theorem dX10_coveringStates_30 : decode cX10_coveringStates 30 = .ok (.istore_n 1, 1) := by decide +kernel
theorem dX10_coveringStates_31 : decode cX10_coveringStates 31 = .ok (.iinc 2 1, 3) := by decide +kernel
theorem dX10_coveringStates_34 : decode cX10_coveringStates 34 = .ok (.goto (-26), 3) := by decide +kernel
theorem dX10_coveringStates_37 : decode cX10_coveringStates 37 = .ok (.iload_n 1, 1) := by decide +kernel
theorem dX10_coveringStates_38 : decode cX10_coveringStates 38 = .ok (.ireturn, 1) := by decide +kernel
theorem dX10_least_0 : decode cX10_least 0 = .ok (.aload_n 0, 1) := by decide +kernel
theorem dX10_least_1 : decode cX10_least 1 = .ok (.invokevirtual 242, 3) := by decide +kernel
theorem dX10_least_4 : decode cX10_least 4 = .ok (.iload_n 1, 1) := by decide +kernel
theorem dX10_least_5 : decode cX10_least 5 = .ok (.invokestatic 74, 3) := by decide +kernel
theorem dX10_least_8 : decode cX10_least 8 = .ok (.ifCond .ne 13, 3) := by decide +kernel
theorem dX10_least_11 : decode cX10_least 11 = .ok (.new 78, 3) := by decide +kernel
theorem dX10_least_14 : decode cX10_least 14 = .ok (.dup, 1) := by decide +kernel
theorem dX10_least_15 : decode cX10_least 15 = .ok (.ldc 121, 2) := by decide +kernel
theorem dX10_least_17 : decode cX10_least 17 = .ok (.invokespecial 82, 3) := by decide +kernel
theorem dX10_least_20 : decode cX10_least 20 = .ok (.athrow, 1) := by decide +kernel
theorem dX10_least_21 : decode cX10_least 21 = .ok (.aload_n 0, 1) := by decide +kernel
theorem dX10_least_22 : decode cX10_least 22 = .ok (.getfield 49, 3) := by decide +kernel
theorem dX10_least_25 : decode cX10_least 25 = .ok (.iload_n 1, 1) := by decide +kernel
theorem dX10_least_26 : decode cX10_least 26 = .ok (.invokevirtual 271, 3) := by decide +kernel
theorem dX10_least_29 : decode cX10_least 29 = .ok (.ireturn, 1) := by decide +kernel
theorem dX10_distance_0 : decode cX10_distance 0 = .ok (.aload_n 0, 1) := by decide +kernel
theorem dX10_distance_1 : decode cX10_distance 1 = .ok (.invokevirtual 242, 3) := by decide +kernel
theorem dX10_distance_4 : decode cX10_distance 4 = .ok (.aload_n 0, 1) := by decide +kernel
theorem dX10_distance_5 : decode cX10_distance 5 = .ok (.getfield 49, 3) := by decide +kernel
theorem dX10_distance_8 : decode cX10_distance 8 = .ok (.aload_n 0, 1) := by decide +kernel
theorem dX10_distance_9 : decode cX10_distance 9 = .ok (.getfield 19, 3) := by decide +kernel
theorem dX10_distance_12 : decode cX10_distance 12 = .ok (.invokevirtual 274, 3) := by decide +kernel
theorem dX10_distance_15 : decode cX10_distance 15 = .ok (.ireturn, 1) := by decide +kernel
theorem dX10_covering_0 : decode cX10_covering 0 = .ok (.aload_n 0, 1) := by decide +kernel
theorem dX10_covering_1 : decode cX10_covering 1 = .ok (.invokevirtual 242, 3) := by decide +kernel
theorem dX10_covering_4 : decode cX10_covering 4 = .ok (.aload_n 0, 1) := by decide +kernel
theorem dX10_covering_5 : decode cX10_covering 5 = .ok (.iload_n 1, 1) := by decide +kernel
theorem dX10_covering_6 : decode cX10_covering 6 = .ok (.invokevirtual 277, 3) := by decide +kernel
theorem dX10_covering_9 : decode cX10_covering 9 = .ok (.aload_n 0, 1) := by decide +kernel
theorem dX10_covering_10 : decode cX10_covering 10 = .ok (.getfield 49, 3) := by decide +kernel
theorem dX10_covering_13 : decode cX10_covering 13 = .ok (.invokevirtual 280, 3) := by decide +kernel
theorem dX10_covering_16 : decode cX10_covering 16 = .ok (.ireturn, 1) := by decide +kernel
theorem dX10_lost_0 : decode cX10_lost 0 = .ok (.aload_n 0, 1) := by decide +kernel
theorem dX10_lost_1 : decode cX10_lost 1 = .ok (.invokevirtual 242, 3) := by decide +kernel
theorem dX10_lost_4 : decode cX10_lost 4 = .ok (.aload_n 0, 1) := by decide +kernel
theorem dX10_lost_5 : decode cX10_lost 5 = .ok (.iload_n 1, 1) := by decide +kernel
theorem dX10_lost_6 : decode cX10_lost 6 = .ok (.invokevirtual 277, 3) := by decide +kernel
theorem dX10_lost_9 : decode cX10_lost 9 = .ok (.aload_n 0, 1) := by decide +kernel
theorem dX10_lost_10 : decode cX10_lost 10 = .ok (.getfield 49, 3) := by decide +kernel
theorem dX10_lost_13 : decode cX10_lost 13 = .ok (.invokevirtual 283, 3) := by decide +kernel
theorem dX10_lost_16 : decode cX10_lost 16 = .ok (.ireturn, 1) := by decide +kernel
theorem dX10_statesAfter_0 : decode cX10_statesAfter 0 = .ok (.iload_n 1, 1) := by decide +kernel
theorem dX10_statesAfter_1 : decode cX10_statesAfter 1 = .ok (.ifCond .lt 8, 3) := by decide +kernel
theorem dX10_statesAfter_4 : decode cX10_statesAfter 4 = .ok (.iload_n 1, 1) := by decide +kernel
theorem dX10_statesAfter_5 : decode cX10_statesAfter 5 = .ok (.iconst 4, 1) := by decide +kernel
theorem dX10_statesAfter_6 : decode cX10_statesAfter 6 = .ok (.if_icmp .le 14, 3) := by decide +kernel
theorem dX10_statesAfter_9 : decode cX10_statesAfter 9 = .ok (.new 78, 3) := by decide +kernel
theorem dX10_statesAfter_12 : decode cX10_statesAfter 12 = .ok (.dup, 1) := by decide +kernel
theorem dX10_statesAfter_13 : decode cX10_statesAfter 13 = .ok (.ldc_w 286, 3) := by decide +kernel
theorem dX10_statesAfter_16 : decode cX10_statesAfter 16 = .ok (.invokespecial 82, 3) := by decide +kernel
theorem dX10_statesAfter_19 : decode cX10_statesAfter 19 = .ok (.athrow, 1) := by decide +kernel
theorem dX10_statesAfter_20 : decode cX10_statesAfter 20 = .ok (.iload_n 1, 1) := by decide +kernel
theorem dX10_statesAfter_21 : decode cX10_statesAfter 21 = .ok (.ifCond .ne 13, 3) := by decide +kernel
theorem dX10_statesAfter_24 : decode cX10_statesAfter 24 = .ok (.iconst 1, 1) := by decide +kernel
theorem dX10_statesAfter_25 : decode cX10_statesAfter 25 = .ok (.aload_n 0, 1) := by decide +kernel
theorem dX10_statesAfter_26 : decode cX10_statesAfter 26 = .ok (.getfield 19, 3) := by decide +kernel
theorem dX10_statesAfter_29 : decode cX10_statesAfter 29 = .ok (.getfield 123, 3) := by decide +kernel
theorem dX10_statesAfter_32 : decode cX10_statesAfter 32 = .ok (.ishl, 1) := by decide +kernel
theorem dX10_statesAfter_33 : decode cX10_statesAfter 33 = .ok (.ireturn, 1) := by decide +kernel
theorem dX10_statesAfter_34 : decode cX10_statesAfter 34 = .ok (.aload_n 0, 1) := by decide +kernel
theorem dX10_statesAfter_35 : decode cX10_statesAfter 35 = .ok (.getfield 10, 3) := by decide +kernel
theorem dX10_statesAfter_38 : decode cX10_statesAfter 38 = .ok (.aload_n 0, 1) := by decide +kernel
theorem dX10_statesAfter_39 : decode cX10_statesAfter 39 = .ok (.getfield 56, 3) := by decide +kernel
theorem dX10_statesAfter_42 : decode cX10_statesAfter 42 = .ok (.aload_n 0, 1) := by decide +kernel
theorem dX10_statesAfter_43 : decode cX10_statesAfter 43 = .ok (.getfield 10, 3) := by decide +kernel
theorem dX10_statesAfter_46 : decode cX10_statesAfter 46 = .ok (.aload_n 0, 1) := by decide +kernel
theorem dX10_statesAfter_47 : decode cX10_statesAfter 47 = .ok (.getfield 19, 3) := by decide +kernel
theorem dX10_statesAfter_50 : decode cX10_statesAfter 50 = .ok (.iload_n 1, 1) := by decide +kernel
theorem dX10_statesAfter_51 : decode cX10_statesAfter 51 = .ok (.invokevirtual 288, 3) := by decide +kernel
theorem dX10_statesAfter_54 : decode cX10_statesAfter 54 = .ok (.invokevirtual 292, 3) := by decide +kernel
theorem dX10_statesAfter_57 : decode cX10_statesAfter 57 = .ok (.ireturn, 1) := by decide +kernel
theorem dX10_isLast_0 : decode cX10_isLast 0 = .ok (.aload_n 0, 1) := by decide +kernel
theorem dX10_isLast_1 : decode cX10_isLast 1 = .ok (.iload_n 1, 1) := by decide +kernel
theorem dX10_isLast_2 : decode cX10_isLast 2 = .ok (.invokevirtual 109, 3) := by decide +kernel
theorem dX10_isLast_5 : decode cX10_isLast 5 = .ok (.iload_n 2, 1) := by decide +kernel
theorem dX10_isLast_6 : decode cX10_isLast 6 = .ok (.iconst 1, 1) := by decide +kernel
theorem dX10_isLast_7 : decode cX10_isLast 7 = .ok (.if_icmp .lt 8, 3) := by decide +kernel
theorem dX10_isLast_10 : decode cX10_isLast 10 = .ok (.iload_n 2, 1) := by decide +kernel
theorem dX10_isLast_11 : decode cX10_isLast 11 = .ok (.iconst 4, 1) := by decide +kernel
theorem dX10_isLast_12 : decode cX10_isLast 12 = .ok (.if_icmp .le 14, 3) := by decide +kernel
theorem dX10_isLast_15 : decode cX10_isLast 15 = .ok (.new 78, 3) := by decide +kernel
theorem dX10_isLast_18 : decode cX10_isLast 18 = .ok (.dup, 1) := by decide +kernel
theorem dX10_isLast_19 : decode cX10_isLast 19 = .ok (.ldc_w 295, 3) := by decide +kernel
theorem dX10_isLast_22 : decode cX10_isLast 22 = .ok (.invokespecial 82, 3) := by decide +kernel
theorem dX10_isLast_25 : decode cX10_isLast 25 = .ok (.athrow, 1) := by decide +kernel
theorem dX10_isLast_26 : decode cX10_isLast 26 = .ok (.aload_n 0, 1) := by decide +kernel
theorem dX10_isLast_27 : decode cX10_isLast 27 = .ok (.getfield 56, 3) := by decide +kernel
theorem dX10_isLast_30 : decode cX10_isLast 30 = .ok (.aload_n 0, 1) := by decide +kernel
theorem dX10_isLast_31 : decode cX10_isLast 31 = .ok (.getfield 10, 3) := by decide +kernel
theorem dX10_isLast_34 : decode cX10_isLast 34 = .ok (.aload_n 0, 1) := by decide +kernel
theorem dX10_isLast_35 : decode cX10_isLast 35 = .ok (.getfield 19, 3) := by decide +kernel
theorem dX10_isLast_38 : decode cX10_isLast 38 = .ok (.iload_n 2, 1) := by decide +kernel
theorem dX10_isLast_39 : decode cX10_isLast 39 = .ok (.invokevirtual 288, 3) := by decide +kernel
theorem dX10_isLast_42 : decode cX10_isLast 42 = .ok (.iload_n 1, 1) := by decide +kernel
theorem dX10_isLast_43 : decode cX10_isLast 43 = .ok (.ishr, 1) := by decide +kernel
theorem dX10_isLast_44 : decode cX10_isLast 44 = .ok (.iconst 1, 1) := by decide +kernel
theorem dX10_isLast_45 : decode cX10_isLast 45 = .ok (.iand, 1) := by decide +kernel
theorem dX10_isLast_46 : decode cX10_isLast 46 = .ok (.iconst 1, 1) := by decide +kernel
theorem dX10_isLast_47 : decode cX10_isLast 47 = .ok (.if_icmp .ne 7, 3) := by decide +kernel
theorem dX10_isLast_50 : decode cX10_isLast 50 = .ok (.iconst 1, 1) := by decide +kernel
theorem dX10_isLast_51 : decode cX10_isLast 51 = .ok (.goto 4, 3) := by decide +kernel
theorem dX10_isLast_54 : decode cX10_isLast 54 = .ok (.iconst 0, 1) := by decide +kernel
theorem dX10_isLast_55 : decode cX10_isLast 55 = .ok (.ireturn, 1) := by decide +kernel
theorem dX10_append_0 : decode cX10_append 0 = .ok (.aload_n 0, 1) := by decide +kernel
theorem dX10_append_1 : decode cX10_append 1 = .ok (.getfield 63, 3) := by decide +kernel
theorem dX10_append_4 : decode cX10_append 4 = .ok (.invokevirtual 297, 3) := by decide +kernel
theorem dX10_append_7 : decode cX10_append 7 = .ok (.ifCond .eq 14, 3) := by decide +kernel
theorem dX10_append_10 : decode cX10_append 10 = .ok (.new 97, 3) := by decide +kernel
theorem dX10_append_13 : decode cX10_append 13 = .ok (.dup, 1) := by decide +kernel
theorem dX10_append_14 : decode cX10_append 14 = .ok (.ldc_w 301, 3) := by decide +kernel
theorem dX10_append_17 : decode cX10_append 17 = .ok (.invokespecial 101, 3) := by decide +kernel
theorem dX10_append_20 : decode cX10_append 20 = .ok (.athrow, 1) := by decide +kernel
theorem dX10_append_21 : decode cX10_append 21 = .ok (.aload_n 0, 1) := by decide +kernel
theorem dX10_append_22 : decode cX10_append 22 = .ok (.getfield 63, 3) := by decide +kernel
theorem dX10_append_25 : decode cX10_append 25 = .ok (.iload_n 1, 1) := by decide +kernel
theorem dX10_append_26 : decode cX10_append 26 = .ok (.invokevirtual 303, 3) := by decide +kernel
theorem dX10_append_29 : decode cX10_append 29 = .ok (.return_, 1) := by decide +kernel
theorem dX10_read_0 : decode cX10_read 0 = .ok (.aload_n 0, 1) := by decide +kernel
theorem dX10_read_1 : decode cX10_read 1 = .ok (.getfield 63, 3) := by decide +kernel
theorem dX10_read_4 : decode cX10_read 4 = .ok (.invokevirtual 306, 3) := by decide +kernel
theorem dX10_read_7 : decode cX10_read 7 = .ok (.istore_n 1, 1) := by decide +kernel
theorem dX10_read_8 : decode cX10_read 8 = .ok (.aload_n 0, 1) := by decide +kernel
theorem dX10_read_9 : decode cX10_read 9 = .ok (.getfield 63, 3) := by decide +kernel
theorem dX10_read_12 : decode cX10_read 12 = .ok (.invokevirtual 309, 3) := by decide +kernel
theorem dX10_read_15 : decode cX10_read 15 = .ok (.ifCond .lt 14, 3) := by decide +kernel
theorem dX10_read_18 : decode cX10_read 18 = .ok (.new 78, 3) := by decide +kernel
theorem dX10_read_21 : decode cX10_read 21 = .ok (.dup, 1) := by decide +kernel
theorem dX10_read_22 : decode cX10_read 22 = .ok (.ldc_w 312, 3) := by decide +kernel
theorem dX10_read_25 : decode cX10_read 25 = .ok (.invokespecial 82, 3) := by decide +kernel
theorem dX10_read_28 : decode cX10_read 28 = .ok (.athrow, 1) := by decide +kernel
theorem dX10_read_29 : decode cX10_read 29 = .ok (.aload_n 0, 1) := by decide +kernel
theorem dX10_read_30 : decode cX10_read 30 = .ok (.getfield 10, 3) := by decide +kernel
theorem dX10_read_33 : decode cX10_read 33 = .ok (.invokevirtual 93, 3) := by decide +kernel
theorem dX10_read_36 : decode cX10_read 36 = .ok (.aload_n 0, 1) := by decide +kernel
theorem dX10_read_37 : decode cX10_read 37 = .ok (.getfield 63, 3) := by decide +kernel
theorem dX10_read_40 : decode cX10_read 40 = .ok (.invokevirtual 314, 3) := by decide +kernel
theorem dX10_read_43 : decode cX10_read 43 = .ok (.invokevirtual 93, 3) := by decide +kernel
theorem dX10_read_46 : decode cX10_read 46 = .ok (.iadd, 1) := by decide +kernel
theorem dX10_read_47 : decode cX10_read 47 = .ok (.bipush 10, 2) := by decide +kernel
theorem dX10_read_49 : decode cX10_read 49 = .ok (.if_icmp .gt 25, 3) := by decide +kernel
theorem dX10_read_52 : decode cX10_read 52 = .ok (.aload_n 0, 1) := by decide +kernel
theorem dX10_read_53 : decode cX10_read 53 = .ok (.getfield 28, 3) := by decide +kernel
theorem dX10_read_56 : decode cX10_read 56 = .ok (.invokevirtual 225, 3) := by decide +kernel
theorem dX10_read_59 : decode cX10_read 59 = .ok (.aload_n 0, 1) := by decide +kernel
theorem dX10_read_60 : decode cX10_read 60 = .ok (.getfield 63, 3) := by decide +kernel
theorem dX10_read_63 : decode cX10_read 63 = .ok (.invokevirtual 318, 3) := by decide +kernel
theorem dX10_read_66 : decode cX10_read 66 = .ok (.invokevirtual 225, 3) := by decide +kernel
theorem dX10_read_69 : decode cX10_read 69 = .ok (.iadd, 1) := by decide +kernel
theorem dX10_read_70 : decode cX10_read 70 = .ok (.iconst 3, 1) := by decide +kernel
theorem dX10_read_71 : decode cX10_read 71 = .ok (.if_icmp .le 14, 3) := by decide +kernel
theorem dX10_read_74 : decode cX10_read 74 = .ok (.new 97, 3) := by decide +kernel
theorem dX10_read_77 : decode cX10_read 77 = .ok (.dup, 1) := by decide +kernel
theorem dX10_read_78 : decode cX10_read 78 = .ok (.ldc_w 321, 3) := by decide +kernel
theorem dX10_read_81 : decode cX10_read 81 = .ok (.invokespecial 101, 3) := by decide +kernel
theorem dX10_read_84 : decode cX10_read 84 = .ok (.athrow, 1) := by decide +kernel
theorem dX10_read_85 : decode cX10_read 85 = .ok (.aload_n 0, 1) := by decide +kernel
theorem dX10_read_86 : decode cX10_read 86 = .ok (.getfield 10, 3) := by decide +kernel
theorem dX10_read_89 : decode cX10_read 89 = .ok (.aload_n 0, 1) := by decide +kernel
theorem dX10_read_90 : decode cX10_read 90 = .ok (.getfield 63, 3) := by decide +kernel
theorem dX10_read_93 : decode cX10_read 93 = .ok (.invokevirtual 314, 3) := by decide +kernel
theorem dX10_read_96 : decode cX10_read 96 = .ok (.invokevirtual 323, 3) := by decide +kernel
theorem dX10_read_99 : decode cX10_read 99 = .ok (.aload_n 0, 1) := by decide +kernel
theorem dX10_read_100 : decode cX10_read 100 = .ok (.getfield 28, 3) := by decide +kernel
theorem dX10_read_103 : decode cX10_read 103 = .ok (.aload_n 0, 1) := by decide +kernel
theorem dX10_read_104 : decode cX10_read 104 = .ok (.getfield 63, 3) := by decide +kernel
theorem dX10_read_107 : decode cX10_read 107 = .ok (.invokevirtual 318, 3) := by decide +kernel
theorem dX10_read_110 : decode cX10_read 110 = .ok (.invokevirtual 327, 3) := by decide +kernel
theorem dX10_read_113 : decode cX10_read 113 = .ok (.aload_n 0, 1) := by decide +kernel
theorem dX10_read_114 : decode cX10_read 114 = .ok (.getfield 49, 3) := by decide +kernel
theorem dX10_read_117 : decode cX10_read 117 = .ok (.invokevirtual 106, 3) := by decide +kernel
theorem dX10_read_120 : decode cX10_read 120 = .ok (.iload_n 1, 1) := by decide +kernel
theorem dX10_read_121 : decode cX10_read 121 = .ok (.ireturn, 1) := by decide +kernel
theorem dX10_faultPosition_0 : decode cX10_faultPosition 0 = .ok (.aload_n 0, 1) := by decide +kernel
theorem dX10_faultPosition_1 : decode cX10_faultPosition 1 = .ok (.getfield 63, 3) := by decide +kernel
theorem dX10_faultPosition_4 : decode cX10_faultPosition 4 = .ok (.invokevirtual 309, 3) := by decide +kernel
theorem dX10_faultPosition_7 : decode cX10_faultPosition 7 = .ok (.ireturn, 1) := by decide +kernel
theorem dX10_save_0 : decode cX10_save 0 = .ok (.aload_n 0, 1) := by decide +kernel
theorem dX10_save_1 : decode cX10_save 1 = .ok (.getfield 70, 3) := by decide +kernel
theorem dX10_save_4 : decode cX10_save 4 = .ok (.aload_n 0, 1) := by decide +kernel
theorem dX10_save_5 : decode cX10_save 5 = .ok (.getfield 10, 3) := by decide +kernel
theorem dX10_save_8 : decode cX10_save 8 = .ok (.aload_n 0, 1) := by decide +kernel
theorem dX10_save_9 : decode cX10_save 9 = .ok (.getfield 19, 3) := by decide +kernel
theorem dX10_save_12 : decode cX10_save 12 = .ok (.aload_n 0, 1) := by decide +kernel
theorem dX10_save_13 : decode cX10_save 13 = .ok (.getfield 28, 3) := by decide +kernel
theorem dX10_save_16 : decode cX10_save 16 = .ok (.invokevirtual 330, 3) := by decide +kernel
theorem dX10_save_19 : decode cX10_save 19 = .ok (.return_, 1) := by decide +kernel
theorem dX10_restore_0 : decode cX10_restore 0 = .ok (.aload_n 0, 1) := by decide +kernel
theorem dX10_restore_1 : decode cX10_restore 1 = .ok (.getfield 70, 3) := by decide +kernel
theorem dX10_restore_4 : decode cX10_restore 4 = .ok (.invokevirtual 334, 3) := by decide +kernel
theorem dX10_restore_7 : decode cX10_restore 7 = .ok (.ifCond .ne 14, 3) := by decide +kernel
theorem dX10_restore_10 : decode cX10_restore 10 = .ok (.new 97, 3) := by decide +kernel
theorem dX10_restore_13 : decode cX10_restore 13 = .ok (.dup, 1) := by decide +kernel
theorem dX10_restore_14 : decode cX10_restore 14 = .ok (.ldc_w 337, 3) := by decide +kernel
theorem dX10_restore_17 : decode cX10_restore 17 = .ok (.invokespecial 101, 3) := by decide +kernel
theorem dX10_restore_20 : decode cX10_restore 20 = .ok (.athrow, 1) := by decide +kernel
theorem dX10_restore_21 : decode cX10_restore 21 = .ok (.aload_n 0, 1) := by decide +kernel
theorem dX10_restore_22 : decode cX10_restore 22 = .ok (.getfield 70, 3) := by decide +kernel
theorem dX10_restore_25 : decode cX10_restore 25 = .ok (.aload_n 0, 1) := by decide +kernel
theorem dX10_restore_26 : decode cX10_restore 26 = .ok (.getfield 10, 3) := by decide +kernel
theorem dX10_restore_29 : decode cX10_restore 29 = .ok (.aload_n 0, 1) := by decide +kernel
theorem dX10_restore_30 : decode cX10_restore 30 = .ok (.getfield 19, 3) := by decide +kernel
theorem dX10_restore_33 : decode cX10_restore 33 = .ok (.aload_n 0, 1) := by decide +kernel
theorem dX10_restore_34 : decode cX10_restore 34 = .ok (.getfield 28, 3) := by decide +kernel
theorem dX10_restore_37 : decode cX10_restore 37 = .ok (.invokevirtual 339, 3) := by decide +kernel
theorem dX10_restore_40 : decode cX10_restore 40 = .ok (.aload_n 0, 1) := by decide +kernel
theorem dX10_restore_41 : decode cX10_restore 41 = .ok (.getfield 35, 3) := by decide +kernel
theorem dX10_restore_44 : decode cX10_restore 44 = .ok (.invokevirtual 127, 3) := by decide +kernel
theorem dX10_restore_47 : decode cX10_restore 47 = .ok (.aload_n 0, 1) := by decide +kernel
theorem dX10_restore_48 : decode cX10_restore 48 = .ok (.getfield 49, 3) := by decide +kernel
theorem dX10_restore_51 : decode cX10_restore 51 = .ok (.invokevirtual 106, 3) := by decide +kernel
theorem dX10_restore_54 : decode cX10_restore 54 = .ok (.return_, 1) := by decide +kernel
theorem dX10_isState_0 : decode cX10_isState 0 = .ok (.iload_n 0, 1) := by decide +kernel
theorem dX10_isState_1 : decode cX10_isState 1 = .ok (.ifCond .lt 13, 3) := by decide +kernel
theorem dX10_isState_4 : decode cX10_isState 4 = .ok (.iload_n 0, 1) := by decide +kernel
theorem dX10_isState_5 : decode cX10_isState 5 = .ok (.bipush 6, 2) := by decide +kernel
theorem dX10_isState_7 : decode cX10_isState 7 = .ok (.if_icmp .ge 7, 3) := by decide +kernel
theorem dX10_isState_10 : decode cX10_isState 10 = .ok (.iconst 1, 1) := by decide +kernel
theorem dX10_isState_11 : decode cX10_isState 11 = .ok (.goto 4, 3) := by decide +kernel
theorem dX10_isState_14 : decode cX10_isState 14 = .ok (.iconst 0, 1) := by decide +kernel
theorem dX10_isState_15 : decode cX10_isState 15 = .ok (.ireturn, 1) := by decide +kernel
theorem dX10_isChannel_0 : decode cX10_isChannel 0 = .ok (.iload_n 0, 1) := by decide +kernel
theorem dX10_isChannel_1 : decode cX10_isChannel 1 = .ok (.ifCond .lt 12, 3) := by decide +kernel
theorem dX10_isChannel_4 : decode cX10_isChannel 4 = .ok (.iload_n 0, 1) := by decide +kernel
theorem dX10_isChannel_5 : decode cX10_isChannel 5 = .ok (.iconst 2, 1) := by decide +kernel
theorem dX10_isChannel_6 : decode cX10_isChannel 6 = .ok (.if_icmp .ge 7, 3) := by decide +kernel
theorem dX10_isChannel_9 : decode cX10_isChannel 9 = .ok (.iconst 1, 1) := by decide +kernel
theorem dX10_isChannel_10 : decode cX10_isChannel 10 = .ok (.goto 4, 3) := by decide +kernel
theorem dX10_isChannel_13 : decode cX10_isChannel 13 = .ok (.iconst 0, 1) := by decide +kernel
theorem dX10_isChannel_14 : decode cX10_isChannel 14 = .ok (.ireturn, 1) := by decide +kernel
theorem dX10_isLetter_0 : decode cX10_isLetter 0 = .ok (.iload_n 0, 1) := by decide +kernel
theorem dX10_isLetter_1 : decode cX10_isLetter 1 = .ok (.ifCond .lt 12, 3) := by decide +kernel
theorem dX10_isLetter_4 : decode cX10_isLetter 4 = .ok (.iload_n 0, 1) := by decide +kernel
theorem dX10_isLetter_5 : decode cX10_isLetter 5 = .ok (.iconst 3, 1) := by decide +kernel
theorem dX10_isLetter_6 : decode cX10_isLetter 6 = .ok (.if_icmp .ge 7, 3) := by decide +kernel
theorem dX10_isLetter_9 : decode cX10_isLetter 9 = .ok (.iconst 1, 1) := by decide +kernel
theorem dX10_isLetter_10 : decode cX10_isLetter 10 = .ok (.goto 4, 3) := by decide +kernel
theorem dX10_isLetter_13 : decode cX10_isLetter 13 = .ok (.iconst 0, 1) := by decide +kernel
theorem dX10_isLetter_14 : decode cX10_isLetter 14 = .ok (.ireturn, 1) := by decide +kernel
theorem dX10_other_0 : decode cX10_other 0 = .ok (.iconst 1, 1) := by decide +kernel
theorem dX10_other_1 : decode cX10_other 1 = .ok (.iload_n 0, 1) := by decide +kernel
theorem dX10_other_2 : decode cX10_other 2 = .ok (.isub, 1) := by decide +kernel
theorem dX10_other_3 : decode cX10_other 3 = .ok (.ireturn, 1) := by decide +kernel
theorem dX10_requireChannel_0 : decode cX10_requireChannel 0 = .ok (.iload_n 0, 1) := by decide +kernel
theorem dX10_requireChannel_1 : decode cX10_requireChannel 1 = .ok (.invokestatic 85, 3) := by decide +kernel
theorem dX10_requireChannel_4 : decode cX10_requireChannel 4 = .ok (.ifCond .ne 14, 3) := by decide +kernel
theorem dX10_requireChannel_7 : decode cX10_requireChannel 7 = .ok (.new 255, 3) := by decide +kernel
theorem dX10_requireChannel_10 : decode cX10_requireChannel 10 = .ok (.dup, 1) := by decide +kernel
theorem dX10_requireChannel_11 : decode cX10_requireChannel 11 = .ok (.ldc_w 342, 3) := by decide +kernel
theorem dX10_requireChannel_14 : decode cX10_requireChannel 14 = .ok (.invokespecial 259, 3) := by decide +kernel
theorem dX10_requireChannel_17 : decode cX10_requireChannel 17 = .ok (.athrow, 1) := by decide +kernel
theorem dX10_requireChannel_18 : decode cX10_requireChannel 18 = .ok (.return_, 1) := by decide +kernel
theorem dX10_requireTransition_0 : decode cX10_requireTransition 0 = .ok (.aload_n 0, 1) := by decide +kernel
theorem dX10_requireTransition_1 : decode cX10_requireTransition 1 = .ok (.getfield 10, 3) := by decide +kernel
theorem dX10_requireTransition_4 : decode cX10_requireTransition 4 = .ok (.iload_n 1, 1) := by decide +kernel
theorem dX10_requireTransition_5 : decode cX10_requireTransition 5 = .ok (.invokevirtual 344, 3) := by decide +kernel
theorem dX10_requireTransition_8 : decode cX10_requireTransition 8 = .ok (.ifCond .ne 14, 3) := by decide +kernel
theorem dX10_requireTransition_11 : decode cX10_requireTransition 11 = .ok (.new 255, 3) := by decide +kernel
theorem dX10_requireTransition_14 : decode cX10_requireTransition 14 = .ok (.dup, 1) := by decide +kernel
theorem dX10_requireTransition_15 : decode cX10_requireTransition 15 = .ok (.ldc_w 347, 3) := by decide +kernel
theorem dX10_requireTransition_18 : decode cX10_requireTransition 18 = .ok (.invokespecial 259, 3) := by decide +kernel
theorem dX10_requireTransition_21 : decode cX10_requireTransition 21 = .ok (.athrow, 1) := by decide +kernel
theorem dX10_requireTransition_22 : decode cX10_requireTransition 22 = .ok (.return_, 1) := by decide +kernel
theorem dX10_requireLetter_0 : decode cX10_requireLetter 0 = .ok (.iload_n 2, 1) := by decide +kernel
theorem dX10_requireLetter_1 : decode cX10_requireLetter 1 = .ok (.ifCond .lt 18, 3) := by decide +kernel
theorem dX10_requireLetter_4 : decode cX10_requireLetter 4 = .ok (.iload_n 2, 1) := by decide +kernel
theorem dX10_requireLetter_5 : decode cX10_requireLetter 5 = .ok (.aload_n 0, 1) := by decide +kernel
theorem dX10_requireLetter_6 : decode cX10_requireLetter 6 = .ok (.getfield 19, 3) := by decide +kernel
theorem dX10_requireLetter_9 : decode cX10_requireLetter 9 = .ok (.iload_n 1, 1) := by decide +kernel
theorem dX10_requireLetter_10 : decode cX10_requireLetter 10 = .ok (.invokevirtual 135, 3) := by decide +kernel
theorem dX10_requireLetter_13 : decode cX10_requireLetter 13 = .ok (.invokestatic 139, 3) := by decide +kernel
theorem dX10_requireLetter_16 : decode cX10_requireLetter 16 = .ok (.if_icmp .lt 13, 3) := by decide +kernel
theorem dX10_requireLetter_19 : decode cX10_requireLetter 19 = .ok (.new 349, 3) := by decide +kernel
theorem dX10_requireLetter_22 : decode cX10_requireLetter 22 = .ok (.dup, 1) := by decide +kernel
theorem dX10_requireLetter_23 : decode cX10_requireLetter 23 = .ok (.ldc 133, 2) := by decide +kernel
theorem dX10_requireLetter_25 : decode cX10_requireLetter 25 = .ok (.invokespecial 351, 3) := by decide +kernel
theorem dX10_requireLetter_28 : decode cX10_requireLetter 28 = .ok (.athrow, 1) := by decide +kernel
theorem dX10_requireLetter_29 : decode cX10_requireLetter 29 = .ok (.return_, 1) := by decide +kernel
theorem dX10_requireGoal_0 : decode cX10_requireGoal 0 = .ok (.aload_n 0, 1) := by decide +kernel
theorem dX10_requireGoal_1 : decode cX10_requireGoal 1 = .ok (.getfield 28, 3) := by decide +kernel
theorem dX10_requireGoal_4 : decode cX10_requireGoal 4 = .ok (.invokevirtual 225, 3) := by decide +kernel
theorem dX10_requireGoal_7 : decode cX10_requireGoal 7 = .ok (.ifCond .ne 14, 3) := by decide +kernel
theorem dX10_requireGoal_10 : decode cX10_requireGoal 10 = .ok (.new 352, 3) := by decide +kernel
theorem dX10_requireGoal_13 : decode cX10_requireGoal 13 = .ok (.dup, 1) := by decide +kernel
theorem dX10_requireGoal_14 : decode cX10_requireGoal 14 = .ok (.ldc_w 354, 3) := by decide +kernel
theorem dX10_requireGoal_17 : decode cX10_requireGoal 17 = .ok (.invokespecial 356, 3) := by decide +kernel
theorem dX10_requireGoal_20 : decode cX10_requireGoal 20 = .ok (.athrow, 1) := by decide +kernel
theorem dX10_requireGoal_21 : decode cX10_requireGoal 21 = .ok (.return_, 1) := by decide +kernel
theorem dX10_requireCompleteAnalysis_0 : decode cX10_requireCompleteAnalysis 0 = .ok (.aload_n 0, 1) := by decide +kernel
theorem dX10_requireCompleteAnalysis_1 : decode cX10_requireCompleteAnalysis 1 = .ok (.invokevirtual 235, 3) := by decide +kernel
theorem dX10_requireCompleteAnalysis_4 : decode cX10_requireCompleteAnalysis 4 = .ok (.aload_n 0, 1) := by decide +kernel
theorem dX10_requireCompleteAnalysis_5 : decode cX10_requireCompleteAnalysis 5 = .ok (.getfield 49, 3) := by decide +kernel
theorem dX10_requireCompleteAnalysis_8 : decode cX10_requireCompleteAnalysis 8 = .ok (.aload_n 0, 1) := by decide +kernel
theorem dX10_requireCompleteAnalysis_9 : decode cX10_requireCompleteAnalysis 9 = .ok (.getfield 10, 3) := by decide +kernel
theorem dX10_requireCompleteAnalysis_12 : decode cX10_requireCompleteAnalysis 12 = .ok (.aload_n 0, 1) := by decide +kernel
theorem dX10_requireCompleteAnalysis_13 : decode cX10_requireCompleteAnalysis 13 = .ok (.getfield 28, 3) := by decide +kernel
theorem dX10_requireCompleteAnalysis_16 : decode cX10_requireCompleteAnalysis 16 = .ok (.invokevirtual 238, 3) := by decide +kernel
theorem dX10_requireCompleteAnalysis_19 : decode cX10_requireCompleteAnalysis 19 = .ok (.ifCond .ne 14, 3) := by decide +kernel
theorem dX10_requireCompleteAnalysis_22 : decode cX10_requireCompleteAnalysis 22 = .ok (.new 97, 3) := by decide +kernel
theorem dX10_requireCompleteAnalysis_25 : decode cX10_requireCompleteAnalysis 25 = .ok (.dup, 1) := by decide +kernel
theorem dX10_requireCompleteAnalysis_26 : decode cX10_requireCompleteAnalysis 26 = .ok (.ldc_w 357, 3) := by decide +kernel
theorem dX10_requireCompleteAnalysis_29 : decode cX10_requireCompleteAnalysis 29 = .ok (.invokespecial 101, 3) := by decide +kernel
theorem dX10_requireCompleteAnalysis_32 : decode cX10_requireCompleteAnalysis 32 = .ok (.athrow, 1) := by decide +kernel
theorem dX10_requireCompleteAnalysis_33 : decode cX10_requireCompleteAnalysis 33 = .ok (.return_, 1) := by decide +kernel
theorem dX10_requireRound_0 : decode cX10_requireRound 0 = .ok (.iload_n 1, 1) := by decide +kernel
theorem dX10_requireRound_1 : decode cX10_requireRound 1 = .ok (.ifCond .lt 14, 3) := by decide +kernel
theorem dX10_requireRound_4 : decode cX10_requireRound 4 = .ok (.iload_n 1, 1) := by decide +kernel
theorem dX10_requireRound_5 : decode cX10_requireRound 5 = .ok (.aload_n 0, 1) := by decide +kernel
theorem dX10_requireRound_6 : decode cX10_requireRound 6 = .ok (.getfield 49, 3) := by decide +kernel
theorem dX10_requireRound_9 : decode cX10_requireRound 9 = .ok (.invokevirtual 245, 3) := by decide +kernel
theorem dX10_requireRound_12 : decode cX10_requireRound 12 = .ok (.if_icmp .le 14, 3) := by decide +kernel
theorem dX10_requireRound_15 : decode cX10_requireRound 15 = .ok (.new 255, 3) := by decide +kernel
theorem dX10_requireRound_18 : decode cX10_requireRound 18 = .ok (.dup, 1) := by decide +kernel
theorem dX10_requireRound_19 : decode cX10_requireRound 19 = .ok (.ldc_w 359, 3) := by decide +kernel
theorem dX10_requireRound_22 : decode cX10_requireRound 22 = .ok (.invokespecial 259, 3) := by decide +kernel
theorem dX10_requireRound_25 : decode cX10_requireRound 25 = .ok (.athrow, 1) := by decide +kernel
theorem dX10_requireRound_26 : decode cX10_requireRound 26 = .ok (.return_, 1) := by decide +kernel
theorem dX10_requireCoveringFiring_0 : decode cX10_requireCoveringFiring 0 = .ok (.aload_n 0, 1) := by decide +kernel
theorem dX10_requireCoveringFiring_1 : decode cX10_requireCoveringFiring 1 = .ok (.getfield 49, 3) := by decide +kernel
theorem dX10_requireCoveringFiring_4 : decode cX10_requireCoveringFiring 4 = .ok (.aload_n 0, 1) := by decide +kernel
theorem dX10_requireCoveringFiring_5 : decode cX10_requireCoveringFiring 5 = .ok (.getfield 10, 3) := by decide +kernel
theorem dX10_requireCoveringFiring_8 : decode cX10_requireCoveringFiring 8 = .ok (.aload_n 0, 1) := by decide +kernel
theorem dX10_requireCoveringFiring_9 : decode cX10_requireCoveringFiring 9 = .ok (.getfield 19, 3) := by decide +kernel
theorem dX10_requireCoveringFiring_12 : decode cX10_requireCoveringFiring 12 = .ok (.iload_n 1, 1) := by decide +kernel
theorem dX10_requireCoveringFiring_13 : decode cX10_requireCoveringFiring 13 = .ok (.invokevirtual 361, 3) := by decide +kernel
theorem dX10_requireCoveringFiring_16 : decode cX10_requireCoveringFiring 16 = .ok (.ifCond .ne 14, 3) := by decide +kernel
theorem dX10_requireCoveringFiring_19 : decode cX10_requireCoveringFiring 19 = .ok (.new 349, 3) := by decide +kernel
theorem dX10_requireCoveringFiring_22 : decode cX10_requireCoveringFiring 22 = .ok (.dup, 1) := by decide +kernel
theorem dX10_requireCoveringFiring_23 : decode cX10_requireCoveringFiring 23 = .ok (.ldc_w 365, 3) := by decide +kernel
theorem dX10_requireCoveringFiring_26 : decode cX10_requireCoveringFiring 26 = .ok (.invokespecial 351, 3) := by decide +kernel
theorem dX10_requireCoveringFiring_29 : decode cX10_requireCoveringFiring 29 = .ok (.athrow, 1) := by decide +kernel
theorem dX10_requireCoveringFiring_30 : decode cX10_requireCoveringFiring 30 = .ok (.return_, 1) := by decide +kernel
