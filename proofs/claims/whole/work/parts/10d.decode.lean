theorem dJ9_max_7cf53_0 : decode cJ9_max_7cf53 0 = .ok (.iload_n 0, 1) := by decide +kernel
theorem dJ9_max_7cf53_1 : decode cJ9_max_7cf53 1 = .ok (.iload_n 1, 1) := by decide +kernel
theorem dJ9_max_7cf53_2 : decode cJ9_max_7cf53 2 = .ok (.if_icmp .lt 7, 3) := by decide +kernel
theorem dJ9_max_7cf53_5 : decode cJ9_max_7cf53 5 = .ok (.iload_n 0, 1) := by decide +kernel
theorem dJ9_max_7cf53_6 : decode cJ9_max_7cf53 6 = .ok (.goto 4, 3) := by decide +kernel
theorem dJ9_max_7cf53_9 : decode cJ9_max_7cf53 9 = .ok (.iload_n 1, 1) := by decide +kernel
theorem dJ9_max_7cf53_10 : decode cJ9_max_7cf53 10 = .ok (.ireturn, 1) := by decide +kernel
theorem dJ9_min_7cf53_0 : decode cJ9_min_7cf53 0 = .ok (.iload_n 0, 1) := by decide +kernel
theorem dJ9_min_7cf53_1 : decode cJ9_min_7cf53 1 = .ok (.iload_n 1, 1) := by decide +kernel
theorem dJ9_min_7cf53_2 : decode cJ9_min_7cf53 2 = .ok (.if_icmp .gt 7, 3) := by decide +kernel
theorem dJ9_min_7cf53_5 : decode cJ9_min_7cf53 5 = .ok (.iload_n 0, 1) := by decide +kernel
theorem dJ9_min_7cf53_6 : decode cJ9_min_7cf53 6 = .ok (.goto 4, 3) := by decide +kernel
theorem dJ9_min_7cf53_9 : decode cJ9_min_7cf53 9 = .ok (.iload_n 1, 1) := by decide +kernel
theorem dJ9_min_7cf53_10 : decode cJ9_min_7cf53 10 = .ok (.ireturn, 1) := by decide +kernel
theorem dJ0_length_8abf5_0 : decode cJ0_length_8abf5 0 = .ok (.aload_n 0, 1) := by decide +kernel
theorem dJ0_length_8abf5_1 : decode cJ0_length_8abf5 1 = .ok (.getfield 9, 3) := by decide +kernel
theorem dJ0_length_8abf5_4 : decode cJ0_length_8abf5 4 = .ok (.arraylength, 1) := by decide +kernel
theorem dJ0_length_8abf5_5 : decode cJ0_length_8abf5 5 = .ok (.aload_n 0, 1) := by decide +kernel
theorem dJ0_length_8abf5_6 : decode cJ0_length_8abf5 6 = .ok (.invokevirtual 335, 3) := by decide +kernel
theorem dJ0_length_8abf5_9 : decode cJ0_length_8abf5 9 = .ok (.ishr, 1) := by decide +kernel
theorem dJ0_length_8abf5_10 : decode cJ0_length_8abf5 10 = .ok (.ireturn, 1) := by decide +kernel
theorem dJ0_charAt_5068e_0 : decode cJ0_charAt_5068e 0 = .ok (.aload_n 0, 1) := by decide +kernel
theorem dJ0_charAt_5068e_1 : decode cJ0_charAt_5068e 1 = .ok (.invokevirtual 492, 3) := by decide +kernel
theorem dJ0_charAt_5068e_4 : decode cJ0_charAt_5068e 4 = .ok (.ifCond .eq 12, 3) := by decide +kernel
theorem dJ0_charAt_5068e_7 : decode cJ0_charAt_5068e 7 = .ok (.aload_n 0, 1) := by decide +kernel
theorem dJ0_charAt_5068e_8 : decode cJ0_charAt_5068e 8 = .ok (.getfield 9, 3) := by decide +kernel
theorem dJ0_charAt_5068e_11 : decode cJ0_charAt_5068e 11 = .ok (.iload_n 1, 1) := by decide +kernel
theorem dJ0_charAt_5068e_12 : decode cJ0_charAt_5068e 12 = .ok (.invokestatic 495, 3) := by decide +kernel
theorem dJ0_charAt_5068e_15 : decode cJ0_charAt_5068e 15 = .ok (.ireturn, 1) := by decide +kernel
theorem dJ0_charAt_5068e_16 : decode cJ0_charAt_5068e 16 = .ok (.aload_n 0, 1) := by decide +kernel
theorem dJ0_charAt_5068e_17 : decode cJ0_charAt_5068e 17 = .ok (.getfield 9, 3) := by decide +kernel
theorem dJ0_charAt_5068e_20 : decode cJ0_charAt_5068e 20 = .ok (.iload_n 1, 1) := by decide +kernel
theorem dJ0_charAt_5068e_21 : decode cJ0_charAt_5068e 21 = .ok (.invokestatic 498, 3) := by decide +kernel
theorem dJ0_charAt_5068e_24 : decode cJ0_charAt_5068e 24 = .ok (.ireturn, 1) := by decide +kernel
theorem dJ0_coder_7d493_0 : decode cJ0_coder_7d493 0 = .ok (.getstatic 38, 3) := by decide +kernel
theorem dJ0_coder_7d493_3 : decode cJ0_coder_7d493 3 = .ok (.ifCond .eq 10, 3) := by decide +kernel
theorem dJ0_coder_7d493_6 : decode cJ0_coder_7d493 6 = .ok (.aload_n 0, 1) := by decide +kernel
theorem dJ0_coder_7d493_7 : decode cJ0_coder_7d493 7 = .ok (.getfield 15, 3) := by decide +kernel
theorem dJ0_coder_7d493_10 : decode cJ0_coder_7d493 10 = .ok (.goto 4, 3) := by decide +kernel
theorem dJ0_coder_7d493_13 : decode cJ0_coder_7d493 13 = .ok (.iconst 1, 1) := by decide +kernel
theorem dJ0_coder_7d493_14 : decode cJ0_coder_7d493 14 = .ok (.ireturn, 1) := by decide +kernel
theorem dJ0_isLatin1_aae02_0 : decode cJ0_isLatin1_aae02 0 = .ok (.getstatic 38, 3) := by decide +kernel
theorem dJ0_isLatin1_aae02_3 : decode cJ0_isLatin1_aae02 3 = .ok (.ifCond .eq 14, 3) := by decide +kernel
theorem dJ0_isLatin1_aae02_6 : decode cJ0_isLatin1_aae02 6 = .ok (.aload_n 0, 1) := by decide +kernel
theorem dJ0_isLatin1_aae02_7 : decode cJ0_isLatin1_aae02 7 = .ok (.getfield 15, 3) := by decide +kernel
theorem dJ0_isLatin1_aae02_10 : decode cJ0_isLatin1_aae02 10 = .ok (.ifCond .ne 7, 3) := by decide +kernel
theorem dJ0_isLatin1_aae02_13 : decode cJ0_isLatin1_aae02 13 = .ok (.iconst 1, 1) := by decide +kernel
theorem dJ0_isLatin1_aae02_14 : decode cJ0_isLatin1_aae02 14 = .ok (.goto 4, 3) := by decide +kernel
theorem dJ0_isLatin1_aae02_17 : decode cJ0_isLatin1_aae02 17 = .ok (.iconst 0, 1) := by decide +kernel
theorem dJ0_isLatin1_aae02_18 : decode cJ0_isLatin1_aae02 18 = .ok (.ireturn, 1) := by decide +kernel
theorem dJ0_checkIndex_df160_0 : decode cJ0_checkIndex_df160 0 = .ok (.iload_n 0, 1) := by decide +kernel
theorem dJ0_checkIndex_df160_1 : decode cJ0_checkIndex_df160 1 = .ok (.iload_n 1, 1) := by decide +kernel
theorem dJ0_checkIndex_df160_2 : decode cJ0_checkIndex_df160 2 = .ok (.getstatic 1053, 3) := by decide +kernel
theorem dJ0_checkIndex_df160_5 : decode cJ0_checkIndex_df160 5 = .ok (.invokestatic 1059, 3) := by decide +kernel
theorem dJ0_checkIndex_df160_8 : decode cJ0_checkIndex_df160 8 = .ok (.pop, 1) := by decide +kernel
theorem dJ0_checkIndex_df160_9 : decode cJ0_checkIndex_df160 9 = .ok (.return_, 1) := by decide +kernel
theorem dJ1_charAt_3b067_0 : decode cJ1_charAt_3b067 0 = .ok (.iload_n 1, 1) := by decide +kernel
theorem dJ1_charAt_3b067_1 : decode cJ1_charAt_3b067 1 = .ok (.aload_n 0, 1) := by decide +kernel
theorem dJ1_charAt_3b067_2 : decode cJ1_charAt_3b067 2 = .ok (.arraylength, 1) := by decide +kernel
theorem dJ1_charAt_3b067_3 : decode cJ1_charAt_3b067 3 = .ok (.invokestatic 9, 3) := by decide +kernel
theorem dJ1_charAt_3b067_6 : decode cJ1_charAt_3b067 6 = .ok (.aload_n 0, 1) := by decide +kernel
theorem dJ1_charAt_3b067_7 : decode cJ1_charAt_3b067 7 = .ok (.iload_n 1, 1) := by decide +kernel
theorem dJ1_charAt_3b067_8 : decode cJ1_charAt_3b067 8 = .ok (.baload, 1) := by decide +kernel
theorem dJ1_charAt_3b067_9 : decode cJ1_charAt_3b067 9 = .ok (.sipush 255, 3) := by decide +kernel
theorem dJ1_charAt_3b067_12 : decode cJ1_charAt_3b067 12 = .ok (.iand, 1) := by decide +kernel
theorem dJ1_charAt_3b067_13 : decode cJ1_charAt_3b067 13 = .ok (.i2c, 1) := by decide +kernel
theorem dJ1_charAt_3b067_14 : decode cJ1_charAt_3b067 14 = .ok (.ireturn, 1) := by decide +kernel
theorem dJ2_getChar_3b067_0 : decode cJ2_getChar_3b067 0 = .ok (.getstatic 44, 3) := by decide +kernel
theorem dJ2_getChar_3b067_3 : decode cJ2_getChar_3b067 3 = .ok (.ifCond .ne 25, 3) := by decide +kernel
theorem dJ2_getChar_3b067_6 : decode cJ2_getChar_3b067 6 = .ok (.iload_n 1, 1) := by decide +kernel
theorem dJ2_getChar_3b067_7 : decode cJ2_getChar_3b067 7 = .ok (.ifCond .lt 11, 3) := by decide +kernel
theorem dJ2_getChar_3b067_10 : decode cJ2_getChar_3b067 10 = .ok (.iload_n 1, 1) := by decide +kernel
theorem dJ2_getChar_3b067_11 : decode cJ2_getChar_3b067 11 = .ok (.aload_n 0, 1) := by decide +kernel
theorem dJ2_getChar_3b067_12 : decode cJ2_getChar_3b067 12 = .ok (.invokestatic 48, 3) := by decide +kernel
theorem dJ2_getChar_3b067_15 : decode cJ2_getChar_3b067 15 = .ok (.if_icmp .lt 13, 3) := by decide +kernel
theorem dJ2_getChar_3b067_18 : decode cJ2_getChar_3b067 18 = .ok (.new 52, 3) := by decide +kernel
theorem dJ2_getChar_3b067_21 : decode cJ2_getChar_3b067 21 = .ok (.dup, 1) := by decide +kernel
theorem dJ2_getChar_3b067_22 : decode cJ2_getChar_3b067 22 = .ok (.ldc 54, 2) := by decide +kernel
theorem dJ2_getChar_3b067_24 : decode cJ2_getChar_3b067 24 = .ok (.invokespecial 56, 3) := by decide +kernel
theorem dJ2_getChar_3b067_27 : decode cJ2_getChar_3b067 27 = .ok (.athrow, 1) := by decide +kernel
theorem dJ2_getChar_3b067_28 : decode cJ2_getChar_3b067 28 = .ok (.iload_n 1, 1) := by decide +kernel
theorem dJ2_getChar_3b067_29 : decode cJ2_getChar_3b067 29 = .ok (.iconst 1, 1) := by decide +kernel
theorem dJ2_getChar_3b067_30 : decode cJ2_getChar_3b067 30 = .ok (.ishl, 1) := by decide +kernel
theorem dJ2_getChar_3b067_31 : decode cJ2_getChar_3b067 31 = .ok (.istore_n 1, 1) := by decide +kernel
theorem dJ2_getChar_3b067_32 : decode cJ2_getChar_3b067 32 = .ok (.aload_n 0, 1) := by decide +kernel
theorem dJ2_getChar_3b067_33 : decode cJ2_getChar_3b067 33 = .ok (.iload_n 1, 1) := by decide +kernel
theorem dJ2_getChar_3b067_34 : decode cJ2_getChar_3b067 34 = .ok (.iinc 1 1, 3) := by decide +kernel
theorem dJ2_getChar_3b067_37 : decode cJ2_getChar_3b067 37 = .ok (.baload, 1) := by decide +kernel
theorem dJ2_getChar_3b067_38 : decode cJ2_getChar_3b067 38 = .ok (.sipush 255, 3) := by decide +kernel
theorem dJ2_getChar_3b067_41 : decode cJ2_getChar_3b067 41 = .ok (.iand, 1) := by decide +kernel
theorem dJ2_getChar_3b067_42 : decode cJ2_getChar_3b067 42 = .ok (.getstatic 59, 3) := by decide +kernel
theorem dJ2_getChar_3b067_45 : decode cJ2_getChar_3b067 45 = .ok (.ishl, 1) := by decide +kernel
theorem dJ2_getChar_3b067_46 : decode cJ2_getChar_3b067 46 = .ok (.aload_n 0, 1) := by decide +kernel
theorem dJ2_getChar_3b067_47 : decode cJ2_getChar_3b067 47 = .ok (.iload_n 1, 1) := by decide +kernel
theorem dJ2_getChar_3b067_48 : decode cJ2_getChar_3b067 48 = .ok (.baload, 1) := by decide +kernel
theorem dJ2_getChar_3b067_49 : decode cJ2_getChar_3b067 49 = .ok (.sipush 255, 3) := by decide +kernel
theorem dJ2_getChar_3b067_52 : decode cJ2_getChar_3b067 52 = .ok (.iand, 1) := by decide +kernel
theorem dJ2_getChar_3b067_53 : decode cJ2_getChar_3b067 53 = .ok (.getstatic 63, 3) := by decide +kernel
theorem dJ2_getChar_3b067_56 : decode cJ2_getChar_3b067 56 = .ok (.ishl, 1) := by decide +kernel
theorem dJ2_getChar_3b067_57 : decode cJ2_getChar_3b067 57 = .ok (.ior, 1) := by decide +kernel
theorem dJ2_getChar_3b067_58 : decode cJ2_getChar_3b067 58 = .ok (.i2c, 1) := by decide +kernel
theorem dJ2_getChar_3b067_59 : decode cJ2_getChar_3b067 59 = .ok (.ireturn, 1) := by decide +kernel
theorem dJ2_length_9d52b_0 : decode cJ2_length_9d52b 0 = .ok (.aload_n 0, 1) := by decide +kernel
theorem dJ2_length_9d52b_1 : decode cJ2_length_9d52b 1 = .ok (.arraylength, 1) := by decide +kernel
theorem dJ2_length_9d52b_2 : decode cJ2_length_9d52b 2 = .ok (.iconst 1, 1) := by decide +kernel
theorem dJ2_length_9d52b_3 : decode cJ2_length_9d52b 3 = .ok (.ishr, 1) := by decide +kernel
theorem dJ2_length_9d52b_4 : decode cJ2_length_9d52b 4 = .ok (.ireturn, 1) := by decide +kernel
theorem dJ2_charAt_3b067_0 : decode cJ2_charAt_3b067 0 = .ok (.iload_n 1, 1) := by decide +kernel
theorem dJ2_charAt_3b067_1 : decode cJ2_charAt_3b067 1 = .ok (.aload_n 0, 1) := by decide +kernel
theorem dJ2_charAt_3b067_2 : decode cJ2_charAt_3b067 2 = .ok (.invokestatic 67, 3) := by decide +kernel
theorem dJ2_charAt_3b067_5 : decode cJ2_charAt_3b067 5 = .ok (.aload_n 0, 1) := by decide +kernel
theorem dJ2_charAt_3b067_6 : decode cJ2_charAt_3b067 6 = .ok (.iload_n 1, 1) := by decide +kernel
theorem dJ2_charAt_3b067_7 : decode cJ2_charAt_3b067 7 = .ok (.invokestatic 71, 3) := by decide +kernel
theorem dJ2_charAt_3b067_10 : decode cJ2_charAt_3b067 10 = .ok (.ireturn, 1) := by decide +kernel
theorem dJ2_checkIndex_2214a_0 : decode cJ2_checkIndex_2214a 0 = .ok (.iload_n 0, 1) := by decide +kernel
theorem dJ2_checkIndex_2214a_1 : decode cJ2_checkIndex_2214a 1 = .ok (.aload_n 1, 1) := by decide +kernel
theorem dJ2_checkIndex_2214a_2 : decode cJ2_checkIndex_2214a 2 = .ok (.invokestatic 48, 3) := by decide +kernel
theorem dJ2_checkIndex_2214a_5 : decode cJ2_checkIndex_2214a 5 = .ok (.invokestatic 414, 3) := by decide +kernel
theorem dJ2_checkIndex_2214a_8 : decode cJ2_checkIndex_2214a 8 = .ok (.return_, 1) := by decide +kernel
theorem dJ3_checkIndex_8e157_0 : decode cJ3_checkIndex_8e157 0 = .ok (.iload_n 0, 1) := by decide +kernel
theorem dJ3_checkIndex_8e157_1 : decode cJ3_checkIndex_8e157 1 = .ok (.ifCond .lt 8, 3) := by decide +kernel
theorem dJ3_checkIndex_8e157_4 : decode cJ3_checkIndex_8e157 4 = .ok (.iload_n 0, 1) := by decide +kernel
theorem dJ3_checkIndex_8e157_5 : decode cJ3_checkIndex_8e157 5 = .ok (.iload_n 1, 1) := by decide +kernel
theorem dJ3_checkIndex_8e157_6 : decode cJ3_checkIndex_8e157 6 = .ok (.if_icmp .lt 10, 3) := by decide +kernel
theorem dJ3_checkIndex_8e157_9 : decode cJ3_checkIndex_8e157 9 = .ok (.aload_n 2, 1) := by decide +kernel
theorem dJ3_checkIndex_8e157_10 : decode cJ3_checkIndex_8e157 10 = .ok (.iload_n 0, 1) := by decide +kernel
theorem dJ3_checkIndex_8e157_11 : decode cJ3_checkIndex_8e157 11 = .ok (.iload_n 1, 1) := by decide +kernel
theorem dJ3_checkIndex_8e157_12 : decode cJ3_checkIndex_8e157 12 = .ok (.invokestatic 95, 3) := by decide +kernel
theorem dJ3_checkIndex_8e157_15 : decode cJ3_checkIndex_8e157 15 = .ok (.athrow, 1) := by decide +kernel
theorem dJ3_checkIndex_8e157_16 : decode cJ3_checkIndex_8e157 16 = .ok (.iload_n 0, 1) := by decide +kernel
theorem dJ3_checkIndex_8e157_17 : decode cJ3_checkIndex_8e157 17 = .ok (.ireturn, 1) := by decide +kernel
theorem dL_addTransition_0 : decode cL_addTransition 0 = .ok (.aload 6, 2) := by decide +kernel
theorem dL_addTransition_2 : decode cL_addTransition 2 = .ok (.iconst 0, 1) := by decide +kernel
theorem dL_addTransition_3 : decode cL_addTransition 3 = .ok (.aload_n 0, 1) := by decide +kernel
theorem dL_addTransition_4 : decode cL_addTransition 4 = .ok (.iload_n 1, 1) := by decide +kernel
theorem dL_addTransition_5 : decode cL_addTransition 5 = .ok (.iload_n 2, 1) := by decide +kernel
theorem dL_addTransition_6 : decode cL_addTransition 6 = .ok (.iload_n 3, 1) := by decide +kernel
theorem dL_addTransition_7 : decode cL_addTransition 7 = .ok (.iload 4, 2) := by decide +kernel
theorem dL_addTransition_9 : decode cL_addTransition 9 = .ok (.iload 5, 2) := by decide +kernel
theorem dL_addTransition_11 : decode cL_addTransition 11 = .ok (.invokevirtual 7, 3) := by decide +kernel
theorem dL_addTransition_14 : decode cL_addTransition 14 = .ok (.i2l, 1) := by decide +kernel
theorem dL_addTransition_15 : decode cL_addTransition 15 = .ok (.lastore, 1) := by decide +kernel
theorem dL_addTransition_16 : decode cL_addTransition 16 = .ok (.goto 11, 3) := by decide +kernel
theorem dL_addTransition_19 : decode cL_addTransition 19 = .ok (.astore 7, 2) := by decide +kernel
theorem dL_addTransition_21 : decode cL_addTransition 21 = .ok (.iconst 1, 1) := by decide +kernel
theorem dL_addTransition_22 : decode cL_addTransition 22 = .ok (.ireturn, 1) := by decide +kernel
theorem dL_addTransition_23 : decode cL_addTransition 23 = .ok (.astore 7, 2) := by decide +kernel
theorem dL_addTransition_25 : decode cL_addTransition 25 = .ok (.iconst 2, 1) := by decide +kernel
theorem dL_addTransition_26 : decode cL_addTransition 26 = .ok (.ireturn, 1) := by decide +kernel
theorem dL_addTransition_27 : decode cL_addTransition 27 = .ok (.iconst 0, 1) := by decide +kernel
theorem dL_addTransition_28 : decode cL_addTransition 28 = .ok (.ireturn, 1) := by decide +kernel
theorem dL_removeTransition_0 : decode cL_removeTransition 0 = .ok (.aload_n 2, 1) := by decide +kernel
theorem dL_removeTransition_1 : decode cL_removeTransition 1 = .ok (.iconst 0, 1) := by decide +kernel
theorem dL_removeTransition_2 : decode cL_removeTransition 2 = .ok (.aload_n 0, 1) := by decide +kernel
theorem dL_removeTransition_3 : decode cL_removeTransition 3 = .ok (.iload_n 1, 1) := by decide +kernel
theorem dL_removeTransition_4 : decode cL_removeTransition 4 = .ok (.invokevirtual 17, 3) := by decide +kernel
theorem dL_removeTransition_7 : decode cL_removeTransition 7 = .ok (.i2l, 1) := by decide +kernel
theorem dL_removeTransition_8 : decode cL_removeTransition 8 = .ok (.lastore, 1) := by decide +kernel
theorem dL_removeTransition_9 : decode cL_removeTransition 9 = .ok (.goto 6, 3) := by decide +kernel
theorem dL_removeTransition_12 : decode cL_removeTransition 12 = .ok (.astore_n 3, 1) := by decide +kernel
theorem dL_removeTransition_13 : decode cL_removeTransition 13 = .ok (.iconst 1, 1) := by decide +kernel
theorem dL_removeTransition_14 : decode cL_removeTransition 14 = .ok (.ireturn, 1) := by decide +kernel
theorem dL_removeTransition_15 : decode cL_removeTransition 15 = .ok (.iconst 0, 1) := by decide +kernel
theorem dL_removeTransition_16 : decode cL_removeTransition 16 = .ok (.ireturn, 1) := by decide +kernel
theorem dL_transition_0 : decode cL_transition 0 = .ok (.aload_n 3, 1) := by decide +kernel
theorem dL_transition_1 : decode cL_transition 1 = .ok (.iconst 0, 1) := by decide +kernel
theorem dL_transition_2 : decode cL_transition 2 = .ok (.aload_n 0, 1) := by decide +kernel
theorem dL_transition_3 : decode cL_transition 3 = .ok (.iload_n 1, 1) := by decide +kernel
theorem dL_transition_4 : decode cL_transition 4 = .ok (.iload_n 2, 1) := by decide +kernel
theorem dL_transition_5 : decode cL_transition 5 = .ok (.invokevirtual 23, 3) := by decide +kernel
theorem dL_transition_8 : decode cL_transition 8 = .ok (.i2l, 1) := by decide +kernel
theorem dL_transition_9 : decode cL_transition 9 = .ok (.lastore, 1) := by decide +kernel
theorem dL_transition_10 : decode cL_transition 10 = .ok (.goto 11, 3) := by decide +kernel
theorem dL_transition_13 : decode cL_transition 13 = .ok (.astore 4, 2) := by decide +kernel
theorem dL_transition_15 : decode cL_transition 15 = .ok (.iconst 1, 1) := by decide +kernel
theorem dL_transition_16 : decode cL_transition 16 = .ok (.ireturn, 1) := by decide +kernel
theorem dL_transition_17 : decode cL_transition 17 = .ok (.astore 4, 2) := by decide +kernel
theorem dL_transition_19 : decode cL_transition 19 = .ok (.iconst 2, 1) := by decide +kernel
theorem dL_transition_20 : decode cL_transition 20 = .ok (.ireturn, 1) := by decide +kernel
theorem dL_transition_21 : decode cL_transition 21 = .ok (.iconst 0, 1) := by decide +kernel
theorem dL_transition_22 : decode cL_transition 22 = .ok (.ireturn, 1) := by decide +kernel
theorem dL_setState_0 : decode cL_setState 0 = .ok (.aload_n 2, 1) := by decide +kernel
theorem dL_setState_1 : decode cL_setState 1 = .ok (.iconst 0, 1) := by decide +kernel
theorem dL_setState_2 : decode cL_setState 2 = .ok (.aload_n 0, 1) := by decide +kernel
theorem dL_setState_3 : decode cL_setState 3 = .ok (.iload_n 1, 1) := by decide +kernel
theorem dL_setState_4 : decode cL_setState 4 = .ok (.invokevirtual 27, 3) := by decide +kernel
theorem dL_setState_7 : decode cL_setState 7 = .ok (.i2l, 1) := by decide +kernel
theorem dL_setState_8 : decode cL_setState 8 = .ok (.lastore, 1) := by decide +kernel
theorem dL_setState_9 : decode cL_setState 9 = .ok (.goto 6, 3) := by decide +kernel
theorem dL_setState_12 : decode cL_setState 12 = .ok (.astore_n 3, 1) := by decide +kernel
theorem dL_setState_13 : decode cL_setState 13 = .ok (.iconst 1, 1) := by decide +kernel
theorem dL_setState_14 : decode cL_setState 14 = .ok (.ireturn, 1) := by decide +kernel
theorem dL_setState_15 : decode cL_setState 15 = .ok (.iconst 0, 1) := by decide +kernel
theorem dL_setState_16 : decode cL_setState 16 = .ok (.ireturn, 1) := by decide +kernel
theorem dL_put_0 : decode cL_put 0 = .ok (.aload_n 3, 1) := by decide +kernel
theorem dL_put_1 : decode cL_put 1 = .ok (.iconst 0, 1) := by decide +kernel
theorem dL_put_2 : decode cL_put 2 = .ok (.aload_n 0, 1) := by decide +kernel
theorem dL_put_3 : decode cL_put 3 = .ok (.iload_n 1, 1) := by decide +kernel
theorem dL_put_4 : decode cL_put 4 = .ok (.iload_n 2, 1) := by decide +kernel
theorem dL_put_5 : decode cL_put 5 = .ok (.invokevirtual 30, 3) := by decide +kernel
theorem dL_put_8 : decode cL_put 8 = .ok (.i2l, 1) := by decide +kernel
theorem dL_put_9 : decode cL_put 9 = .ok (.lastore, 1) := by decide +kernel
theorem dL_put_10 : decode cL_put 10 = .ok (.goto 15, 3) := by decide +kernel
theorem dL_put_13 : decode cL_put 13 = .ok (.astore 4, 2) := by decide +kernel
theorem dL_put_15 : decode cL_put 15 = .ok (.iconst 1, 1) := by decide +kernel
theorem dL_put_16 : decode cL_put 16 = .ok (.ireturn, 1) := by decide +kernel
theorem dL_put_17 : decode cL_put 17 = .ok (.astore 4, 2) := by decide +kernel
theorem dL_put_19 : decode cL_put 19 = .ok (.iconst 2, 1) := by decide +kernel
theorem dL_put_20 : decode cL_put 20 = .ok (.ireturn, 1) := by decide +kernel
theorem dL_put_21 : decode cL_put 21 = .ok (.astore 4, 2) := by decide +kernel
theorem dL_put_23 : decode cL_put 23 = .ok (.iconst 3, 1) := by decide +kernel
theorem dL_put_24 : decode cL_put 24 = .ok (.ireturn, 1) := by decide +kernel
theorem dL_put_25 : decode cL_put 25 = .ok (.iconst 0, 1) := by decide +kernel
theorem dL_put_26 : decode cL_put 26 = .ok (.ireturn, 1) := by decide +kernel
theorem dL_clear_0 : decode cL_clear 0 = .ok (.aload_n 2, 1) := by decide +kernel
theorem dL_clear_1 : decode cL_clear 1 = .ok (.iconst 0, 1) := by decide +kernel
theorem dL_clear_2 : decode cL_clear 2 = .ok (.aload_n 0, 1) := by decide +kernel
theorem dL_clear_3 : decode cL_clear 3 = .ok (.iload_n 1, 1) := by decide +kernel
theorem dL_clear_4 : decode cL_clear 4 = .ok (.invokevirtual 33, 3) := by decide +kernel
theorem dL_clear_7 : decode cL_clear 7 = .ok (.i2l, 1) := by decide +kernel
theorem dL_clear_8 : decode cL_clear 8 = .ok (.lastore, 1) := by decide +kernel
theorem dL_clear_9 : decode cL_clear 9 = .ok (.goto 6, 3) := by decide +kernel
theorem dL_clear_12 : decode cL_clear 12 = .ok (.astore_n 3, 1) := by decide +kernel
theorem dL_clear_13 : decode cL_clear 13 = .ok (.iconst 1, 1) := by decide +kernel
theorem dL_clear_14 : decode cL_clear 14 = .ok (.ireturn, 1) := by decide +kernel
theorem dL_clear_15 : decode cL_clear 15 = .ok (.iconst 0, 1) := by decide +kernel
theorem dL_clear_16 : decode cL_clear 16 = .ok (.ireturn, 1) := by decide +kernel
theorem dL_length_0 : decode cL_length 0 = .ok (.aload_n 2, 1) := by decide +kernel
theorem dL_length_1 : decode cL_length 1 = .ok (.iconst 0, 1) := by decide +kernel
theorem dL_length_2 : decode cL_length 2 = .ok (.aload_n 0, 1) := by decide +kernel
theorem dL_length_3 : decode cL_length 3 = .ok (.iload_n 1, 1) := by decide +kernel
theorem dL_length_4 : decode cL_length 4 = .ok (.invokevirtual 36, 3) := by decide +kernel
theorem dL_length_7 : decode cL_length 7 = .ok (.i2l, 1) := by decide +kernel
theorem dL_length_8 : decode cL_length 8 = .ok (.lastore, 1) := by decide +kernel
theorem dL_length_9 : decode cL_length 9 = .ok (.goto 6, 3) := by decide +kernel
theorem dL_length_12 : decode cL_length 12 = .ok (.astore_n 3, 1) := by decide +kernel
theorem dL_length_13 : decode cL_length 13 = .ok (.iconst 1, 1) := by decide +kernel
theorem dL_length_14 : decode cL_length 14 = .ok (.ireturn, 1) := by decide +kernel
theorem dL_length_15 : decode cL_length 15 = .ok (.iconst 0, 1) := by decide +kernel
theorem dL_length_16 : decode cL_length 16 = .ok (.ireturn, 1) := by decide +kernel
theorem dL_letter_0 : decode cL_letter 0 = .ok (.aload_n 3, 1) := by decide +kernel
theorem dL_letter_1 : decode cL_letter 1 = .ok (.iconst 0, 1) := by decide +kernel
theorem dL_letter_2 : decode cL_letter 2 = .ok (.aload_n 0, 1) := by decide +kernel
theorem dL_letter_3 : decode cL_letter 3 = .ok (.iload_n 1, 1) := by decide +kernel
theorem dL_letter_4 : decode cL_letter 4 = .ok (.iload_n 2, 1) := by decide +kernel
theorem dL_letter_5 : decode cL_letter 5 = .ok (.invokevirtual 39, 3) := by decide +kernel
theorem dL_letter_8 : decode cL_letter 8 = .ok (.i2l, 1) := by decide +kernel
theorem dL_letter_9 : decode cL_letter 9 = .ok (.lastore, 1) := by decide +kernel
theorem dL_letter_10 : decode cL_letter 10 = .ok (.goto 11, 3) := by decide +kernel
theorem dL_letter_13 : decode cL_letter 13 = .ok (.astore 4, 2) := by decide +kernel
theorem dL_letter_15 : decode cL_letter 15 = .ok (.iconst 1, 1) := by decide +kernel
theorem dL_letter_16 : decode cL_letter 16 = .ok (.ireturn, 1) := by decide +kernel
theorem dL_letter_17 : decode cL_letter 17 = .ok (.astore 4, 2) := by decide +kernel
theorem dL_letter_19 : decode cL_letter 19 = .ok (.iconst 2, 1) := by decide +kernel
theorem dL_letter_20 : decode cL_letter 20 = .ok (.ireturn, 1) := by decide +kernel
theorem dL_letter_21 : decode cL_letter 21 = .ok (.iconst 0, 1) := by decide +kernel
theorem dL_letter_22 : decode cL_letter 22 = .ok (.ireturn, 1) := by decide +kernel
theorem dL_fire_0 : decode cL_fire 0 = .ok (.aload_n 2, 1) := by decide +kernel
theorem dL_fire_1 : decode cL_fire 1 = .ok (.iconst 0, 1) := by decide +kernel
theorem dL_fire_2 : decode cL_fire 2 = .ok (.aload_n 0, 1) := by decide +kernel
theorem dL_fire_3 : decode cL_fire 3 = .ok (.iload_n 1, 1) := by decide +kernel
theorem dL_fire_4 : decode cL_fire 4 = .ok (.invokevirtual 44, 3) := by decide +kernel
theorem dL_fire_7 : decode cL_fire 7 = .ok (.i2l, 1) := by decide +kernel
theorem dL_fire_8 : decode cL_fire 8 = .ok (.lastore, 1) := by decide +kernel
theorem dL_fire_9 : decode cL_fire 9 = .ok (.goto 9, 3) := by decide +kernel
theorem dL_fire_12 : decode cL_fire 12 = .ok (.astore_n 3, 1) := by decide +kernel
theorem dL_fire_13 : decode cL_fire 13 = .ok (.iconst 1, 1) := by decide +kernel
theorem dL_fire_14 : decode cL_fire 14 = .ok (.ireturn, 1) := by decide +kernel
theorem dL_fire_15 : decode cL_fire 15 = .ok (.astore_n 3, 1) := by decide +kernel
theorem dL_fire_16 : decode cL_fire 16 = .ok (.iconst 2, 1) := by decide +kernel
theorem dL_fire_17 : decode cL_fire 17 = .ok (.ireturn, 1) := by decide +kernel
theorem dL_fire_18 : decode cL_fire 18 = .ok (.iconst 0, 1) := by decide +kernel
theorem dL_fire_19 : decode cL_fire 19 = .ok (.ireturn, 1) := by decide +kernel
theorem dL_lose_0 : decode cL_lose 0 = .ok (.aload_n 3, 1) := by decide +kernel
theorem dL_lose_1 : decode cL_lose 1 = .ok (.iconst 0, 1) := by decide +kernel
theorem dL_lose_2 : decode cL_lose 2 = .ok (.aload_n 0, 1) := by decide +kernel
theorem dL_lose_3 : decode cL_lose 3 = .ok (.iload_n 1, 1) := by decide +kernel
theorem dL_lose_4 : decode cL_lose 4 = .ok (.iload_n 2, 1) := by decide +kernel
theorem dL_lose_5 : decode cL_lose 5 = .ok (.invokevirtual 47, 3) := by decide +kernel
theorem dL_lose_8 : decode cL_lose 8 = .ok (.i2l, 1) := by decide +kernel
theorem dL_lose_9 : decode cL_lose 9 = .ok (.lastore, 1) := by decide +kernel
theorem dL_lose_10 : decode cL_lose 10 = .ok (.goto 11, 3) := by decide +kernel
theorem dL_lose_13 : decode cL_lose 13 = .ok (.astore 4, 2) := by decide +kernel
theorem dL_lose_15 : decode cL_lose 15 = .ok (.iconst 1, 1) := by decide +kernel
theorem dL_lose_16 : decode cL_lose 16 = .ok (.ireturn, 1) := by decide +kernel
theorem dL_lose_17 : decode cL_lose 17 = .ok (.astore 4, 2) := by decide +kernel
theorem dL_lose_19 : decode cL_lose 19 = .ok (.iconst 2, 1) := by decide +kernel
theorem dL_lose_20 : decode cL_lose 20 = .ok (.ireturn, 1) := by decide +kernel
theorem dL_lose_21 : decode cL_lose 21 = .ok (.iconst 0, 1) := by decide +kernel
theorem dL_lose_22 : decode cL_lose 22 = .ok (.ireturn, 1) := by decide +kernel
theorem dL_undo_0 : decode cL_undo 0 = .ok (.aload_n 1, 1) := by decide +kernel
theorem dL_undo_1 : decode cL_undo 1 = .ok (.iconst 0, 1) := by decide +kernel
theorem dL_undo_2 : decode cL_undo 2 = .ok (.aload_n 0, 1) := by decide +kernel
theorem dL_undo_3 : decode cL_undo 3 = .ok (.invokevirtual 50, 3) := by decide +kernel
theorem dL_undo_6 : decode cL_undo 6 = .ok (.i2l, 1) := by decide +kernel
theorem dL_undo_7 : decode cL_undo 7 = .ok (.lastore, 1) := by decide +kernel
theorem dL_undo_8 : decode cL_undo 8 = .ok (.goto 6, 3) := by decide +kernel
theorem dL_undo_11 : decode cL_undo 11 = .ok (.astore_n 2, 1) := by decide +kernel
theorem dL_undo_12 : decode cL_undo 12 = .ok (.iconst 1, 1) := by decide +kernel
theorem dL_undo_13 : decode cL_undo 13 = .ok (.ireturn, 1) := by decide +kernel
theorem dL_undo_14 : decode cL_undo 14 = .ok (.iconst 0, 1) := by decide +kernel
theorem dL_undo_15 : decode cL_undo 15 = .ok (.ireturn, 1) := by decide +kernel
theorem dL_isBelow_0 : decode cL_isBelow 0 = .ok (.aload_n 2, 1) := by decide +kernel
theorem dL_isBelow_1 : decode cL_isBelow 1 = .ok (.iconst 0, 1) := by decide +kernel
theorem dL_isBelow_2 : decode cL_isBelow 2 = .ok (.aload_n 0, 1) := by decide +kernel
theorem dL_isBelow_3 : decode cL_isBelow 3 = .ok (.iload_n 1, 1) := by decide +kernel
theorem dL_isBelow_4 : decode cL_isBelow 4 = .ok (.invokevirtual 54, 3) := by decide +kernel
theorem dL_isBelow_7 : decode cL_isBelow 7 = .ok (.ifCond .eq 7, 3) := by decide +kernel
theorem dL_isBelow_10 : decode cL_isBelow 10 = .ok (.lconst 1, 1) := by decide +kernel
theorem dL_isBelow_11 : decode cL_isBelow 11 = .ok (.goto 4, 3) := by decide +kernel
theorem dL_isBelow_14 : decode cL_isBelow 14 = .ok (.lconst 0, 1) := by decide +kernel
theorem dL_isBelow_15 : decode cL_isBelow 15 = .ok (.lastore, 1) := by decide +kernel
theorem dL_isBelow_16 : decode cL_isBelow 16 = .ok (.goto 6, 3) := by decide +kernel
theorem dL_isBelow_19 : decode cL_isBelow 19 = .ok (.astore_n 3, 1) := by decide +kernel
theorem dL_isBelow_20 : decode cL_isBelow 20 = .ok (.iconst 1, 1) := by decide +kernel
theorem dL_isBelow_21 : decode cL_isBelow 21 = .ok (.ireturn, 1) := by decide +kernel
theorem dL_isBelow_22 : decode cL_isBelow 22 = .ok (.iconst 0, 1) := by decide +kernel
theorem dL_isBelow_23 : decode cL_isBelow 23 = .ok (.ireturn, 1) := by decide +kernel
theorem dL_embeddings_0 : decode cL_embeddings 0 = .ok (.aload_n 2, 1) := by decide +kernel
theorem dL_embeddings_1 : decode cL_embeddings 1 = .ok (.iconst 0, 1) := by decide +kernel
theorem dL_embeddings_2 : decode cL_embeddings 2 = .ok (.aload_n 0, 1) := by decide +kernel
theorem dL_embeddings_3 : decode cL_embeddings 3 = .ok (.iload_n 1, 1) := by decide +kernel
theorem dL_embeddings_4 : decode cL_embeddings 4 = .ok (.invokevirtual 58, 3) := by decide +kernel
theorem dL_embeddings_7 : decode cL_embeddings 7 = .ok (.i2l, 1) := by decide +kernel
theorem dL_embeddings_8 : decode cL_embeddings 8 = .ok (.lastore, 1) := by decide +kernel
theorem dL_embeddings_9 : decode cL_embeddings 9 = .ok (.goto 6, 3) := by decide +kernel
theorem dL_embeddings_12 : decode cL_embeddings 12 = .ok (.astore_n 3, 1) := by decide +kernel
theorem dL_embeddings_13 : decode cL_embeddings 13 = .ok (.iconst 1, 1) := by decide +kernel
theorem dL_embeddings_14 : decode cL_embeddings 14 = .ok (.ireturn, 1) := by decide +kernel
theorem dL_embeddings_15 : decode cL_embeddings 15 = .ok (.iconst 0, 1) := by decide +kernel
theorem dL_embeddings_16 : decode cL_embeddings 16 = .ok (.ireturn, 1) := by decide +kernel
theorem dL_subwords_0 : decode cL_subwords 0 = .ok (.aload_n 2, 1) := by decide +kernel
theorem dL_subwords_1 : decode cL_subwords 1 = .ok (.iconst 0, 1) := by decide +kernel
theorem dL_subwords_2 : decode cL_subwords 2 = .ok (.aload_n 0, 1) := by decide +kernel
theorem dL_subwords_3 : decode cL_subwords 3 = .ok (.iload_n 1, 1) := by decide +kernel
theorem dL_subwords_4 : decode cL_subwords 4 = .ok (.invokevirtual 61, 3) := by decide +kernel
theorem dL_subwords_7 : decode cL_subwords 7 = .ok (.i2l, 1) := by decide +kernel
theorem dL_subwords_8 : decode cL_subwords 8 = .ok (.lastore, 1) := by decide +kernel
theorem dL_subwords_9 : decode cL_subwords 9 = .ok (.goto 6, 3) := by decide +kernel
theorem dL_subwords_12 : decode cL_subwords 12 = .ok (.astore_n 3, 1) := by decide +kernel
theorem dL_subwords_13 : decode cL_subwords 13 = .ok (.iconst 1, 1) := by decide +kernel
theorem dL_subwords_14 : decode cL_subwords 14 = .ok (.ireturn, 1) := by decide +kernel
theorem dL_subwords_15 : decode cL_subwords 15 = .ok (.iconst 0, 1) := by decide +kernel
theorem dL_subwords_16 : decode cL_subwords 16 = .ok (.ireturn, 1) := by decide +kernel
theorem dL_addGoal_0 : decode cL_addGoal 0 = .ok (.aload_n 1, 1) := by decide +kernel
theorem dL_addGoal_1 : decode cL_addGoal 1 = .ok (.iconst 0, 1) := by decide +kernel
theorem dL_addGoal_2 : decode cL_addGoal 2 = .ok (.aload_n 0, 1) := by decide +kernel
theorem dL_addGoal_3 : decode cL_addGoal 3 = .ok (.invokevirtual 64, 3) := by decide +kernel
theorem dL_addGoal_6 : decode cL_addGoal 6 = .ok (.i2l, 1) := by decide +kernel
theorem dL_addGoal_7 : decode cL_addGoal 7 = .ok (.lastore, 1) := by decide +kernel
theorem dL_addGoal_8 : decode cL_addGoal 8 = .ok (.goto 6, 3) := by decide +kernel
theorem dL_addGoal_11 : decode cL_addGoal 11 = .ok (.astore_n 2, 1) := by decide +kernel
theorem dL_addGoal_12 : decode cL_addGoal 12 = .ok (.iconst 1, 1) := by decide +kernel
theorem dL_addGoal_13 : decode cL_addGoal 13 = .ok (.ireturn, 1) := by decide +kernel
theorem dL_addGoal_14 : decode cL_addGoal 14 = .ok (.iconst 0, 1) := by decide +kernel
theorem dL_addGoal_15 : decode cL_addGoal 15 = .ok (.ireturn, 1) := by decide +kernel
theorem dL_analyze_0 : decode cL_analyze 0 = .ok (.aload_n 1, 1) := by decide +kernel
theorem dL_analyze_1 : decode cL_analyze 1 = .ok (.iconst 0, 1) := by decide +kernel
theorem dL_analyze_2 : decode cL_analyze 2 = .ok (.aload_n 0, 1) := by decide +kernel
theorem dL_analyze_3 : decode cL_analyze 3 = .ok (.invokevirtual 67, 3) := by decide +kernel
theorem dL_analyze_6 : decode cL_analyze 6 = .ok (.i2l, 1) := by decide +kernel
theorem dL_analyze_7 : decode cL_analyze 7 = .ok (.lastore, 1) := by decide +kernel
theorem dL_analyze_8 : decode cL_analyze 8 = .ok (.goto 6, 3) := by decide +kernel
theorem dL_analyze_11 : decode cL_analyze 11 = .ok (.astore_n 2, 1) := by decide +kernel
theorem dL_analyze_12 : decode cL_analyze 12 = .ok (.iconst 1, 1) := by decide +kernel
theorem dL_analyze_13 : decode cL_analyze 13 = .ok (.ireturn, 1) := by decide +kernel
theorem dL_analyze_14 : decode cL_analyze 14 = .ok (.iconst 0, 1) := by decide +kernel
theorem dL_analyze_15 : decode cL_analyze 15 = .ok (.ireturn, 1) := by decide +kernel
theorem dL_lastRound_0 : decode cL_lastRound 0 = .ok (.aload_n 1, 1) := by decide +kernel
theorem dL_lastRound_1 : decode cL_lastRound 1 = .ok (.iconst 0, 1) := by decide +kernel
theorem dL_lastRound_2 : decode cL_lastRound 2 = .ok (.aload_n 0, 1) := by decide +kernel
theorem dL_lastRound_3 : decode cL_lastRound 3 = .ok (.invokevirtual 72, 3) := by decide +kernel
theorem dL_lastRound_6 : decode cL_lastRound 6 = .ok (.i2l, 1) := by decide +kernel
theorem dL_lastRound_7 : decode cL_lastRound 7 = .ok (.lastore, 1) := by decide +kernel
theorem dL_lastRound_8 : decode cL_lastRound 8 = .ok (.goto 9, 3) := by decide +kernel
theorem dL_lastRound_11 : decode cL_lastRound 11 = .ok (.astore_n 2, 1) := by decide +kernel
theorem dL_lastRound_12 : decode cL_lastRound 12 = .ok (.iconst 1, 1) := by decide +kernel
theorem dL_lastRound_13 : decode cL_lastRound 13 = .ok (.ireturn, 1) := by decide +kernel
theorem dL_lastRound_14 : decode cL_lastRound 14 = .ok (.astore_n 2, 1) := by decide +kernel
theorem dL_lastRound_15 : decode cL_lastRound 15 = .ok (.iconst 2, 1) := by decide +kernel
theorem dL_lastRound_16 : decode cL_lastRound 16 = .ok (.ireturn, 1) := by decide +kernel
theorem dL_lastRound_17 : decode cL_lastRound 17 = .ok (.iconst 0, 1) := by decide +kernel
theorem dL_lastRound_18 : decode cL_lastRound 18 = .ok (.ireturn, 1) := by decide +kernel
theorem dL_basisSize_0 : decode cL_basisSize 0 = .ok (.aload_n 2, 1) := by decide +kernel
theorem dL_basisSize_1 : decode cL_basisSize 1 = .ok (.iconst 0, 1) := by decide +kernel
theorem dL_basisSize_2 : decode cL_basisSize 2 = .ok (.aload_n 0, 1) := by decide +kernel
theorem dL_basisSize_3 : decode cL_basisSize 3 = .ok (.iload_n 1, 1) := by decide +kernel
theorem dL_basisSize_4 : decode cL_basisSize 4 = .ok (.invokevirtual 75, 3) := by decide +kernel
theorem dL_basisSize_7 : decode cL_basisSize 7 = .ok (.i2l, 1) := by decide +kernel
theorem dL_basisSize_8 : decode cL_basisSize 8 = .ok (.lastore, 1) := by decide +kernel
theorem dL_basisSize_9 : decode cL_basisSize 9 = .ok (.goto 12, 3) := by decide +kernel
theorem dL_basisSize_12 : decode cL_basisSize 12 = .ok (.astore_n 3, 1) := by decide +kernel
theorem dL_basisSize_13 : decode cL_basisSize 13 = .ok (.iconst 1, 1) := by decide +kernel
theorem dL_basisSize_14 : decode cL_basisSize 14 = .ok (.ireturn, 1) := by decide +kernel
theorem dL_basisSize_15 : decode cL_basisSize 15 = .ok (.astore_n 3, 1) := by decide +kernel
theorem dL_basisSize_16 : decode cL_basisSize 16 = .ok (.iconst 2, 1) := by decide +kernel
theorem dL_basisSize_17 : decode cL_basisSize 17 = .ok (.ireturn, 1) := by decide +kernel
theorem dL_basisSize_18 : decode cL_basisSize 18 = .ok (.astore_n 3, 1) := by decide +kernel
theorem dL_basisSize_19 : decode cL_basisSize 19 = .ok (.iconst 3, 1) := by decide +kernel
theorem dL_basisSize_20 : decode cL_basisSize 20 = .ok (.ireturn, 1) := by decide +kernel
theorem dL_basisSize_21 : decode cL_basisSize 21 = .ok (.iconst 0, 1) := by decide +kernel
theorem dL_basisSize_22 : decode cL_basisSize 22 = .ok (.ireturn, 1) := by decide +kernel
theorem dL_basis_0 : decode cL_basis 0 = .ok (.aload 4, 2) := by decide +kernel
theorem dL_basis_2 : decode cL_basis 2 = .ok (.iconst 0, 1) := by decide +kernel
theorem dL_basis_3 : decode cL_basis 3 = .ok (.aload_n 0, 1) := by decide +kernel
theorem dL_basis_4 : decode cL_basis 4 = .ok (.iload_n 1, 1) := by decide +kernel
theorem dL_basis_5 : decode cL_basis 5 = .ok (.iload_n 2, 1) := by decide +kernel
theorem dL_basis_6 : decode cL_basis 6 = .ok (.iload_n 3, 1) := by decide +kernel
theorem dL_basis_7 : decode cL_basis 7 = .ok (.invokevirtual 78, 3) := by decide +kernel
theorem dL_basis_10 : decode cL_basis 10 = .ok (.i2l, 1) := by decide +kernel
theorem dL_basis_11 : decode cL_basis 11 = .ok (.lastore, 1) := by decide +kernel
theorem dL_basis_12 : decode cL_basis 12 = .ok (.goto 15, 3) := by decide +kernel
theorem dL_basis_15 : decode cL_basis 15 = .ok (.astore 5, 2) := by decide +kernel
theorem dL_basis_17 : decode cL_basis 17 = .ok (.iconst 1, 1) := by decide +kernel
theorem dL_basis_18 : decode cL_basis 18 = .ok (.ireturn, 1) := by decide +kernel
theorem dL_basis_19 : decode cL_basis 19 = .ok (.astore 5, 2) := by decide +kernel
theorem dL_basis_21 : decode cL_basis 21 = .ok (.iconst 2, 1) := by decide +kernel
theorem dL_basis_22 : decode cL_basis 22 = .ok (.ireturn, 1) := by decide +kernel
theorem dL_basis_23 : decode cL_basis 23 = .ok (.astore 5, 2) := by decide +kernel
theorem dL_basis_25 : decode cL_basis 25 = .ok (.iconst 3, 1) := by decide +kernel
theorem dL_basis_26 : decode cL_basis 26 = .ok (.ireturn, 1) := by decide +kernel
theorem dL_basis_27 : decode cL_basis 27 = .ok (.iconst 0, 1) := by decide +kernel
theorem dL_basis_28 : decode cL_basis 28 = .ok (.ireturn, 1) := by decide +kernel
theorem dL_basisLetter_0 : decode cL_basisLetter 0 = .ok (.aload 4, 2) := by decide +kernel
theorem dL_basisLetter_2 : decode cL_basisLetter 2 = .ok (.iconst 0, 1) := by decide +kernel
theorem dL_basisLetter_3 : decode cL_basisLetter 3 = .ok (.aload_n 0, 1) := by decide +kernel
theorem dL_basisLetter_4 : decode cL_basisLetter 4 = .ok (.iload_n 1, 1) := by decide +kernel
theorem dL_basisLetter_5 : decode cL_basisLetter 5 = .ok (.iload_n 2, 1) := by decide +kernel
theorem dL_basisLetter_6 : decode cL_basisLetter 6 = .ok (.iload_n 3, 1) := by decide +kernel
theorem dL_basisLetter_7 : decode cL_basisLetter 7 = .ok (.invokevirtual 82, 3) := by decide +kernel
theorem dL_basisLetter_10 : decode cL_basisLetter 10 = .ok (.i2l, 1) := by decide +kernel
theorem dL_basisLetter_11 : decode cL_basisLetter 11 = .ok (.lastore, 1) := by decide +kernel
theorem dL_basisLetter_12 : decode cL_basisLetter 12 = .ok (.goto 15, 3) := by decide +kernel
theorem dL_basisLetter_15 : decode cL_basisLetter 15 = .ok (.astore 5, 2) := by decide +kernel
theorem dL_basisLetter_17 : decode cL_basisLetter 17 = .ok (.iconst 1, 1) := by decide +kernel
theorem dL_basisLetter_18 : decode cL_basisLetter 18 = .ok (.ireturn, 1) := by decide +kernel
theorem dL_basisLetter_19 : decode cL_basisLetter 19 = .ok (.astore 5, 2) := by decide +kernel
theorem dL_basisLetter_21 : decode cL_basisLetter 21 = .ok (.iconst 2, 1) := by decide +kernel
theorem dL_basisLetter_22 : decode cL_basisLetter 22 = .ok (.ireturn, 1) := by decide +kernel
theorem dL_basisLetter_23 : decode cL_basisLetter 23 = .ok (.astore 5, 2) := by decide +kernel
theorem dL_basisLetter_25 : decode cL_basisLetter 25 = .ok (.iconst 3, 1) := by decide +kernel
theorem dL_basisLetter_26 : decode cL_basisLetter 26 = .ok (.ireturn, 1) := by decide +kernel
theorem dL_basisLetter_27 : decode cL_basisLetter 27 = .ok (.iconst 0, 1) := by decide +kernel
theorem dL_basisLetter_28 : decode cL_basisLetter 28 = .ok (.ireturn, 1) := by decide +kernel
theorem dL_coveringStates_0 : decode cL_coveringStates 0 = .ok (.aload_n 1, 1) := by decide +kernel
theorem dL_coveringStates_1 : decode cL_coveringStates 1 = .ok (.iconst 0, 1) := by decide +kernel
theorem dL_coveringStates_2 : decode cL_coveringStates 2 = .ok (.aload_n 0, 1) := by decide +kernel
theorem dL_coveringStates_3 : decode cL_coveringStates 3 = .ok (.invokevirtual 85, 3) := by decide +kernel
theorem dL_coveringStates_6 : decode cL_coveringStates 6 = .ok (.i2l, 1) := by decide +kernel
theorem dL_coveringStates_7 : decode cL_coveringStates 7 = .ok (.lastore, 1) := by decide +kernel
theorem dL_coveringStates_8 : decode cL_coveringStates 8 = .ok (.goto 9, 3) := by decide +kernel
theorem dL_coveringStates_11 : decode cL_coveringStates 11 = .ok (.astore_n 2, 1) := by decide +kernel
theorem dL_coveringStates_12 : decode cL_coveringStates 12 = .ok (.iconst 1, 1) := by decide +kernel
theorem dL_coveringStates_13 : decode cL_coveringStates 13 = .ok (.ireturn, 1) := by decide +kernel
theorem dL_coveringStates_14 : decode cL_coveringStates 14 = .ok (.astore_n 2, 1) := by decide +kernel
theorem dL_coveringStates_15 : decode cL_coveringStates 15 = .ok (.iconst 2, 1) := by decide +kernel
theorem dL_coveringStates_16 : decode cL_coveringStates 16 = .ok (.ireturn, 1) := by decide +kernel
theorem dL_coveringStates_17 : decode cL_coveringStates 17 = .ok (.iconst 0, 1) := by decide +kernel
theorem dL_coveringStates_18 : decode cL_coveringStates 18 = .ok (.ireturn, 1) := by decide +kernel
theorem dL_least_0 : decode cL_least 0 = .ok (.aload_n 2, 1) := by decide +kernel
theorem dL_least_1 : decode cL_least 1 = .ok (.iconst 0, 1) := by decide +kernel
theorem dL_least_2 : decode cL_least 2 = .ok (.aload_n 0, 1) := by decide +kernel
theorem dL_least_3 : decode cL_least 3 = .ok (.iload_n 1, 1) := by decide +kernel
theorem dL_least_4 : decode cL_least 4 = .ok (.invokevirtual 88, 3) := by decide +kernel
theorem dL_least_7 : decode cL_least 7 = .ok (.i2l, 1) := by decide +kernel
theorem dL_least_8 : decode cL_least 8 = .ok (.lastore, 1) := by decide +kernel
theorem dL_least_9 : decode cL_least 9 = .ok (.goto 12, 3) := by decide +kernel
theorem dL_least_12 : decode cL_least 12 = .ok (.astore_n 3, 1) := by decide +kernel
theorem dL_least_13 : decode cL_least 13 = .ok (.iconst 1, 1) := by decide +kernel
theorem dL_least_14 : decode cL_least 14 = .ok (.ireturn, 1) := by decide +kernel
theorem dL_least_15 : decode cL_least 15 = .ok (.astore_n 3, 1) := by decide +kernel
theorem dL_least_16 : decode cL_least 16 = .ok (.iconst 2, 1) := by decide +kernel
theorem dL_least_17 : decode cL_least 17 = .ok (.ireturn, 1) := by decide +kernel
theorem dL_least_18 : decode cL_least 18 = .ok (.astore_n 3, 1) := by decide +kernel
theorem dL_least_19 : decode cL_least 19 = .ok (.iconst 3, 1) := by decide +kernel
theorem dL_least_20 : decode cL_least 20 = .ok (.ireturn, 1) := by decide +kernel
theorem dL_least_21 : decode cL_least 21 = .ok (.iconst 0, 1) := by decide +kernel
theorem dL_least_22 : decode cL_least 22 = .ok (.ireturn, 1) := by decide +kernel
theorem dL_distance_0 : decode cL_distance 0 = .ok (.aload_n 1, 1) := by decide +kernel
theorem dL_distance_1 : decode cL_distance 1 = .ok (.iconst 0, 1) := by decide +kernel
theorem dL_distance_2 : decode cL_distance 2 = .ok (.aload_n 0, 1) := by decide +kernel
theorem dL_distance_3 : decode cL_distance 3 = .ok (.invokevirtual 91, 3) := by decide +kernel
theorem dL_distance_6 : decode cL_distance 6 = .ok (.i2l, 1) := by decide +kernel
theorem dL_distance_7 : decode cL_distance 7 = .ok (.lastore, 1) := by decide +kernel
theorem dL_distance_8 : decode cL_distance 8 = .ok (.goto 9, 3) := by decide +kernel
theorem dL_distance_11 : decode cL_distance 11 = .ok (.astore_n 2, 1) := by decide +kernel
theorem dL_distance_12 : decode cL_distance 12 = .ok (.iconst 1, 1) := by decide +kernel
theorem dL_distance_13 : decode cL_distance 13 = .ok (.ireturn, 1) := by decide +kernel
theorem dL_distance_14 : decode cL_distance 14 = .ok (.astore_n 2, 1) := by decide +kernel
theorem dL_distance_15 : decode cL_distance 15 = .ok (.iconst 2, 1) := by decide +kernel
theorem dL_distance_16 : decode cL_distance 16 = .ok (.ireturn, 1) := by decide +kernel
theorem dL_distance_17 : decode cL_distance 17 = .ok (.iconst 0, 1) := by decide +kernel
theorem dL_distance_18 : decode cL_distance 18 = .ok (.ireturn, 1) := by decide +kernel
theorem dL_covering_0 : decode cL_covering 0 = .ok (.aload_n 2, 1) := by decide +kernel
theorem dL_covering_1 : decode cL_covering 1 = .ok (.iconst 0, 1) := by decide +kernel
theorem dL_covering_2 : decode cL_covering 2 = .ok (.aload_n 0, 1) := by decide +kernel
theorem dL_covering_3 : decode cL_covering 3 = .ok (.iload_n 1, 1) := by decide +kernel
theorem dL_covering_4 : decode cL_covering 4 = .ok (.invokevirtual 94, 3) := by decide +kernel
theorem dL_covering_7 : decode cL_covering 7 = .ok (.i2l, 1) := by decide +kernel
theorem dL_covering_8 : decode cL_covering 8 = .ok (.lastore, 1) := by decide +kernel
theorem dL_covering_9 : decode cL_covering 9 = .ok (.goto 12, 3) := by decide +kernel
theorem dL_covering_12 : decode cL_covering 12 = .ok (.astore_n 3, 1) := by decide +kernel
theorem dL_covering_13 : decode cL_covering 13 = .ok (.iconst 1, 1) := by decide +kernel
theorem dL_covering_14 : decode cL_covering 14 = .ok (.ireturn, 1) := by decide +kernel
theorem dL_covering_15 : decode cL_covering 15 = .ok (.astore_n 3, 1) := by decide +kernel
theorem dL_covering_16 : decode cL_covering 16 = .ok (.iconst 2, 1) := by decide +kernel
theorem dL_covering_17 : decode cL_covering 17 = .ok (.ireturn, 1) := by decide +kernel
theorem dL_covering_18 : decode cL_covering 18 = .ok (.astore_n 3, 1) := by decide +kernel
theorem dL_covering_19 : decode cL_covering 19 = .ok (.iconst 3, 1) := by decide +kernel
theorem dL_covering_20 : decode cL_covering 20 = .ok (.ireturn, 1) := by decide +kernel
theorem dL_covering_21 : decode cL_covering 21 = .ok (.iconst 0, 1) := by decide +kernel
theorem dL_covering_22 : decode cL_covering 22 = .ok (.ireturn, 1) := by decide +kernel
theorem dL_lost_0 : decode cL_lost 0 = .ok (.aload_n 2, 1) := by decide +kernel
theorem dL_lost_1 : decode cL_lost 1 = .ok (.iconst 0, 1) := by decide +kernel
theorem dL_lost_2 : decode cL_lost 2 = .ok (.aload_n 0, 1) := by decide +kernel
theorem dL_lost_3 : decode cL_lost 3 = .ok (.iload_n 1, 1) := by decide +kernel
theorem dL_lost_4 : decode cL_lost 4 = .ok (.invokevirtual 97, 3) := by decide +kernel
theorem dL_lost_7 : decode cL_lost 7 = .ok (.i2l, 1) := by decide +kernel
theorem dL_lost_8 : decode cL_lost 8 = .ok (.lastore, 1) := by decide +kernel
theorem dL_lost_9 : decode cL_lost 9 = .ok (.goto 12, 3) := by decide +kernel
theorem dL_lost_12 : decode cL_lost 12 = .ok (.astore_n 3, 1) := by decide +kernel
theorem dL_lost_13 : decode cL_lost 13 = .ok (.iconst 1, 1) := by decide +kernel
theorem dL_lost_14 : decode cL_lost 14 = .ok (.ireturn, 1) := by decide +kernel
theorem dL_lost_15 : decode cL_lost 15 = .ok (.astore_n 3, 1) := by decide +kernel
theorem dL_lost_16 : decode cL_lost 16 = .ok (.iconst 2, 1) := by decide +kernel
theorem dL_lost_17 : decode cL_lost 17 = .ok (.ireturn, 1) := by decide +kernel
theorem dL_lost_18 : decode cL_lost 18 = .ok (.astore_n 3, 1) := by decide +kernel
theorem dL_lost_19 : decode cL_lost 19 = .ok (.iconst 3, 1) := by decide +kernel
theorem dL_lost_20 : decode cL_lost 20 = .ok (.ireturn, 1) := by decide +kernel
theorem dL_lost_21 : decode cL_lost 21 = .ok (.iconst 0, 1) := by decide +kernel
theorem dL_lost_22 : decode cL_lost 22 = .ok (.ireturn, 1) := by decide +kernel
theorem dL_statesAfter_0 : decode cL_statesAfter 0 = .ok (.aload_n 2, 1) := by decide +kernel
theorem dL_statesAfter_1 : decode cL_statesAfter 1 = .ok (.iconst 0, 1) := by decide +kernel
theorem dL_statesAfter_2 : decode cL_statesAfter 2 = .ok (.aload_n 0, 1) := by decide +kernel
theorem dL_statesAfter_3 : decode cL_statesAfter 3 = .ok (.iload_n 1, 1) := by decide +kernel
theorem dL_statesAfter_4 : decode cL_statesAfter 4 = .ok (.invokevirtual 100, 3) := by decide +kernel
theorem dL_statesAfter_7 : decode cL_statesAfter 7 = .ok (.i2l, 1) := by decide +kernel
theorem dL_statesAfter_8 : decode cL_statesAfter 8 = .ok (.lastore, 1) := by decide +kernel
theorem dL_statesAfter_9 : decode cL_statesAfter 9 = .ok (.goto 6, 3) := by decide +kernel
theorem dL_statesAfter_12 : decode cL_statesAfter 12 = .ok (.astore_n 3, 1) := by decide +kernel
theorem dL_statesAfter_13 : decode cL_statesAfter 13 = .ok (.iconst 1, 1) := by decide +kernel
theorem dL_statesAfter_14 : decode cL_statesAfter 14 = .ok (.ireturn, 1) := by decide +kernel
theorem dL_statesAfter_15 : decode cL_statesAfter 15 = .ok (.iconst 0, 1) := by decide +kernel
theorem dL_statesAfter_16 : decode cL_statesAfter 16 = .ok (.ireturn, 1) := by decide +kernel
theorem dL_isLast_0 : decode cL_isLast 0 = .ok (.aload_n 3, 1) := by decide +kernel
theorem dL_isLast_1 : decode cL_isLast 1 = .ok (.iconst 0, 1) := by decide +kernel
theorem dL_isLast_2 : decode cL_isLast 2 = .ok (.aload_n 0, 1) := by decide +kernel
theorem dL_isLast_3 : decode cL_isLast 3 = .ok (.iload_n 1, 1) := by decide +kernel
theorem dL_isLast_4 : decode cL_isLast 4 = .ok (.iload_n 2, 1) := by decide +kernel
theorem dL_isLast_5 : decode cL_isLast 5 = .ok (.invokevirtual 103, 3) := by decide +kernel
theorem dL_isLast_8 : decode cL_isLast 8 = .ok (.ifCond .eq 7, 3) := by decide +kernel
theorem dL_isLast_11 : decode cL_isLast 11 = .ok (.lconst 1, 1) := by decide +kernel
theorem dL_isLast_12 : decode cL_isLast 12 = .ok (.goto 4, 3) := by decide +kernel
theorem dL_isLast_15 : decode cL_isLast 15 = .ok (.lconst 0, 1) := by decide +kernel
theorem dL_isLast_16 : decode cL_isLast 16 = .ok (.lastore, 1) := by decide +kernel
theorem dL_isLast_17 : decode cL_isLast 17 = .ok (.goto 11, 3) := by decide +kernel
theorem dL_isLast_20 : decode cL_isLast 20 = .ok (.astore 4, 2) := by decide +kernel
theorem dL_isLast_22 : decode cL_isLast 22 = .ok (.iconst 1, 1) := by decide +kernel
theorem dL_isLast_23 : decode cL_isLast 23 = .ok (.ireturn, 1) := by decide +kernel
theorem dL_isLast_24 : decode cL_isLast 24 = .ok (.astore 4, 2) := by decide +kernel
theorem dL_isLast_26 : decode cL_isLast 26 = .ok (.iconst 2, 1) := by decide +kernel
theorem dL_isLast_27 : decode cL_isLast 27 = .ok (.ireturn, 1) := by decide +kernel
theorem dL_isLast_28 : decode cL_isLast 28 = .ok (.iconst 0, 1) := by decide +kernel
theorem dL_isLast_29 : decode cL_isLast 29 = .ok (.ireturn, 1) := by decide +kernel
theorem dL_append_0 : decode cL_append 0 = .ok (.aload_n 0, 1) := by decide +kernel
theorem dL_append_1 : decode cL_append 1 = .ok (.iload_n 1, 1) := by decide +kernel
theorem dL_append_2 : decode cL_append 2 = .ok (.invokevirtual 107, 3) := by decide +kernel
theorem dL_append_5 : decode cL_append 5 = .ok (.goto 6, 3) := by decide +kernel
theorem dL_append_8 : decode cL_append 8 = .ok (.astore_n 2, 1) := by decide +kernel
theorem dL_append_9 : decode cL_append 9 = .ok (.iconst 1, 1) := by decide +kernel
theorem dL_append_10 : decode cL_append 10 = .ok (.ireturn, 1) := by decide +kernel
theorem dL_append_11 : decode cL_append 11 = .ok (.iconst 0, 1) := by decide +kernel
theorem dL_append_12 : decode cL_append 12 = .ok (.ireturn, 1) := by decide +kernel
theorem dL_read_0 : decode cL_read 0 = .ok (.aload_n 1, 1) := by decide +kernel
theorem dL_read_1 : decode cL_read 1 = .ok (.iconst 0, 1) := by decide +kernel
theorem dL_read_2 : decode cL_read 2 = .ok (.aload_n 0, 1) := by decide +kernel
theorem dL_read_3 : decode cL_read 3 = .ok (.invokevirtual 111, 3) := by decide +kernel
theorem dL_read_6 : decode cL_read 6 = .ok (.i2l, 1) := by decide +kernel
theorem dL_read_7 : decode cL_read 7 = .ok (.lastore, 1) := by decide +kernel
theorem dL_read_8 : decode cL_read 8 = .ok (.goto 9, 3) := by decide +kernel
theorem dL_read_11 : decode cL_read 11 = .ok (.astore_n 2, 1) := by decide +kernel
theorem dL_read_12 : decode cL_read 12 = .ok (.iconst 1, 1) := by decide +kernel
theorem dL_read_13 : decode cL_read 13 = .ok (.ireturn, 1) := by decide +kernel
theorem dL_read_14 : decode cL_read 14 = .ok (.astore_n 2, 1) := by decide +kernel
theorem dL_read_15 : decode cL_read 15 = .ok (.iconst 2, 1) := by decide +kernel
theorem dL_read_16 : decode cL_read 16 = .ok (.ireturn, 1) := by decide +kernel
theorem dL_read_17 : decode cL_read 17 = .ok (.iconst 0, 1) := by decide +kernel
theorem dL_read_18 : decode cL_read 18 = .ok (.ireturn, 1) := by decide +kernel
theorem dL_restore_0 : decode cL_restore 0 = .ok (.aload_n 0, 1) := by decide +kernel
theorem dL_restore_1 : decode cL_restore 1 = .ok (.invokevirtual 114, 3) := by decide +kernel
theorem dL_restore_4 : decode cL_restore 4 = .ok (.goto 6, 3) := by decide +kernel
theorem dL_restore_7 : decode cL_restore 7 = .ok (.astore_n 1, 1) := by decide +kernel
theorem dL_restore_8 : decode cL_restore 8 = .ok (.iconst 1, 1) := by decide +kernel
theorem dL_restore_9 : decode cL_restore 9 = .ok (.ireturn, 1) := by decide +kernel
theorem dL_restore_10 : decode cL_restore 10 = .ok (.iconst 0, 1) := by decide +kernel
theorem dL_restore_11 : decode cL_restore 11 = .ok (.ireturn, 1) := by decide +kernel
