theorem dX2_clearMeanings_21 : decode cX2_clearMeanings 21 = .ok (.return_, 1) := by decide +kernel
theorem dX2_clearMeanings_8 : decode cX2_clearMeanings 8 = .ok (.aload_n 0, 1) := by decide +kernel
theorem dX2_clearMeanings_9 : decode cX2_clearMeanings 9 = .ok (.getfield 22, 3) := by decide +kernel
theorem dX2_clearMeanings_12 : decode cX2_clearMeanings 12 = .ok (.iload_n 1, 1) := by decide +kernel
theorem dX2_clearMeanings_13 : decode cX2_clearMeanings 13 = .ok (.iconst (-1), 1) := by decide +kernel
theorem dX2_clearMeanings_14 : decode cX2_clearMeanings 14 = .ok (.iastore, 1) := by decide +kernel
theorem dX2_clearMeanings_15 : decode cX2_clearMeanings 15 = .ok (.iinc 1 1, 3) := by decide +kernel
theorem dX2_clearMeanings_18 : decode cX2_clearMeanings 18 = .ok (.goto (-16), 3) := by decide +kernel
theorem dX2_clearMeanings_2 : decode cX2_clearMeanings 2 = .ok (.iload_n 1, 1) := by decide +kernel
theorem dX2_clearMeanings_3 : decode cX2_clearMeanings 3 = .ok (.bipush 26, 2) := by decide +kernel
theorem dX2_clearMeanings_5 : decode cX2_clearMeanings 5 = .ok (.if_icmp .ge 16, 3) := by decide +kernel
theorem dX2_clearMeanings_0 : decode cX2_clearMeanings 0 = .ok (.iconst 0, 1) := by decide +kernel
theorem dX2_clearMeanings_1 : decode cX2_clearMeanings 1 = .ok (.istore_n 1, 1) := by decide +kernel
theorem dX2_init_0 : decode cX2_init 0 = .ok (.aload_n 0, 1) := by decide +kernel
theorem dX2_init_1 : decode cX2_init 1 = .ok (.invokespecial 3, 3) := by decide +kernel
theorem dX2_init_4 : decode cX2_init 4 = .ok (.aload_n 0, 1) := by decide +kernel
theorem dX2_init_5 : decode cX2_init 5 = .ok (.bipush 48, 2) := by decide +kernel
theorem dX2_init_7 : decode cX2_init 7 = .ok (.newarray .char, 2) := by decide +kernel
theorem dX2_init_9 : decode cX2_init 9 = .ok (.putfield 9, 3) := by decide +kernel
theorem dX2_init_12 : decode cX2_init 12 = .ok (.aload_n 0, 1) := by decide +kernel
theorem dX2_init_13 : decode cX2_init 13 = .ok (.iconst 0, 1) := by decide +kernel
theorem dX2_init_14 : decode cX2_init 14 = .ok (.putfield 15, 3) := by decide +kernel
theorem dX2_init_17 : decode cX2_init 17 = .ok (.aload_n 0, 1) := by decide +kernel
theorem dX2_init_18 : decode cX2_init 18 = .ok (.iconst 0, 1) := by decide +kernel
theorem dX2_init_19 : decode cX2_init 19 = .ok (.putfield 19, 3) := by decide +kernel
theorem dX2_init_22 : decode cX2_init 22 = .ok (.aload_n 0, 1) := by decide +kernel
theorem dX2_init_23 : decode cX2_init 23 = .ok (.bipush 26, 2) := by decide +kernel
theorem dX2_init_25 : decode cX2_init 25 = .ok (.newarray .int, 2) := by decide +kernel
theorem dX2_init_27 : decode cX2_init 27 = .ok (.putfield 22, 3) := by decide +kernel
theorem dX2_init_30 : decode cX2_init 30 = .ok (.aload_n 0, 1) := by decide +kernel
theorem dX2_init_31 : decode cX2_init 31 = .ok (.iconst 0, 1) := by decide +kernel
theorem dX2_init_32 : decode cX2_init 32 = .ok (.putfield 26, 3) := by decide +kernel
theorem dX2_init_35 : decode cX2_init 35 = .ok (.aload_n 0, 1) := by decide +kernel
theorem dX2_init_36 : decode cX2_init 36 = .ok (.iconst 0, 1) := by decide +kernel
theorem dX2_init_37 : decode cX2_init 37 = .ok (.putfield 29, 3) := by decide +kernel
theorem dX2_init_40 : decode cX2_init 40 = .ok (.aload_n 0, 1) := by decide +kernel
theorem dX2_init_41 : decode cX2_init 41 = .ok (.invokevirtual 33, 3) := by decide +kernel
theorem dX2_init_44 : decode cX2_init 44 = .ok (.return_, 1) := by decide +kernel
theorem dX1_init_0 : decode cX1_init 0 = .ok (.aload_n 0, 1) := by decide +kernel
theorem dX1_init_1 : decode cX1_init 1 = .ok (.invokespecial 3, 3) := by decide +kernel
theorem dX1_init_4 : decode cX1_init 4 = .ok (.aload_n 0, 1) := by decide +kernel
theorem dX1_init_5 : decode cX1_init 5 = .ok (.bipush 12, 2) := by decide +kernel
theorem dX1_init_7 : decode cX1_init 7 = .ok (.newarray .int, 2) := by decide +kernel
theorem dX1_init_9 : decode cX1_init 9 = .ok (.putfield 9, 3) := by decide +kernel
theorem dX1_init_12 : decode cX1_init 12 = .ok (.aload_n 0, 1) := by decide +kernel
theorem dX1_init_13 : decode cX1_init 13 = .ok (.bipush 12, 2) := by decide +kernel
theorem dX1_init_15 : decode cX1_init 15 = .ok (.newarray .int, 2) := by decide +kernel
theorem dX1_init_17 : decode cX1_init 17 = .ok (.putfield 15, 3) := by decide +kernel
theorem dX1_init_20 : decode cX1_init 20 = .ok (.aload_n 0, 1) := by decide +kernel
theorem dX1_init_21 : decode cX1_init 21 = .ok (.bipush 12, 2) := by decide +kernel
theorem dX1_init_23 : decode cX1_init 23 = .ok (.newarray .int, 2) := by decide +kernel
theorem dX1_init_25 : decode cX1_init 25 = .ok (.putfield 18, 3) := by decide +kernel
theorem dX1_init_28 : decode cX1_init 28 = .ok (.aload_n 0, 1) := by decide +kernel
theorem dX1_init_29 : decode cX1_init 29 = .ok (.iconst 0, 1) := by decide +kernel
theorem dX1_init_30 : decode cX1_init 30 = .ok (.putfield 21, 3) := by decide +kernel
theorem dX1_init_33 : decode cX1_init 33 = .ok (.aload_n 0, 1) := by decide +kernel
theorem dX1_init_34 : decode cX1_init 34 = .ok (.iconst 0, 1) := by decide +kernel
theorem dX1_init_35 : decode cX1_init 35 = .ok (.putfield 25, 3) := by decide +kernel
theorem dX1_init_38 : decode cX1_init 38 = .ok (.aload_n 0, 1) := by decide +kernel
theorem dX1_init_39 : decode cX1_init 39 = .ok (.iconst 0, 1) := by decide +kernel
theorem dX1_init_40 : decode cX1_init 40 = .ok (.putfield 28, 3) := by decide +kernel
theorem dX1_init_43 : decode cX1_init 43 = .ok (.aload_n 0, 1) := by decide +kernel
theorem dX1_init_44 : decode cX1_init 44 = .ok (.iconst 0, 1) := by decide +kernel
theorem dX1_init_45 : decode cX1_init 45 = .ok (.putfield 31, 3) := by decide +kernel
theorem dX1_init_48 : decode cX1_init 48 = .ok (.aload_n 0, 1) := by decide +kernel
theorem dX1_init_49 : decode cX1_init 49 = .ok (.iconst 3, 1) := by decide +kernel
theorem dX1_init_50 : decode cX1_init 50 = .ok (.newarray .int, 2) := by decide +kernel
theorem dX1_init_52 : decode cX1_init 52 = .ok (.putfield 35, 3) := by decide +kernel
theorem dX1_init_55 : decode cX1_init 55 = .ok (.aload_n 0, 1) := by decide +kernel
theorem dX1_init_56 : decode cX1_init 56 = .ok (.iconst 3, 1) := by decide +kernel
theorem dX1_init_57 : decode cX1_init 57 = .ok (.newarray .int, 2) := by decide +kernel
theorem dX1_init_59 : decode cX1_init 59 = .ok (.putfield 38, 3) := by decide +kernel
theorem dX1_init_62 : decode cX1_init 62 = .ok (.aload_n 0, 1) := by decide +kernel
theorem dX1_init_63 : decode cX1_init 63 = .ok (.iconst 0, 1) := by decide +kernel
theorem dX1_init_64 : decode cX1_init 64 = .ok (.putfield 41, 3) := by decide +kernel
theorem dX1_init_67 : decode cX1_init 67 = .ok (.aload_n 0, 1) := by decide +kernel
theorem dX1_init_68 : decode cX1_init 68 = .ok (.bipush 12, 2) := by decide +kernel
theorem dX1_init_70 : decode cX1_init 70 = .ok (.newarray .char, 2) := by decide +kernel
theorem dX1_init_72 : decode cX1_init 72 = .ok (.putfield 44, 3) := by decide +kernel
theorem dX1_init_75 : decode cX1_init 75 = .ok (.aload_n 0, 1) := by decide +kernel
theorem dX1_init_76 : decode cX1_init 76 = .ok (.iconst 0, 1) := by decide +kernel
theorem dX1_init_77 : decode cX1_init 77 = .ok (.putfield 48, 3) := by decide +kernel
theorem dX1_init_80 : decode cX1_init 80 = .ok (.aload_n 0, 1) := by decide +kernel
theorem dX1_init_81 : decode cX1_init 81 = .ok (.iconst 0, 1) := by decide +kernel
theorem dX1_init_82 : decode cX1_init 82 = .ok (.putfield 51, 3) := by decide +kernel
theorem dX1_init_85 : decode cX1_init 85 = .ok (.aload_n 0, 1) := by decide +kernel
theorem dX1_init_86 : decode cX1_init 86 = .ok (.iconst 0, 1) := by decide +kernel
theorem dX1_init_87 : decode cX1_init 87 = .ok (.putfield 54, 3) := by decide +kernel
theorem dX1_init_90 : decode cX1_init 90 = .ok (.return_, 1) := by decide +kernel
theorem dX3_init_0 : decode cX3_init 0 = .ok (.aload_n 0, 1) := by decide +kernel
theorem dX3_init_1 : decode cX3_init 1 = .ok (.invokespecial 3, 3) := by decide +kernel
theorem dX3_init_4 : decode cX3_init 4 = .ok (.aload_n 0, 1) := by decide +kernel
theorem dX3_init_5 : decode cX3_init 5 = .ok (.bipush 60, 2) := by decide +kernel
theorem dX3_init_7 : decode cX3_init 7 = .ok (.newarray .char, 2) := by decide +kernel
theorem dX3_init_9 : decode cX3_init 9 = .ok (.putfield 9, 3) := by decide +kernel
theorem dX3_init_12 : decode cX3_init 12 = .ok (.aload_n 0, 1) := by decide +kernel
theorem dX3_init_13 : decode cX3_init 13 = .ok (.bipush 60, 2) := by decide +kernel
theorem dX3_init_15 : decode cX3_init 15 = .ok (.newarray .char, 2) := by decide +kernel
theorem dX3_init_17 : decode cX3_init 17 = .ok (.putfield 15, 3) := by decide +kernel
theorem dX3_init_20 : decode cX3_init 20 = .ok (.aload_n 0, 1) := by decide +kernel
theorem dX3_init_21 : decode cX3_init 21 = .ok (.iconst 0, 1) := by decide +kernel
theorem dX3_init_22 : decode cX3_init 22 = .ok (.putfield 18, 3) := by decide +kernel
theorem dX3_init_25 : decode cX3_init 25 = .ok (.aload_n 0, 1) := by decide +kernel
theorem dX3_init_26 : decode cX3_init 26 = .ok (.iconst 0, 1) := by decide +kernel
theorem dX3_init_27 : decode cX3_init 27 = .ok (.putfield 22, 3) := by decide +kernel
theorem dX3_init_30 : decode cX3_init 30 = .ok (.return_, 1) := by decide +kernel
theorem dX0_init_0 : decode cX0_init 0 = .ok (.aload_n 0, 1) := by decide +kernel
theorem dX0_init_1 : decode cX0_init 1 = .ok (.invokespecial 3, 3) := by decide +kernel
theorem dX0_init_4 : decode cX0_init 4 = .ok (.aload_n 0, 1) := by decide +kernel
theorem dX0_init_5 : decode cX0_init 5 = .ok (.bipush 13, 2) := by decide +kernel
theorem dX0_init_7 : decode cX0_init 7 = .ok (.newarray .int, 2) := by decide +kernel
theorem dX0_init_9 : decode cX0_init 9 = .ok (.putfield 9, 3) := by decide +kernel
theorem dX0_init_12 : decode cX0_init 12 = .ok (.return_, 1) := by decide +kernel
theorem dX4_init_51 : decode cX4_init 51 = .ok (.aload_n 0, 1) := by decide +kernel
theorem dX4_init_52 : decode cX4_init 52 = .ok (.iconst 0, 1) := by decide +kernel
theorem dX4_init_53 : decode cX4_init 53 = .ok (.putfield 23, 3) := by decide +kernel
theorem dX4_init_56 : decode cX4_init 56 = .ok (.aload_n 0, 1) := by decide +kernel
theorem dX4_init_57 : decode cX4_init 57 = .ok (.new 27, 3) := by decide +kernel
theorem dX4_init_60 : decode cX4_init 60 = .ok (.dup, 1) := by decide +kernel
theorem dX4_init_61 : decode cX4_init 61 = .ok (.invokespecial 29, 3) := by decide +kernel
theorem dX4_init_64 : decode cX4_init 64 = .ok (.putfield 30, 3) := by decide +kernel
theorem dX4_init_67 : decode cX4_init 67 = .ok (.aload_n 0, 1) := by decide +kernel
theorem dX4_init_68 : decode cX4_init 68 = .ok (.new 34, 3) := by decide +kernel
theorem dX4_init_71 : decode cX4_init 71 = .ok (.dup, 1) := by decide +kernel
theorem dX4_init_72 : decode cX4_init 72 = .ok (.invokespecial 36, 3) := by decide +kernel
theorem dX4_init_75 : decode cX4_init 75 = .ok (.putfield 37, 3) := by decide +kernel
theorem dX4_init_78 : decode cX4_init 78 = .ok (.aload_n 0, 1) := by decide +kernel
theorem dX4_init_79 : decode cX4_init 79 = .ok (.iconst 0, 1) := by decide +kernel
theorem dX4_init_80 : decode cX4_init 80 = .ok (.putfield 41, 3) := by decide +kernel
theorem dX4_init_83 : decode cX4_init 83 = .ok (.aload_n 0, 1) := by decide +kernel
theorem dX4_init_84 : decode cX4_init 84 = .ok (.iconst (-1), 1) := by decide +kernel
theorem dX4_init_85 : decode cX4_init 85 = .ok (.putfield 44, 3) := by decide +kernel
theorem dX4_init_88 : decode cX4_init 88 = .ok (.aload_n 0, 1) := by decide +kernel
theorem dX4_init_89 : decode cX4_init 89 = .ok (.iconst 0, 1) := by decide +kernel
theorem dX4_init_90 : decode cX4_init 90 = .ok (.putfield 47, 3) := by decide +kernel
theorem dX4_init_93 : decode cX4_init 93 = .ok (.return_, 1) := by decide +kernel
theorem dX4_init_32 : decode cX4_init 32 = .ok (.aload_n 0, 1) := by decide +kernel
theorem dX4_init_33 : decode cX4_init 33 = .ok (.getfield 18, 3) := by decide +kernel
theorem dX4_init_36 : decode cX4_init 36 = .ok (.iload_n 1, 1) := by decide +kernel
theorem dX4_init_37 : decode cX4_init 37 = .ok (.new 16, 3) := by decide +kernel
theorem dX4_init_40 : decode cX4_init 40 = .ok (.dup, 1) := by decide +kernel
theorem dX4_init_41 : decode cX4_init 41 = .ok (.invokespecial 22, 3) := by decide +kernel
theorem dX4_init_44 : decode cX4_init 44 = .ok (.aastore, 1) := by decide +kernel
theorem dX4_init_45 : decode cX4_init 45 = .ok (.iinc 1 1, 3) := by decide +kernel
theorem dX4_init_48 : decode cX4_init 48 = .ok (.goto (-22), 3) := by decide +kernel
theorem dX4_init_26 : decode cX4_init 26 = .ok (.iload_n 1, 1) := by decide +kernel
theorem dX4_init_27 : decode cX4_init 27 = .ok (.bipush 8, 2) := by decide +kernel
theorem dX4_init_29 : decode cX4_init 29 = .ok (.if_icmp .gt 22, 3) := by decide +kernel
theorem dX4_init_0 : decode cX4_init 0 = .ok (.aload_n 0, 1) := by decide +kernel
theorem dX4_init_1 : decode cX4_init 1 = .ok (.invokespecial 3, 3) := by decide +kernel
theorem dX4_init_4 : decode cX4_init 4 = .ok (.aload_n 0, 1) := by decide +kernel
theorem dX4_init_5 : decode cX4_init 5 = .ok (.new 9, 3) := by decide +kernel
theorem dX4_init_8 : decode cX4_init 8 = .ok (.dup, 1) := by decide +kernel
theorem dX4_init_9 : decode cX4_init 9 = .ok (.invokespecial 11, 3) := by decide +kernel
theorem dX4_init_12 : decode cX4_init 12 = .ok (.putfield 12, 3) := by decide +kernel
theorem dX4_init_15 : decode cX4_init 15 = .ok (.aload_n 0, 1) := by decide +kernel
theorem dX4_init_16 : decode cX4_init 16 = .ok (.bipush 9, 2) := by decide +kernel
theorem dX4_init_18 : decode cX4_init 18 = .ok (.anewarray 16, 3) := by decide +kernel
theorem dX4_init_21 : decode cX4_init 21 = .ok (.putfield 18, 3) := by decide +kernel
theorem dX4_init_24 : decode cX4_init 24 = .ok (.iconst 0, 1) := by decide +kernel
theorem dX4_init_25 : decode cX4_init 25 = .ok (.istore_n 1, 1) := by decide +kernel
theorem dX4_isCapital_17 : decode cX4_isCapital 17 = .ok (.ireturn, 1) := by decide +kernel
theorem dX4_isCapital_16 : decode cX4_isCapital 16 = .ok (.iconst 0, 1) := by decide +kernel
theorem dX4_isCapital_12 : decode cX4_isCapital 12 = .ok (.iconst 1, 1) := by decide +kernel
theorem dX4_isCapital_13 : decode cX4_isCapital 13 = .ok (.goto 4, 3) := by decide +kernel
theorem dX4_isCapital_6 : decode cX4_isCapital 6 = .ok (.iload_n 0, 1) := by decide +kernel
theorem dX4_isCapital_7 : decode cX4_isCapital 7 = .ok (.bipush 90, 2) := by decide +kernel
theorem dX4_isCapital_9 : decode cX4_isCapital 9 = .ok (.if_icmp .gt 7, 3) := by decide +kernel
theorem dX4_isCapital_0 : decode cX4_isCapital 0 = .ok (.iload_n 0, 1) := by decide +kernel
theorem dX4_isCapital_1 : decode cX4_isCapital 1 = .ok (.bipush 65, 2) := by decide +kernel
theorem dX4_isCapital_3 : decode cX4_isCapital 3 = .ok (.if_icmp .lt 13, 3) := by decide +kernel
theorem dX2_looksLikeDefinition_36 : decode cX2_looksLikeDefinition 36 = .ok (.ireturn, 1) := by decide +kernel
theorem dX2_looksLikeDefinition_35 : decode cX2_looksLikeDefinition 35 = .ok (.iconst 0, 1) := by decide +kernel
theorem dX2_looksLikeDefinition_31 : decode cX2_looksLikeDefinition 31 = .ok (.iconst 1, 1) := by decide +kernel
theorem dX2_looksLikeDefinition_32 : decode cX2_looksLikeDefinition 32 = .ok (.goto 4, 3) := by decide +kernel
theorem dX2_looksLikeDefinition_20 : decode cX2_looksLikeDefinition 20 = .ok (.aload_n 0, 1) := by decide +kernel
theorem dX2_looksLikeDefinition_21 : decode cX2_looksLikeDefinition 21 = .ok (.getfield 9, 3) := by decide +kernel
theorem dX2_looksLikeDefinition_24 : decode cX2_looksLikeDefinition 24 = .ok (.iconst 1, 1) := by decide +kernel
theorem dX2_looksLikeDefinition_25 : decode cX2_looksLikeDefinition 25 = .ok (.caload, 1) := by decide +kernel
theorem dX2_looksLikeDefinition_26 : decode cX2_looksLikeDefinition 26 = .ok (.bipush 61, 2) := by decide +kernel
theorem dX2_looksLikeDefinition_28 : decode cX2_looksLikeDefinition 28 = .ok (.if_icmp .ne 7, 3) := by decide +kernel
theorem dX2_looksLikeDefinition_8 : decode cX2_looksLikeDefinition 8 = .ok (.aload_n 0, 1) := by decide +kernel
theorem dX2_looksLikeDefinition_9 : decode cX2_looksLikeDefinition 9 = .ok (.getfield 9, 3) := by decide +kernel
theorem dX2_looksLikeDefinition_12 : decode cX2_looksLikeDefinition 12 = .ok (.iconst 0, 1) := by decide +kernel
theorem dX2_looksLikeDefinition_13 : decode cX2_looksLikeDefinition 13 = .ok (.caload, 1) := by decide +kernel
theorem dX2_looksLikeDefinition_14 : decode cX2_looksLikeDefinition 14 = .ok (.invokestatic 36, 3) := by decide +kernel
theorem dX2_looksLikeDefinition_17 : decode cX2_looksLikeDefinition 17 = .ok (.ifCond .eq 18, 3) := by decide +kernel
theorem dX2_looksLikeDefinition_0 : decode cX2_looksLikeDefinition 0 = .ok (.aload_n 0, 1) := by decide +kernel
theorem dX2_looksLikeDefinition_1 : decode cX2_looksLikeDefinition 1 = .ok (.getfield 15, 3) := by decide +kernel
theorem dX2_looksLikeDefinition_4 : decode cX2_looksLikeDefinition 4 = .ok (.iconst 2, 1) := by decide +kernel
theorem dX2_looksLikeDefinition_5 : decode cX2_looksLikeDefinition 5 = .ok (.if_icmp .lt 30, 3) := by decide +kernel
theorem dX2_next_24 : decode cX2_next 24 = .ok (.ireturn, 1) := by decide +kernel
theorem dX2_next_23 : decode cX2_next 23 = .ok (.iconst 0, 1) := by decide +kernel
theorem dX2_next_11 : decode cX2_next 11 = .ok (.aload_n 0, 1) := by decide +kernel
theorem dX2_next_12 : decode cX2_next 12 = .ok (.getfield 9, 3) := by decide +kernel
theorem dX2_next_15 : decode cX2_next 15 = .ok (.aload_n 0, 1) := by decide +kernel
theorem dX2_next_16 : decode cX2_next 16 = .ok (.getfield 19, 3) := by decide +kernel
theorem dX2_next_19 : decode cX2_next 19 = .ok (.caload, 1) := by decide +kernel
theorem dX2_next_20 : decode cX2_next 20 = .ok (.goto 4, 3) := by decide +kernel
theorem dX2_next_0 : decode cX2_next 0 = .ok (.aload_n 0, 1) := by decide +kernel
theorem dX2_next_1 : decode cX2_next 1 = .ok (.getfield 19, 3) := by decide +kernel
theorem dX2_next_4 : decode cX2_next 4 = .ok (.aload_n 0, 1) := by decide +kernel
theorem dX2_next_5 : decode cX2_next 5 = .ok (.getfield 15, 3) := by decide +kernel
theorem dX2_next_8 : decode cX2_next 8 = .ok (.if_icmp .ge 15, 3) := by decide +kernel
theorem dX4_isSmall_17 : decode cX4_isSmall 17 = .ok (.ireturn, 1) := by decide +kernel
theorem dX4_isSmall_16 : decode cX4_isSmall 16 = .ok (.iconst 0, 1) := by decide +kernel
theorem dX4_isSmall_12 : decode cX4_isSmall 12 = .ok (.iconst 1, 1) := by decide +kernel
theorem dX4_isSmall_13 : decode cX4_isSmall 13 = .ok (.goto 4, 3) := by decide +kernel
theorem dX4_isSmall_6 : decode cX4_isSmall 6 = .ok (.iload_n 0, 1) := by decide +kernel
theorem dX4_isSmall_7 : decode cX4_isSmall 7 = .ok (.bipush 122, 2) := by decide +kernel
theorem dX4_isSmall_9 : decode cX4_isSmall 9 = .ok (.if_icmp .gt 7, 3) := by decide +kernel
theorem dX4_isSmall_0 : decode cX4_isSmall 0 = .ok (.iload_n 0, 1) := by decide +kernel
theorem dX4_isSmall_1 : decode cX4_isSmall 1 = .ok (.bipush 97, 2) := by decide +kernel
theorem dX4_isSmall_3 : decode cX4_isSmall 3 = .ok (.if_icmp .lt 13, 3) := by decide +kernel
theorem dX2_lettersFromTo_0 : decode cX2_lettersFromTo 0 = .ok (.iconst 1, 1) := by decide +kernel
theorem dX2_lettersFromTo_1 : decode cX2_lettersFromTo 1 = .ok (.iload_n 1, 1) := by decide +kernel
theorem dX2_lettersFromTo_2 : decode cX2_lettersFromTo 2 = .ok (.bipush 97, 2) := by decide +kernel
theorem dX2_lettersFromTo_4 : decode cX2_lettersFromTo 4 = .ok (.isub, 1) := by decide +kernel
theorem dX2_lettersFromTo_5 : decode cX2_lettersFromTo 5 = .ok (.iconst 1, 1) := by decide +kernel
theorem dX2_lettersFromTo_6 : decode cX2_lettersFromTo 6 = .ok (.iadd, 1) := by decide +kernel
theorem dX2_lettersFromTo_7 : decode cX2_lettersFromTo 7 = .ok (.ishl, 1) := by decide +kernel
theorem dX2_lettersFromTo_8 : decode cX2_lettersFromTo 8 = .ok (.iconst 1, 1) := by decide +kernel
theorem dX2_lettersFromTo_9 : decode cX2_lettersFromTo 9 = .ok (.iload_n 0, 1) := by decide +kernel
theorem dX2_lettersFromTo_10 : decode cX2_lettersFromTo 10 = .ok (.bipush 97, 2) := by decide +kernel
theorem dX2_lettersFromTo_12 : decode cX2_lettersFromTo 12 = .ok (.isub, 1) := by decide +kernel
theorem dX2_lettersFromTo_13 : decode cX2_lettersFromTo 13 = .ok (.ishl, 1) := by decide +kernel
theorem dX2_lettersFromTo_14 : decode cX2_lettersFromTo 14 = .ok (.isub, 1) := by decide +kernel
theorem dX2_lettersFromTo_15 : decode cX2_lettersFromTo 15 = .ok (.ireturn, 1) := by decide +kernel
theorem dX2_skip_26 : decode cX2_skip 26 = .ok (.aload_n 0, 1) := by decide +kernel
theorem dX2_skip_27 : decode cX2_skip 27 = .ok (.dup, 1) := by decide +kernel
theorem dX2_skip_28 : decode cX2_skip 28 = .ok (.getfield 19, 3) := by decide +kernel
theorem dX2_skip_31 : decode cX2_skip 31 = .ok (.iconst 1, 1) := by decide +kernel
theorem dX2_skip_32 : decode cX2_skip 32 = .ok (.iadd, 1) := by decide +kernel
theorem dX2_skip_33 : decode cX2_skip 33 = .ok (.putfield 19, 3) := by decide +kernel
theorem dX2_skip_36 : decode cX2_skip 36 = .ok (.iconst 1, 1) := by decide +kernel
theorem dX2_skip_37 : decode cX2_skip 37 = .ok (.ireturn, 1) := by decide +kernel
theorem dX2_skip_24 : decode cX2_skip 24 = .ok (.iconst 0, 1) := by decide +kernel
theorem dX2_skip_25 : decode cX2_skip 25 = .ok (.ireturn, 1) := by decide +kernel
theorem dX2_skip_11 : decode cX2_skip 11 = .ok (.aload_n 0, 1) := by decide +kernel
theorem dX2_skip_12 : decode cX2_skip 12 = .ok (.getfield 9, 3) := by decide +kernel
theorem dX2_skip_15 : decode cX2_skip 15 = .ok (.aload_n 0, 1) := by decide +kernel
theorem dX2_skip_16 : decode cX2_skip 16 = .ok (.getfield 19, 3) := by decide +kernel
theorem dX2_skip_19 : decode cX2_skip 19 = .ok (.caload, 1) := by decide +kernel
theorem dX2_skip_20 : decode cX2_skip 20 = .ok (.iload_n 1, 1) := by decide +kernel
theorem dX2_skip_21 : decode cX2_skip 21 = .ok (.if_icmp .eq 5, 3) := by decide +kernel
theorem dX2_skip_0 : decode cX2_skip 0 = .ok (.aload_n 0, 1) := by decide +kernel
theorem dX2_skip_1 : decode cX2_skip 1 = .ok (.getfield 19, 3) := by decide +kernel
theorem dX2_skip_4 : decode cX2_skip 4 = .ok (.aload_n 0, 1) := by decide +kernel
theorem dX2_skip_5 : decode cX2_skip 5 = .ok (.getfield 15, 3) := by decide +kernel
theorem dX2_skip_8 : decode cX2_skip 8 = .ok (.if_icmp .ge 16, 3) := by decide +kernel
-- X2_clearMeanings
def wX2_clearMeanings : List Cond := Cond.code yX2_clearMeanings cX2_clearMeanings 2 none :: kv_tb
abbrev SX2_clearMeanings (pc : Nat) (F : kv_D) : Prop := kv_S cX2_clearMeanings 2 RX2 wX2_clearMeanings none false 0 0 none pc F
def fX2_clearMeanings_21 (K : Nat → kv_D) : kv_D := o_ret
theorem sX2_clearMeanings_21 {K : Nat → kv_D} (hK : ∀ pc, SX2_clearMeanings pc (K pc)) : SX2_clearMeanings 21 (fX2_clearMeanings_21 K) := k_ret dX2_clearMeanings_21 rfl
theorem nX2_clearMeanings_21 : kv_cn (fun K => fX2_clearMeanings_21 K) := cn_c _
def fX2_clearMeanings_8 (K : Nat → kv_D) : kv_D := o_aload 0 (o_getf 2 3 (o_iload 1 (o_const (-1) (o_iast 0 (fun x => x) (o_iinc 1 1 ((K 2)))))))
theorem sX2_clearMeanings_8 {K : Nat → kv_D} (hK : ∀ pc, SX2_clearMeanings pc (K pc)) : SX2_clearMeanings 8 (fX2_clearMeanings_8 K) := k_aload_n dX2_clearMeanings_8 rfl (k_getf (C := RX2) (T := TX2) (N := 6) (ci := 2) (index := 22) (kf := 3) dX2_clearMeanings_9 rfl (fun w h => List.mem_cons_of_mem _ (inX2 w h)) (by decide) (List.mem_cons_of_mem _ mw_30) (k_iload_n dX2_clearMeanings_12 rfl (k_iconst dX2_clearMeanings_13 (by decide +kernel) (k_iast dX2_clearMeanings_14 rfl (k_iinc dX2_clearMeanings_15 (by decide +kernel) (by decide) (k_goto dX2_clearMeanings_18 rfl (hK 2)))))))
theorem nX2_clearMeanings_8 : kv_cn (fun K => fX2_clearMeanings_8 K) := cn_aload 0 (cn_getf 2 3 (cn_iload 1 (cn_const (-1) (cn_iast 0 (fun x => x) (cn_iinc 1 1 ((cn_K 2)))))))
def fX2_clearMeanings_2 (K : Nat → kv_D) : kv_D := o_iload 1 (o_const 26 (o_icge (fX2_clearMeanings_21 K) (fX2_clearMeanings_8 K)))
theorem sX2_clearMeanings_2 {K : Nat → kv_D} (hK : ∀ pc, SX2_clearMeanings pc (K pc)) : SX2_clearMeanings 2 (fX2_clearMeanings_2 K) := k_iload_n dX2_clearMeanings_2 rfl (k_bipush dX2_clearMeanings_3 (by decide +kernel) (k_icge dX2_clearMeanings_5 rfl (sX2_clearMeanings_21 hK) (sX2_clearMeanings_8 hK)))
theorem nX2_clearMeanings_2 : kv_cn (fun K => fX2_clearMeanings_2 K) := cn_iload 1 (cn_const 26 (cn_icge nX2_clearMeanings_21 nX2_clearMeanings_8))
def fX2_clearMeanings_0 (K : Nat → kv_D) : kv_D := o_const 0 (o_istore 1 ((K 2)))
theorem sX2_clearMeanings_0 {K : Nat → kv_D} (hK : ∀ pc, SX2_clearMeanings pc (K pc)) : SX2_clearMeanings 0 (fX2_clearMeanings_0 K) := k_iconst dX2_clearMeanings_0 (by decide +kernel) (k_istore_n dX2_clearMeanings_1 rfl (by decide) ((hK 2)))
theorem nX2_clearMeanings_0 : kv_cn (fun K => fX2_clearMeanings_0 K) := cn_const 0 (cn_istore 1 ((cn_K 2)))
def bX2_clearMeanings (K : Nat → kv_D) (pc : Nat) : kv_D := if pc = 2 then fX2_clearMeanings_2 K else fun _ _ _ _ _ => False
theorem hX2_clearMeanings : ∀ pc, SX2_clearMeanings pc (kv_lim (bX2_clearMeanings) pc) := kv_lim_S (fun K hK pc => by
  unfold bX2_clearMeanings
  by_cases q2 : pc = 2
  · rw [if_pos q2, q2]
    exact sX2_clearMeanings_2 hK
  rw [if_neg q2]
  exact kv_none)
theorem uX2_clearMeanings_2 {L : List (Option Value)} {st : List Value} {h : kv_H} {v : Option Value} {h' : kv_H} (hx : fX2_clearMeanings_2 (kv_lim (bX2_clearMeanings)) L st h v h') : kv_lim (bX2_clearMeanings) 2 L st h v h' := kv_un (q := 2) (by have e : (fun K => bX2_clearMeanings K 2) = fun K => fX2_clearMeanings_2 K := (by funext K; rfl); rw [e]; exact nX2_clearMeanings_2) (by have e : bX2_clearMeanings (kv_lim (bX2_clearMeanings)) 2 = fX2_clearMeanings_2 (kv_lim (bX2_clearMeanings)) := rfl; rw [e]; exact hx)
def mX2_clearMeanings : kv_M := kv_in 1 2 (fX2_clearMeanings_0 (kv_lim (bX2_clearMeanings)))
theorem cX2_clearMeanings_ct : kv_CT yX2_clearMeanings wX2_clearMeanings 0 0 mX2_clearMeanings := kv_met (by decide) rfl rfl (by decide) (fun h => by cases h) (sX2_clearMeanings_0 (hX2_clearMeanings))
-- X2_init
def wX2_init : List Cond := Cond.code yX2_init cX2_init 1 none :: kv_tb
abbrev SX2_init (pc : Nat) (F : kv_D) : Prop := kv_S cX2_init 1 RX2 wX2_init none true 1 21 none pc F
def fX2_init_0 : kv_D := o_aload 0 (o_obj (o_aload 0 (o_const 48 (o_newa 1 .char (o_putf 2 0 (.array .char) (o_aload 0 (o_const 0 (o_putf 2 1 .int (o_aload 0 (o_const 0 (o_putf 2 2 .int (o_aload 0 (o_const 26 (o_newa 0 .int (o_putf 2 3 (.array .int) (o_aload 0 (o_const 0 (o_putf 2 4 .int (o_aload 0 (o_const 0 (o_putf 2 5 .boolean (o_aload 0 (o_callV 2 0 mX2_clearMeanings (o_ret))))))))))))))))))))))))
theorem sX2_init_0 : SX2_init 0 (fX2_init_0) := k_aload_n dX2_init_0 rfl (k_obj dX2_init_1 (List.mem_cons_of_mem _ mw_22) (List.mem_cons_of_mem _ mw_15) (List.mem_cons_of_mem _ mw_16) (by decide) (by decide) (k_aload_n dX2_init_4 rfl (k_bipush dX2_init_5 (by decide +kernel) (k_newa dX2_init_7 rfl rfl rfl (List.mem_cons_of_mem _ mw_47) (k_putF (C := RX2) (T := TX2) (N := 6) (ci := 2) (index := 9) (kf := 0) (ty := (.array .char)) dX2_init_9 rfl (fun w h => List.mem_cons_of_mem _ (inX2 w h)) tyX2 tyX2_ok nmX2 (by decide) (List.mem_cons_of_mem _ mw_27) rfl rfl rfl rfl (k_aload_n dX2_init_12 rfl (k_iconst dX2_init_13 (by decide +kernel) (k_putf (C := RX2) (T := TX2) (N := 6) (ci := 2) (index := 15) (kf := 1) (ty := .int) dX2_init_14 rfl (fun w h => List.mem_cons_of_mem _ (inX2 w h)) tyX2 tyX2_ok nmX2 (by decide) (List.mem_cons_of_mem _ mw_28) rfl rfl (k_aload_n dX2_init_17 rfl (k_iconst dX2_init_18 (by decide +kernel) (k_putf (C := RX2) (T := TX2) (N := 6) (ci := 2) (index := 19) (kf := 2) (ty := .int) dX2_init_19 rfl (fun w h => List.mem_cons_of_mem _ (inX2 w h)) tyX2 tyX2_ok nmX2 (by decide) (List.mem_cons_of_mem _ mw_29) rfl rfl (k_aload_n dX2_init_22 rfl (k_bipush dX2_init_23 (by decide +kernel) (k_newa dX2_init_25 rfl rfl rfl (List.mem_cons_of_mem _ mw_48) (k_putF (C := RX2) (T := TX2) (N := 6) (ci := 2) (index := 22) (kf := 3) (ty := (.array .int)) dX2_init_27 rfl (fun w h => List.mem_cons_of_mem _ (inX2 w h)) tyX2 tyX2_ok nmX2 (by decide) (List.mem_cons_of_mem _ mw_30) rfl rfl rfl rfl (k_aload_n dX2_init_30 rfl (k_iconst dX2_init_31 (by decide +kernel) (k_putf (C := RX2) (T := TX2) (N := 6) (ci := 2) (index := 26) (kf := 4) (ty := .int) dX2_init_32 rfl (fun w h => List.mem_cons_of_mem _ (inX2 w h)) tyX2 tyX2_ok nmX2 (by decide) (List.mem_cons_of_mem _ mw_31) rfl rfl (k_aload_n dX2_init_35 rfl (k_iconst dX2_init_36 (by decide +kernel) (k_putf (C := RX2) (T := TX2) (N := 6) (ci := 2) (index := 29) (kf := 5) (ty := .boolean) dX2_init_37 rfl (fun w h => List.mem_cons_of_mem _ (inX2 w h)) tyX2 tyX2_ok nmX2 (by decide) (List.mem_cons_of_mem _ mw_32) rfl rfl (k_aload_n dX2_init_40 rfl (k_callV (q := (RX2, TX2, 6)) dX2_init_41 cX2_clearMeanings_ct rfl (kv_goodV mw_23 mw_24 mw_25 mw_2 mw_26) (by decide +kernel) rfl (by decide) (by decide) (k_ret dX2_init_44 rfl))))))))))))))))))))))))
def mX2_init : kv_M := kv_in 1 1 (fX2_init_0)
theorem cX2_init_ct : kv_CT yX2_init wX2_init 1 21 mX2_init := kv_met (by decide) rfl rfl (by decide) (fun _ => rfl) (sX2_init_0)
-- X1_init
def wX1_init : List Cond := Cond.code yX1_init cX1_init 1 none :: kv_tb
abbrev SX1_init (pc : Nat) (F : kv_D) : Prop := kv_S cX1_init 1 RX1 wX1_init none true 1 20 none pc F
def fX1_init_0 : kv_D := o_aload 0 (o_obj (o_aload 0 (o_const 12 (o_newa 0 .int (o_putf 1 0 (.array .int) (o_aload 0 (o_const 12 (o_newa 0 .int (o_putf 1 1 (.array .int) (o_aload 0 (o_const 12 (o_newa 0 .int (o_putf 1 2 (.array .int) (o_aload 0 (o_const 0 (o_putf 1 3 .int (o_aload 0 (o_const 0 (o_putf 1 4 .int (o_aload 0 (o_const 0 (o_putf 1 5 .int (o_aload 0 (o_const 0 (o_putf 1 6 .boolean (o_aload 0 (o_const 3 (o_newa 0 .int (o_putf 1 7 (.array .int) (o_aload 0 (o_const 3 (o_newa 0 .int (o_putf 1 8 (.array .int) (o_aload 0 (o_const 0 (o_putf 1 9 .int (o_aload 0 (o_const 12 (o_newa 1 .char (o_putf 1 10 (.array .char) (o_aload 0 (o_const 0 (o_putf 1 11 .int (o_aload 0 (o_const 0 (o_putf 1 12 .int (o_aload 0 (o_const 0 (o_putf 1 13 .int (o_ret))))))))))))))))))))))))))))))))))))))))))))))))))
theorem sX1_init_0 : SX1_init 0 (fX1_init_0) := k_aload_n dX1_init_0 rfl (k_obj dX1_init_1 (List.mem_cons_of_mem _ mw_55) (List.mem_cons_of_mem _ mw_15) (List.mem_cons_of_mem _ mw_16) (by decide) (by decide) (k_aload_n dX1_init_4 rfl (k_bipush dX1_init_5 (by decide +kernel) (k_newa dX1_init_7 rfl rfl rfl (List.mem_cons_of_mem _ mw_48) (k_putF (C := RX1) (T := TX1) (N := 14) (ci := 1) (index := 9) (kf := 0) (ty := (.array .int)) dX1_init_9 rfl (fun w h => List.mem_cons_of_mem _ (inX1 w h)) tyX1 tyX1_ok nmX1 (by decide) (List.mem_cons_of_mem _ mw_56) rfl rfl rfl rfl (k_aload_n dX1_init_12 rfl (k_bipush dX1_init_13 (by decide +kernel) (k_newa dX1_init_15 rfl rfl rfl (List.mem_cons_of_mem _ mw_48) (k_putF (C := RX1) (T := TX1) (N := 14) (ci := 1) (index := 15) (kf := 1) (ty := (.array .int)) dX1_init_17 rfl (fun w h => List.mem_cons_of_mem _ (inX1 w h)) tyX1 tyX1_ok nmX1 (by decide) (List.mem_cons_of_mem _ mw_58) rfl rfl rfl rfl (k_aload_n dX1_init_20 rfl (k_bipush dX1_init_21 (by decide +kernel) (k_newa dX1_init_23 rfl rfl rfl (List.mem_cons_of_mem _ mw_48) (k_putF (C := RX1) (T := TX1) (N := 14) (ci := 1) (index := 18) (kf := 2) (ty := (.array .int)) dX1_init_25 rfl (fun w h => List.mem_cons_of_mem _ (inX1 w h)) tyX1 tyX1_ok nmX1 (by decide) (List.mem_cons_of_mem _ mw_60) rfl rfl rfl rfl (k_aload_n dX1_init_28 rfl (k_iconst dX1_init_29 (by decide +kernel) (k_putf (C := RX1) (T := TX1) (N := 14) (ci := 1) (index := 21) (kf := 3) (ty := .int) dX1_init_30 rfl (fun w h => List.mem_cons_of_mem _ (inX1 w h)) tyX1 tyX1_ok nmX1 (by decide) (List.mem_cons_of_mem _ mw_62) rfl rfl (k_aload_n dX1_init_33 rfl (k_iconst dX1_init_34 (by decide +kernel) (k_putf (C := RX1) (T := TX1) (N := 14) (ci := 1) (index := 25) (kf := 4) (ty := .int) dX1_init_35 rfl (fun w h => List.mem_cons_of_mem _ (inX1 w h)) tyX1 tyX1_ok nmX1 (by decide) (List.mem_cons_of_mem _ mw_65) rfl rfl (k_aload_n dX1_init_38 rfl (k_iconst dX1_init_39 (by decide +kernel) (k_putf (C := RX1) (T := TX1) (N := 14) (ci := 1) (index := 28) (kf := 5) (ty := .int) dX1_init_40 rfl (fun w h => List.mem_cons_of_mem _ (inX1 w h)) tyX1 tyX1_ok nmX1 (by decide) (List.mem_cons_of_mem _ mw_68) rfl rfl (k_aload_n dX1_init_43 rfl (k_iconst dX1_init_44 (by decide +kernel) (k_putf (C := RX1) (T := TX1) (N := 14) (ci := 1) (index := 31) (kf := 6) (ty := .boolean) dX1_init_45 rfl (fun w h => List.mem_cons_of_mem _ (inX1 w h)) tyX1 tyX1_ok nmX1 (by decide) (List.mem_cons_of_mem _ mw_72) rfl rfl (k_aload_n dX1_init_48 rfl (k_iconst dX1_init_49 (by decide +kernel) (k_newa dX1_init_50 rfl rfl rfl (List.mem_cons_of_mem _ mw_48) (k_putF (C := RX1) (T := TX1) (N := 14) (ci := 1) (index := 35) (kf := 7) (ty := (.array .int)) dX1_init_52 rfl (fun w h => List.mem_cons_of_mem _ (inX1 w h)) tyX1 tyX1_ok nmX1 (by decide) (List.mem_cons_of_mem _ mw_73) rfl rfl rfl rfl (k_aload_n dX1_init_55 rfl (k_iconst dX1_init_56 (by decide +kernel) (k_newa dX1_init_57 rfl rfl rfl (List.mem_cons_of_mem _ mw_48) (k_putF (C := RX1) (T := TX1) (N := 14) (ci := 1) (index := 38) (kf := 8) (ty := (.array .int)) dX1_init_59 rfl (fun w h => List.mem_cons_of_mem _ (inX1 w h)) tyX1 tyX1_ok nmX1 (by decide) (List.mem_cons_of_mem _ mw_75) rfl rfl rfl rfl (k_aload_n dX1_init_62 rfl (k_iconst dX1_init_63 (by decide +kernel) (k_putf (C := RX1) (T := TX1) (N := 14) (ci := 1) (index := 41) (kf := 9) (ty := .int) dX1_init_64 rfl (fun w h => List.mem_cons_of_mem _ (inX1 w h)) tyX1 tyX1_ok nmX1 (by decide) (List.mem_cons_of_mem _ mw_77) rfl rfl (k_aload_n dX1_init_67 rfl (k_bipush dX1_init_68 (by decide +kernel) (k_newa dX1_init_70 rfl rfl rfl (List.mem_cons_of_mem _ mw_47) (k_putF (C := RX1) (T := TX1) (N := 14) (ci := 1) (index := 44) (kf := 10) (ty := (.array .char)) dX1_init_72 rfl (fun w h => List.mem_cons_of_mem _ (inX1 w h)) tyX1 tyX1_ok nmX1 (by decide) (List.mem_cons_of_mem _ mw_79) rfl rfl rfl rfl (k_aload_n dX1_init_75 rfl (k_iconst dX1_init_76 (by decide +kernel) (k_putf (C := RX1) (T := TX1) (N := 14) (ci := 1) (index := 48) (kf := 11) (ty := .int) dX1_init_77 rfl (fun w h => List.mem_cons_of_mem _ (inX1 w h)) tyX1 tyX1_ok nmX1 (by decide) (List.mem_cons_of_mem _ mw_81) rfl rfl (k_aload_n dX1_init_80 rfl (k_iconst dX1_init_81 (by decide +kernel) (k_putf (C := RX1) (T := TX1) (N := 14) (ci := 1) (index := 51) (kf := 12) (ty := .int) dX1_init_82 rfl (fun w h => List.mem_cons_of_mem _ (inX1 w h)) tyX1 tyX1_ok nmX1 (by decide) (List.mem_cons_of_mem _ mw_84) rfl rfl (k_aload_n dX1_init_85 rfl (k_iconst dX1_init_86 (by decide +kernel) (k_putf (C := RX1) (T := TX1) (N := 14) (ci := 1) (index := 54) (kf := 13) (ty := .int) dX1_init_87 rfl (fun w h => List.mem_cons_of_mem _ (inX1 w h)) tyX1 tyX1_ok nmX1 (by decide) (List.mem_cons_of_mem _ mw_86) rfl rfl (k_ret dX1_init_90 rfl))))))))))))))))))))))))))))))))))))))))))))))))))
def mX1_init : kv_M := kv_in 1 1 (fX1_init_0)
theorem cX1_init_ct : kv_CT yX1_init wX1_init 1 20 mX1_init := kv_met (by decide) rfl rfl (by decide) (fun _ => rfl) (sX1_init_0)
-- X3_init
def wX3_init : List Cond := Cond.code yX3_init cX3_init 1 none :: kv_tb
abbrev SX3_init (pc : Nat) (F : kv_D) : Prop := kv_S cX3_init 1 RX3 wX3_init none true 1 20 none pc F
def fX3_init_0 : kv_D := o_aload 0 (o_obj (o_aload 0 (o_const 60 (o_newa 1 .char (o_putf 3 0 (.array .char) (o_aload 0 (o_const 60 (o_newa 1 .char (o_putf 3 1 (.array .char) (o_aload 0 (o_const 0 (o_putf 3 2 .int (o_aload 0 (o_const 0 (o_putf 3 3 .int (o_ret))))))))))))))))
theorem sX3_init_0 : SX3_init 0 (fX3_init_0) := k_aload_n dX3_init_0 rfl (k_obj dX3_init_1 (List.mem_cons_of_mem _ mw_123) (List.mem_cons_of_mem _ mw_15) (List.mem_cons_of_mem _ mw_16) (by decide) (by decide) (k_aload_n dX3_init_4 rfl (k_bipush dX3_init_5 (by decide +kernel) (k_newa dX3_init_7 rfl rfl rfl (List.mem_cons_of_mem _ mw_47) (k_putf (C := RX3) (T := TX3) (N := 4) (ci := 3) (index := 9) (kf := 0) (ty := (.array .char)) dX3_init_9 rfl (fun w h => List.mem_cons_of_mem _ (inX3 w h)) tyX3 tyX3_ok nmX3 (by decide) (List.mem_cons_of_mem _ mw_124) rfl rfl (k_aload_n dX3_init_12 rfl (k_bipush dX3_init_13 (by decide +kernel) (k_newa dX3_init_15 rfl rfl rfl (List.mem_cons_of_mem _ mw_47) (k_putf (C := RX3) (T := TX3) (N := 4) (ci := 3) (index := 15) (kf := 1) (ty := (.array .char)) dX3_init_17 rfl (fun w h => List.mem_cons_of_mem _ (inX3 w h)) tyX3 tyX3_ok nmX3 (by decide) (List.mem_cons_of_mem _ mw_126) rfl rfl (k_aload_n dX3_init_20 rfl (k_iconst dX3_init_21 (by decide +kernel) (k_putf (C := RX3) (T := TX3) (N := 4) (ci := 3) (index := 18) (kf := 2) (ty := .int) dX3_init_22 rfl (fun w h => List.mem_cons_of_mem _ (inX3 w h)) tyX3 tyX3_ok nmX3 (by decide) (List.mem_cons_of_mem _ mw_127) rfl rfl (k_aload_n dX3_init_25 rfl (k_iconst dX3_init_26 (by decide +kernel) (k_putf (C := RX3) (T := TX3) (N := 4) (ci := 3) (index := 22) (kf := 3) (ty := .int) dX3_init_27 rfl (fun w h => List.mem_cons_of_mem _ (inX3 w h)) tyX3 tyX3_ok nmX3 (by decide) (List.mem_cons_of_mem _ mw_130) rfl rfl (k_ret dX3_init_30 rfl))))))))))))))))
def mX3_init : kv_M := kv_in 1 1 (fX3_init_0)
theorem cX3_init_ct : kv_CT yX3_init wX3_init 1 20 mX3_init := kv_met (by decide) rfl rfl (by decide) (fun _ => rfl) (sX3_init_0)
-- X0_init
def wX0_init : List Cond := Cond.code yX0_init cX0_init 1 none :: kv_tb
abbrev SX0_init (pc : Nat) (F : kv_D) : Prop := kv_S cX0_init 1 RX0 wX0_init none true 1 20 none pc F
def fX0_init_0 : kv_D := o_aload 0 (o_obj (o_aload 0 (o_const 13 (o_newa 0 .int (o_putf 0 0 (.array .int) (o_ret))))))
theorem sX0_init_0 : SX0_init 0 (fX0_init_0) := k_aload_n dX0_init_0 rfl (k_obj dX0_init_1 (List.mem_cons_of_mem _ mw_147) (List.mem_cons_of_mem _ mw_15) (List.mem_cons_of_mem _ mw_16) (by decide) (by decide) (k_aload_n dX0_init_4 rfl (k_bipush dX0_init_5 (by decide +kernel) (k_newa dX0_init_7 rfl rfl rfl (List.mem_cons_of_mem _ mw_48) (k_putF (C := RX0) (T := TX0) (N := 1) (ci := 0) (index := 9) (kf := 0) (ty := (.array .int)) dX0_init_9 rfl (fun w h => List.mem_cons_of_mem _ (inX0 w h)) tyX0 tyX0_ok nmX0 (by decide) (List.mem_cons_of_mem _ mw_148) rfl rfl rfl rfl (k_ret dX0_init_12 rfl))))))
def mX0_init : kv_M := kv_in 1 1 (fX0_init_0)
theorem cX0_init_ct : kv_CT yX0_init wX0_init 1 20 mX0_init := kv_met (by decide) rfl rfl (by decide) (fun _ => rfl) (sX0_init_0)
-- X4_init
def wX4_init : List Cond := Cond.code yX4_init cX4_init 2 none :: kv_tb
abbrev SX4_init (pc : Nat) (F : kv_D) : Prop := kv_S cX4_init 2 RX4 wX4_init none true 2 41 none pc F
def fX4_init_51 (K : Nat → kv_D) : kv_D := o_aload 0 (o_const 0 (o_putf 4 2 .int (o_aload 0 (o_new 3 4 [.null, .null, .int 0, .int 0] (o_dup (o_callI 0 mX3_init (o_putf 4 3 (.object "CursorRewriter$Text") (o_aload 0 (o_new 0 1 [.null] (o_dup (o_callI 0 mX0_init (o_putf 4 4 (.object "CursorRewriter$Match") (o_aload 0 (o_const 0 (o_putf 4 5 .int (o_aload 0 (o_const (-1) (o_putf 4 6 .int (o_aload 0 (o_const 0 (o_putf 4 7 .boolean (o_ret))))))))))))))))))))))
theorem sX4_init_51 {K : Nat → kv_D} (hK : ∀ pc, SX4_init pc (K pc)) : SX4_init 51 (fX4_init_51 K) := k_aload_n dX4_init_51 rfl (k_iconst dX4_init_52 (by decide +kernel) (k_putf (C := RX4) (T := TX4) (N := 8) (ci := 4) (index := 23) (kf := 2) (ty := .int) dX4_init_53 rfl (fun w h => List.mem_cons_of_mem _ (inX4 w h)) tyX4 tyX4_ok nmX4 (by decide) (List.mem_cons_of_mem _ mw_155) rfl rfl (k_aload_n dX4_init_56 rfl (k_new (C := RX3) (T := TX3) (index := 27) (fs := [.null, .null, .int 0, .int 0]) dX4_init_57 rfl (fun w h => List.mem_cons_of_mem _ (inX3 w h)) tyX3 tyX3_ok (List.mem_cons_of_mem _ mw_118) (List.mem_cons_of_mem _ mw_119) (List.mem_cons_of_mem _ mw_4) (by decide +kernel) (fun _ _ => rfl) (k_dup dX4_init_60 (k_callIN dX4_init_61 cX3_init_ct rfl (kv_goodC mw_122) mw_120 (List.mem_cons_of_mem _ mw_4) (List.mem_cons_of_mem _ mw_121) rfl (by decide +kernel) (by decide) (by decide) (k_putF (C := RX4) (T := TX4) (N := 8) (ci := 4) (index := 30) (kf := 3) (ty := (.object "CursorRewriter$Text")) dX4_init_64 rfl (fun w h => List.mem_cons_of_mem _ (inX4 w h)) tyX4 tyX4_ok nmX4 (by decide) (List.mem_cons_of_mem _ mw_156) rfl rfl rfl rfl (k_aload_n dX4_init_67 rfl (k_new (C := RX0) (T := TX0) (index := 34) (fs := [.null]) dX4_init_68 rfl (fun w h => List.mem_cons_of_mem _ (inX0 w h)) tyX0 tyX0_ok (List.mem_cons_of_mem _ mw_142) (List.mem_cons_of_mem _ mw_143) (List.mem_cons_of_mem _ mw_5) (by decide +kernel) (fun _ _ => rfl) (k_dup dX4_init_71 (k_callIN dX4_init_72 cX0_init_ct rfl (kv_goodC mw_146) mw_144 (List.mem_cons_of_mem _ mw_5) (List.mem_cons_of_mem _ mw_145) rfl (by decide +kernel) (by decide) (by decide) (k_putF (C := RX4) (T := TX4) (N := 8) (ci := 4) (index := 37) (kf := 4) (ty := (.object "CursorRewriter$Match")) dX4_init_75 rfl (fun w h => List.mem_cons_of_mem _ (inX4 w h)) tyX4 tyX4_ok nmX4 (by decide) (List.mem_cons_of_mem _ mw_157) rfl rfl rfl rfl (k_aload_n dX4_init_78 rfl (k_iconst dX4_init_79 (by decide +kernel) (k_putf (C := RX4) (T := TX4) (N := 8) (ci := 4) (index := 41) (kf := 5) (ty := .int) dX4_init_80 rfl (fun w h => List.mem_cons_of_mem _ (inX4 w h)) tyX4 tyX4_ok nmX4 (by decide) (List.mem_cons_of_mem _ mw_158) rfl rfl (k_aload_n dX4_init_83 rfl (k_iconst dX4_init_84 (by decide +kernel) (k_putf (C := RX4) (T := TX4) (N := 8) (ci := 4) (index := 44) (kf := 6) (ty := .int) dX4_init_85 rfl (fun w h => List.mem_cons_of_mem _ (inX4 w h)) tyX4 tyX4_ok nmX4 (by decide) (List.mem_cons_of_mem _ mw_159) rfl rfl (k_aload_n dX4_init_88 rfl (k_iconst dX4_init_89 (by decide +kernel) (k_putf (C := RX4) (T := TX4) (N := 8) (ci := 4) (index := 47) (kf := 7) (ty := .boolean) dX4_init_90 rfl (fun w h => List.mem_cons_of_mem _ (inX4 w h)) tyX4 tyX4_ok nmX4 (by decide) (List.mem_cons_of_mem _ mw_160) rfl rfl (k_ret dX4_init_93 rfl))))))))))))))))))))))
theorem nX4_init_51 : kv_cn (fun K => fX4_init_51 K) := cn_aload 0 (cn_const 0 (cn_putf 4 2 .int (cn_aload 0 (cn_new 3 4 [.null, .null, .int 0, .int 0] (cn_dup (cn_callI 0 mX3_init (cn_putf 4 3 (.object "CursorRewriter$Text") (cn_aload 0 (cn_new 0 1 [.null] (cn_dup (cn_callI 0 mX0_init (cn_putf 4 4 (.object "CursorRewriter$Match") (cn_aload 0 (cn_const 0 (cn_putf 4 5 .int (cn_aload 0 (cn_const (-1) (cn_putf 4 6 .int (cn_aload 0 (cn_const 0 (cn_putf 4 7 .boolean (cn_c _))))))))))))))))))))))
def fX4_init_32 (K : Nat → kv_D) : kv_D := o_aload 0 (o_getf 4 1 (o_iload 1 (o_new 1 14 [.null, .null, .null, .int 0, .int 0, .int 0, .int 0, .null, .null, .int 0, .null, .int 0, .int 0, .int 0] (o_dup (o_callI 0 mX1_init (o_aast 2 1 (o_iinc 1 1 ((K 26)))))))))
theorem sX4_init_32 {K : Nat → kv_D} (hK : ∀ pc, SX4_init pc (K pc)) : SX4_init 32 (fX4_init_32 K) := k_aload_n dX4_init_32 rfl (k_getf (C := RX4) (T := TX4) (N := 8) (ci := 4) (index := 18) (kf := 1) dX4_init_33 rfl (fun w h => List.mem_cons_of_mem _ (inX4 w h)) (by decide) (List.mem_cons_of_mem _ mw_154) (k_iload_n dX4_init_36 rfl (k_new (C := RX1) (T := TX1) (index := 16) (fs := [.null, .null, .null, .int 0, .int 0, .int 0, .int 0, .null, .null, .int 0, .null, .int 0, .int 0, .int 0]) dX4_init_37 rfl (fun w h => List.mem_cons_of_mem _ (inX1 w h)) tyX1 tyX1_ok (List.mem_cons_of_mem _ mw_49) (List.mem_cons_of_mem _ mw_51) (List.mem_cons_of_mem _ mw_3) (by decide +kernel) (fun _ _ => rfl) (k_dup dX4_init_40 (k_callIN dX4_init_41 cX1_init_ct rfl (kv_goodC mw_54) mw_52 (List.mem_cons_of_mem _ mw_3) (List.mem_cons_of_mem _ mw_53) rfl (by decide +kernel) (by decide) (by decide) (k_aast (q := (RX1, TX1, 14)) dX4_init_44 rfl rfl (k_iinc dX4_init_45 (by decide +kernel) (by decide) (k_goto dX4_init_48 rfl (hK 26)))))))))
theorem nX4_init_32 : kv_cn (fun K => fX4_init_32 K) := cn_aload 0 (cn_getf 4 1 (cn_iload 1 (cn_new 1 14 [.null, .null, .null, .int 0, .int 0, .int 0, .int 0, .null, .null, .int 0, .null, .int 0, .int 0, .int 0] (cn_dup (cn_callI 0 mX1_init (cn_aast 2 1 (cn_iinc 1 1 ((cn_K 26)))))))))
def fX4_init_26 (K : Nat → kv_D) : kv_D := o_iload 1 (o_const 8 (o_icgt (fX4_init_51 K) (fX4_init_32 K)))
theorem sX4_init_26 {K : Nat → kv_D} (hK : ∀ pc, SX4_init pc (K pc)) : SX4_init 26 (fX4_init_26 K) := k_iload_n dX4_init_26 rfl (k_bipush dX4_init_27 (by decide +kernel) (k_icgt dX4_init_29 rfl (sX4_init_51 hK) (sX4_init_32 hK)))
theorem nX4_init_26 : kv_cn (fun K => fX4_init_26 K) := cn_iload 1 (cn_const 8 (cn_icgt nX4_init_51 nX4_init_32))
def fX4_init_0 (K : Nat → kv_D) : kv_D := o_aload 0 (o_obj (o_aload 0 (o_new 2 6 [.null, .int 0, .int 0, .null, .int 0, .int 0] (o_dup (o_callI 0 mX2_init (o_putf 4 0 (.object "CursorRewriter$Statement") (o_aload 0 (o_const 9 (o_newq 2 (o_putf 4 1 (.array (.object "CursorRewriter$Rule")) (o_const 0 (o_istore 1 ((K 26))))))))))))))
theorem sX4_init_0 {K : Nat → kv_D} (hK : ∀ pc, SX4_init pc (K pc)) : SX4_init 0 (fX4_init_0 K) := k_aload_n dX4_init_0 rfl (k_obj dX4_init_1 (List.mem_cons_of_mem _ mw_14) (List.mem_cons_of_mem _ mw_15) (List.mem_cons_of_mem _ mw_16) (by decide) (by decide) (k_aload_n dX4_init_4 rfl (k_new (C := RX2) (T := TX2) (index := 9) (fs := [.null, .int 0, .int 0, .null, .int 0, .int 0]) dX4_init_5 rfl (fun w h => List.mem_cons_of_mem _ (inX2 w h)) tyX2 tyX2_ok (List.mem_cons_of_mem _ mw_17) (List.mem_cons_of_mem _ mw_18) (List.mem_cons_of_mem _ mw_2) (by decide +kernel) (fun _ _ => rfl) (k_dup dX4_init_8 (k_callI dX4_init_9 cX2_init_ct rfl (kv_goodC mw_21) (List.mem_cons_of_mem _ mw_19) (List.mem_cons_of_mem _ mw_2) (List.mem_cons_of_mem _ mw_20) rfl (by decide +kernel) (by decide) (by decide) (k_putF (C := RX4) (T := TX4) (N := 8) (ci := 4) (index := 12) (kf := 0) (ty := (.object "CursorRewriter$Statement")) dX4_init_12 rfl (fun w h => List.mem_cons_of_mem _ (inX4 w h)) tyX4 tyX4_ok nmX4 (by decide) (List.mem_cons_of_mem _ mw_153) rfl rfl rfl rfl (k_aload_n dX4_init_15 rfl (k_bipush dX4_init_16 (by decide +kernel) (k_newq dX4_init_18 rfl (List.mem_cons_of_mem _ mw_49) mw_50 (k_putF (C := RX4) (T := TX4) (N := 8) (ci := 4) (index := 18) (kf := 1) (ty := (.array (.object "CursorRewriter$Rule"))) dX4_init_21 rfl (fun w h => List.mem_cons_of_mem _ (inX4 w h)) tyX4 tyX4_ok nmX4 (by decide) (List.mem_cons_of_mem _ mw_154) rfl rfl rfl rfl (k_iconst dX4_init_24 (by decide +kernel) (k_istore_n dX4_init_25 rfl (by decide) ((hK 26))))))))))))))
theorem nX4_init_0 : kv_cn (fun K => fX4_init_0 K) := cn_aload 0 (cn_obj (cn_aload 0 (cn_new 2 6 [.null, .int 0, .int 0, .null, .int 0, .int 0] (cn_dup (cn_callI 0 mX2_init (cn_putf 4 0 (.object "CursorRewriter$Statement") (cn_aload 0 (cn_const 9 (cn_newq 2 (cn_putf 4 1 (.array (.object "CursorRewriter$Rule")) (cn_const 0 (cn_istore 1 ((cn_K 26))))))))))))))
def bX4_init (K : Nat → kv_D) (pc : Nat) : kv_D := if pc = 26 then fX4_init_26 K else fun _ _ _ _ _ => False
theorem hX4_init : ∀ pc, SX4_init pc (kv_lim (bX4_init) pc) := kv_lim_S (fun K hK pc => by
  unfold bX4_init
  by_cases q26 : pc = 26
  · rw [if_pos q26, q26]
    exact sX4_init_26 hK
  rw [if_neg q26]
  exact kv_none)
theorem uX4_init_26 {L : List (Option Value)} {st : List Value} {h : kv_H} {v : Option Value} {h' : kv_H} (hx : fX4_init_26 (kv_lim (bX4_init)) L st h v h') : kv_lim (bX4_init) 26 L st h v h' := kv_un (q := 26) (by have e : (fun K => bX4_init K 26) = fun K => fX4_init_26 K := (by funext K; rfl); rw [e]; exact nX4_init_26) (by have e : bX4_init (kv_lim (bX4_init)) 26 = fX4_init_26 (kv_lim (bX4_init)) := rfl; rw [e]; exact hx)
def mX4_init : kv_M := kv_in 1 2 (fX4_init_0 (kv_lim (bX4_init)))
theorem cX4_init_ct : kv_CT yX4_init wX4_init 2 41 mX4_init := kv_met (by decide) rfl rfl (by decide) (fun _ => rfl) (sX4_init_0 (hX4_init))
-- X4_isCapital
def wX4_isCapital : List Cond := Cond.code yX4_isCapital cX4_isCapital 1 (some .boolean) :: kv_tb
abbrev SX4_isCapital (pc : Nat) (F : kv_D) : Prop := kv_S cX4_isCapital 1 RX4 wX4_isCapital (some .boolean) false 0 0 none pc F
def fX4_isCapital_17 : kv_D := o_iret .boolean
theorem sX4_isCapital_17 : SX4_isCapital 17 (fX4_isCapital_17) := k_iret dX4_isCapital_17 rfl
def fX4_isCapital_16 : kv_D := o_const 0 ((fX4_isCapital_17))
theorem sX4_isCapital_16 : SX4_isCapital 16 (fX4_isCapital_16) := k_iconst dX4_isCapital_16 (by decide +kernel) ((sX4_isCapital_17))
def fX4_isCapital_12 : kv_D := o_const 1 ((fX4_isCapital_17))
theorem sX4_isCapital_12 : SX4_isCapital 12 (fX4_isCapital_12) := k_iconst dX4_isCapital_12 (by decide +kernel) (k_goto dX4_isCapital_13 rfl (sX4_isCapital_17))
def fX4_isCapital_6 : kv_D := o_iload 0 (o_const 90 (o_icgt (fX4_isCapital_16) (fX4_isCapital_12)))
theorem sX4_isCapital_6 : SX4_isCapital 6 (fX4_isCapital_6) := k_iload_n dX4_isCapital_6 rfl (k_bipush dX4_isCapital_7 (by decide +kernel) (k_icgt dX4_isCapital_9 rfl (sX4_isCapital_16) (sX4_isCapital_12)))
def fX4_isCapital_0 : kv_D := o_iload 0 (o_const 65 (o_iclt (fX4_isCapital_16) (fX4_isCapital_6)))
theorem sX4_isCapital_0 : SX4_isCapital 0 (fX4_isCapital_0) := k_iload_n dX4_isCapital_0 rfl (k_bipush dX4_isCapital_1 (by decide +kernel) (k_iclt dX4_isCapital_3 rfl (sX4_isCapital_16) (sX4_isCapital_6)))
def mX4_isCapital : kv_M := kv_in 1 1 (fX4_isCapital_0)
theorem cX4_isCapital_ct : kv_CT yX4_isCapital wX4_isCapital 0 0 mX4_isCapital := kv_met (by decide) rfl rfl (by decide) (fun h => by cases h) (sX4_isCapital_0)
-- X2_looksLikeDefinition
def wX2_looksLikeDefinition : List Cond := Cond.code yX2_looksLikeDefinition cX2_looksLikeDefinition 1 (some .boolean) :: kv_tb
abbrev SX2_looksLikeDefinition (pc : Nat) (F : kv_D) : Prop := kv_S cX2_looksLikeDefinition 1 RX2 wX2_looksLikeDefinition (some .boolean) false 1 20 none pc F
def fX2_looksLikeDefinition_36 : kv_D := o_iret .boolean
theorem sX2_looksLikeDefinition_36 : SX2_looksLikeDefinition 36 (fX2_looksLikeDefinition_36) := k_iret dX2_looksLikeDefinition_36 rfl
def fX2_looksLikeDefinition_35 : kv_D := o_const 0 ((fX2_looksLikeDefinition_36))
theorem sX2_looksLikeDefinition_35 : SX2_looksLikeDefinition 35 (fX2_looksLikeDefinition_35) := k_iconst dX2_looksLikeDefinition_35 (by decide +kernel) ((sX2_looksLikeDefinition_36))
def fX2_looksLikeDefinition_31 : kv_D := o_const 1 ((fX2_looksLikeDefinition_36))
theorem sX2_looksLikeDefinition_31 : SX2_looksLikeDefinition 31 (fX2_looksLikeDefinition_31) := k_iconst dX2_looksLikeDefinition_31 (by decide +kernel) (k_goto dX2_looksLikeDefinition_32 rfl (sX2_looksLikeDefinition_36))
def fX2_looksLikeDefinition_20 : kv_D := o_aload 0 (o_getf 2 0 (o_const 1 (o_iald 1 (o_const 61 (o_icne (fX2_looksLikeDefinition_35) (fX2_looksLikeDefinition_31))))))
theorem sX2_looksLikeDefinition_20 : SX2_looksLikeDefinition 20 (fX2_looksLikeDefinition_20) := k_aload_n dX2_looksLikeDefinition_20 rfl (k_getf (C := RX2) (T := TX2) (N := 6) (ci := 2) (index := 9) (kf := 0) dX2_looksLikeDefinition_21 rfl (fun w h => List.mem_cons_of_mem _ (inX2 w h)) (by decide) (List.mem_cons_of_mem _ mw_27) (k_iconst dX2_looksLikeDefinition_24 (by decide +kernel) (k_cald dX2_looksLikeDefinition_25 rfl (k_bipush dX2_looksLikeDefinition_26 (by decide +kernel) (k_icne dX2_looksLikeDefinition_28 rfl (sX2_looksLikeDefinition_35) (sX2_looksLikeDefinition_31))))))
def fX2_looksLikeDefinition_8 : kv_D := o_aload 0 (o_getf 2 0 (o_const 0 (o_iald 1 (o_callS 1 mX4_isCapital (o_ifeq (fX2_looksLikeDefinition_35) (fX2_looksLikeDefinition_20))))))
theorem sX2_looksLikeDefinition_8 : SX2_looksLikeDefinition 8 (fX2_looksLikeDefinition_8) := k_aload_n dX2_looksLikeDefinition_8 rfl (k_getf (C := RX2) (T := TX2) (N := 6) (ci := 2) (index := 9) (kf := 0) dX2_looksLikeDefinition_9 rfl (fun w h => List.mem_cons_of_mem _ (inX2 w h)) (by decide) (List.mem_cons_of_mem _ mw_27) (k_iconst dX2_looksLikeDefinition_12 (by decide +kernel) (k_cald dX2_looksLikeDefinition_13 rfl (k_callSN dX2_looksLikeDefinition_14 cX4_isCapital_ct rfl (kv_goodC mw_188) mw_186 (List.mem_cons_of_mem _ mw_1) (List.mem_cons_of_mem _ mw_187) (by decide +kernel) (by decide) (by decide) (k_ifeq dX2_looksLikeDefinition_17 rfl (sX2_looksLikeDefinition_35) (sX2_looksLikeDefinition_20))))))
def fX2_looksLikeDefinition_0 : kv_D := o_aload 0 (o_getf 2 1 (o_const 2 (o_iclt (fX2_looksLikeDefinition_35) (fX2_looksLikeDefinition_8))))
theorem sX2_looksLikeDefinition_0 : SX2_looksLikeDefinition 0 (fX2_looksLikeDefinition_0) := k_aload_n dX2_looksLikeDefinition_0 rfl (k_getf (C := RX2) (T := TX2) (N := 6) (ci := 2) (index := 15) (kf := 1) dX2_looksLikeDefinition_1 rfl (fun w h => List.mem_cons_of_mem _ (inX2 w h)) (by decide) (List.mem_cons_of_mem _ mw_28) (k_iconst dX2_looksLikeDefinition_4 (by decide +kernel) (k_iclt dX2_looksLikeDefinition_5 rfl (sX2_looksLikeDefinition_35) (sX2_looksLikeDefinition_8))))
def mX2_looksLikeDefinition : kv_M := kv_in 1 1 (fX2_looksLikeDefinition_0)
theorem cX2_looksLikeDefinition_ct : kv_CT yX2_looksLikeDefinition wX2_looksLikeDefinition 1 20 mX2_looksLikeDefinition := kv_met (by decide) rfl rfl (by decide) (fun h => by cases h) (sX2_looksLikeDefinition_0)
-- X2_next
def wX2_next : List Cond := Cond.code yX2_next cX2_next 1 (some .char) :: kv_tb
abbrev SX2_next (pc : Nat) (F : kv_D) : Prop := kv_S cX2_next 1 RX2 wX2_next (some .char) false 0 0 none pc F
def fX2_next_24 : kv_D := o_iret .char
theorem sX2_next_24 : SX2_next 24 (fX2_next_24) := k_iret dX2_next_24 rfl
def fX2_next_23 : kv_D := o_const 0 ((fX2_next_24))
theorem sX2_next_23 : SX2_next 23 (fX2_next_23) := k_iconst dX2_next_23 (by decide +kernel) ((sX2_next_24))
def fX2_next_11 : kv_D := o_aload 0 (o_getf 2 0 (o_aload 0 (o_getf 2 2 (o_iald 1 ((fX2_next_24))))))
theorem sX2_next_11 : SX2_next 11 (fX2_next_11) := k_aload_n dX2_next_11 rfl (k_getf (C := RX2) (T := TX2) (N := 6) (ci := 2) (index := 9) (kf := 0) dX2_next_12 rfl (fun w h => List.mem_cons_of_mem _ (inX2 w h)) (by decide) (List.mem_cons_of_mem _ mw_27) (k_aload_n dX2_next_15 rfl (k_getf (C := RX2) (T := TX2) (N := 6) (ci := 2) (index := 19) (kf := 2) dX2_next_16 rfl (fun w h => List.mem_cons_of_mem _ (inX2 w h)) (by decide) (List.mem_cons_of_mem _ mw_29) (k_cald dX2_next_19 rfl (k_goto dX2_next_20 rfl (sX2_next_24))))))
def fX2_next_0 : kv_D := o_aload 0 (o_getf 2 2 (o_aload 0 (o_getf 2 1 (o_icge (fX2_next_23) (fX2_next_11)))))
theorem sX2_next_0 : SX2_next 0 (fX2_next_0) := k_aload_n dX2_next_0 rfl (k_getf (C := RX2) (T := TX2) (N := 6) (ci := 2) (index := 19) (kf := 2) dX2_next_1 rfl (fun w h => List.mem_cons_of_mem _ (inX2 w h)) (by decide) (List.mem_cons_of_mem _ mw_29) (k_aload_n dX2_next_4 rfl (k_getf (C := RX2) (T := TX2) (N := 6) (ci := 2) (index := 15) (kf := 1) dX2_next_5 rfl (fun w h => List.mem_cons_of_mem _ (inX2 w h)) (by decide) (List.mem_cons_of_mem _ mw_28) (k_icge dX2_next_8 rfl (sX2_next_23) (sX2_next_11)))))
def mX2_next : kv_M := kv_in 1 1 (fX2_next_0)
theorem cX2_next_ct : kv_CT yX2_next wX2_next 0 0 mX2_next := kv_met (by decide) rfl rfl (by decide) (fun h => by cases h) (sX2_next_0)
-- X4_isSmall
def wX4_isSmall : List Cond := Cond.code yX4_isSmall cX4_isSmall 1 (some .boolean) :: kv_tb
abbrev SX4_isSmall (pc : Nat) (F : kv_D) : Prop := kv_S cX4_isSmall 1 RX4 wX4_isSmall (some .boolean) false 0 0 none pc F
def fX4_isSmall_17 : kv_D := o_iret .boolean
theorem sX4_isSmall_17 : SX4_isSmall 17 (fX4_isSmall_17) := k_iret dX4_isSmall_17 rfl
def fX4_isSmall_16 : kv_D := o_const 0 ((fX4_isSmall_17))
theorem sX4_isSmall_16 : SX4_isSmall 16 (fX4_isSmall_16) := k_iconst dX4_isSmall_16 (by decide +kernel) ((sX4_isSmall_17))
def fX4_isSmall_12 : kv_D := o_const 1 ((fX4_isSmall_17))
theorem sX4_isSmall_12 : SX4_isSmall 12 (fX4_isSmall_12) := k_iconst dX4_isSmall_12 (by decide +kernel) (k_goto dX4_isSmall_13 rfl (sX4_isSmall_17))
def fX4_isSmall_6 : kv_D := o_iload 0 (o_const 122 (o_icgt (fX4_isSmall_16) (fX4_isSmall_12)))
theorem sX4_isSmall_6 : SX4_isSmall 6 (fX4_isSmall_6) := k_iload_n dX4_isSmall_6 rfl (k_bipush dX4_isSmall_7 (by decide +kernel) (k_icgt dX4_isSmall_9 rfl (sX4_isSmall_16) (sX4_isSmall_12)))
def fX4_isSmall_0 : kv_D := o_iload 0 (o_const 97 (o_iclt (fX4_isSmall_16) (fX4_isSmall_6)))
theorem sX4_isSmall_0 : SX4_isSmall 0 (fX4_isSmall_0) := k_iload_n dX4_isSmall_0 rfl (k_bipush dX4_isSmall_1 (by decide +kernel) (k_iclt dX4_isSmall_3 rfl (sX4_isSmall_16) (sX4_isSmall_6)))
def mX4_isSmall : kv_M := kv_in 1 1 (fX4_isSmall_0)
theorem cX4_isSmall_ct : kv_CT yX4_isSmall wX4_isSmall 0 0 mX4_isSmall := kv_met (by decide) rfl rfl (by decide) (fun h => by cases h) (sX4_isSmall_0)
-- X2_lettersFromTo
def wX2_lettersFromTo : List Cond := Cond.code yX2_lettersFromTo cX2_lettersFromTo 2 (some .int) :: kv_tb
abbrev SX2_lettersFromTo (pc : Nat) (F : kv_D) : Prop := kv_S cX2_lettersFromTo 2 RX2 wX2_lettersFromTo (some .int) false 0 0 none pc F
def fX2_lettersFromTo_0 : kv_D := o_const 1 (o_iload 1 (o_const 97 (o_isub (o_const 1 (o_iadd (o_ishl (o_const 1 (o_iload 0 (o_const 97 (o_isub (o_ishl (o_isub (o_iret .int)))))))))))))
theorem sX2_lettersFromTo_0 : SX2_lettersFromTo 0 (fX2_lettersFromTo_0) := k_iconst dX2_lettersFromTo_0 (by decide +kernel) (k_iload_n dX2_lettersFromTo_1 rfl (k_bipush dX2_lettersFromTo_2 (by decide +kernel) (k_isub dX2_lettersFromTo_4 (k_iconst dX2_lettersFromTo_5 (by decide +kernel) (k_iadd dX2_lettersFromTo_6 (k_ishl dX2_lettersFromTo_7 (k_iconst dX2_lettersFromTo_8 (by decide +kernel) (k_iload_n dX2_lettersFromTo_9 rfl (k_bipush dX2_lettersFromTo_10 (by decide +kernel) (k_isub dX2_lettersFromTo_12 (k_ishl dX2_lettersFromTo_13 (k_isub dX2_lettersFromTo_14 (k_iret dX2_lettersFromTo_15 rfl)))))))))))))
def mX2_lettersFromTo : kv_M := kv_in 2 2 (fX2_lettersFromTo_0)
theorem cX2_lettersFromTo_ct : kv_CT yX2_lettersFromTo wX2_lettersFromTo 0 0 mX2_lettersFromTo := kv_met (by decide) rfl rfl (by decide) (fun h => by cases h) (sX2_lettersFromTo_0)
-- X2_skip
def wX2_skip : List Cond := Cond.code yX2_skip cX2_skip 2 (some .boolean) :: kv_tb
abbrev SX2_skip (pc : Nat) (F : kv_D) : Prop := kv_S cX2_skip 2 RX2 wX2_skip (some .boolean) false 0 0 none pc F
def fX2_skip_26 : kv_D := o_aload 0 (o_dup (o_getf 2 2 (o_const 1 (o_iadd (o_putf 2 2 .int (o_const 1 (o_iret .boolean)))))))
theorem sX2_skip_26 : SX2_skip 26 (fX2_skip_26) := k_aload_n dX2_skip_26 rfl (k_dup dX2_skip_27 (k_getf (C := RX2) (T := TX2) (N := 6) (ci := 2) (index := 19) (kf := 2) dX2_skip_28 rfl (fun w h => List.mem_cons_of_mem _ (inX2 w h)) (by decide) (List.mem_cons_of_mem _ mw_29) (k_iconst dX2_skip_31 (by decide +kernel) (k_iadd dX2_skip_32 (k_putf (C := RX2) (T := TX2) (N := 6) (ci := 2) (index := 19) (kf := 2) (ty := .int) dX2_skip_33 rfl (fun w h => List.mem_cons_of_mem _ (inX2 w h)) tyX2 tyX2_ok nmX2 (by decide) (List.mem_cons_of_mem _ mw_29) rfl rfl (k_iconst dX2_skip_36 (by decide +kernel) (k_iret dX2_skip_37 rfl)))))))
def fX2_skip_24 : kv_D := o_const 0 (o_iret .boolean)
theorem sX2_skip_24 : SX2_skip 24 (fX2_skip_24) := k_iconst dX2_skip_24 (by decide +kernel) (k_iret dX2_skip_25 rfl)
def fX2_skip_11 : kv_D := o_aload 0 (o_getf 2 0 (o_aload 0 (o_getf 2 2 (o_iald 1 (o_iload 1 (o_iceq (fX2_skip_26) (fX2_skip_24)))))))
theorem sX2_skip_11 : SX2_skip 11 (fX2_skip_11) := k_aload_n dX2_skip_11 rfl (k_getf (C := RX2) (T := TX2) (N := 6) (ci := 2) (index := 9) (kf := 0) dX2_skip_12 rfl (fun w h => List.mem_cons_of_mem _ (inX2 w h)) (by decide) (List.mem_cons_of_mem _ mw_27) (k_aload_n dX2_skip_15 rfl (k_getf (C := RX2) (T := TX2) (N := 6) (ci := 2) (index := 19) (kf := 2) dX2_skip_16 rfl (fun w h => List.mem_cons_of_mem _ (inX2 w h)) (by decide) (List.mem_cons_of_mem _ mw_29) (k_cald dX2_skip_19 rfl (k_iload_n dX2_skip_20 rfl (k_iceq dX2_skip_21 rfl (sX2_skip_26) (sX2_skip_24)))))))
def fX2_skip_0 : kv_D := o_aload 0 (o_getf 2 2 (o_aload 0 (o_getf 2 1 (o_icge (fX2_skip_24) (fX2_skip_11)))))
theorem sX2_skip_0 : SX2_skip 0 (fX2_skip_0) := k_aload_n dX2_skip_0 rfl (k_getf (C := RX2) (T := TX2) (N := 6) (ci := 2) (index := 19) (kf := 2) dX2_skip_1 rfl (fun w h => List.mem_cons_of_mem _ (inX2 w h)) (by decide) (List.mem_cons_of_mem _ mw_29) (k_aload_n dX2_skip_4 rfl (k_getf (C := RX2) (T := TX2) (N := 6) (ci := 2) (index := 15) (kf := 1) dX2_skip_5 rfl (fun w h => List.mem_cons_of_mem _ (inX2 w h)) (by decide) (List.mem_cons_of_mem _ mw_28) (k_icge dX2_skip_8 rfl (sX2_skip_24) (sX2_skip_11)))))
def mX2_skip : kv_M := kv_in 2 2 (fX2_skip_0)
theorem cX2_skip_ct : kv_CT yX2_skip wX2_skip 0 0 mX2_skip := kv_met (by decide) rfl rfl (by decide) (fun h => by cases h) (sX2_skip_0)
