theorem dX2_readRule_103 : decode cX2_readRule 103 = .ok (.ireturn, 1) := by decide +kernel
theorem dX2_readRule_102 : decode cX2_readRule 102 = .ok (.iconst 0, 1) := by decide +kernel
theorem dX2_readRule_98 : decode cX2_readRule 98 = .ok (.iconst 1, 1) := by decide +kernel
theorem dX2_readRule_99 : decode cX2_readRule 99 = .ok (.goto 4, 3) := by decide +kernel
theorem dX2_readRule_90 : decode cX2_readRule 90 = .ok (.aload_n 0, 1) := by decide +kernel
theorem dX2_readRule_91 : decode cX2_readRule 91 = .ok (.aload_n 1, 1) := by decide +kernel
theorem dX2_readRule_92 : decode cX2_readRule 92 = .ok (.invokevirtual 68, 3) := by decide +kernel
theorem dX2_readRule_95 : decode cX2_readRule 95 = .ok (.ifCond .eq 7, 3) := by decide +kernel
theorem dX2_readRule_81 : decode cX2_readRule 81 = .ok (.aload_n 0, 1) := by decide +kernel
theorem dX2_readRule_82 : decode cX2_readRule 82 = .ok (.bipush 62, 2) := by decide +kernel
theorem dX2_readRule_84 : decode cX2_readRule 84 = .ok (.invokevirtual 51, 3) := by decide +kernel
theorem dX2_readRule_87 : decode cX2_readRule 87 = .ok (.ifCond .eq 15, 3) := by decide +kernel
theorem dX2_readRule_79 : decode cX2_readRule 79 = .ok (.iconst 0, 1) := by decide +kernel
theorem dX2_readRule_80 : decode cX2_readRule 80 = .ok (.ireturn, 1) := by decide +kernel
theorem dX2_readRule_71 : decode cX2_readRule 71 = .ok (.aload_n 0, 1) := by decide +kernel
theorem dX2_readRule_72 : decode cX2_readRule 72 = .ok (.aload_n 1, 1) := by decide +kernel
theorem dX2_readRule_73 : decode cX2_readRule 73 = .ok (.invokevirtual 47, 3) := by decide +kernel
theorem dX2_readRule_76 : decode cX2_readRule 76 = .ok (.ifCond .ne 5, 3) := by decide +kernel
theorem dX2_readRule_54 : decode cX2_readRule 54 = .ok (.aload_n 1, 1) := by decide +kernel
theorem dX2_readRule_55 : decode cX2_readRule 55 = .ok (.aload_n 1, 1) := by decide +kernel
theorem dX2_readRule_56 : decode cX2_readRule 56 = .ok (.getfield 54, 3) := by decide +kernel
theorem dX2_readRule_59 : decode cX2_readRule 59 = .ok (.putfield 65, 3) := by decide +kernel
theorem dX2_readRule_62 : decode cX2_readRule 62 = .ok (.aload_n 0, 1) := by decide +kernel
theorem dX2_readRule_63 : decode cX2_readRule 63 = .ok (.bipush 125, 2) := by decide +kernel
theorem dX2_readRule_65 : decode cX2_readRule 65 = .ok (.invokevirtual 51, 3) := by decide +kernel
theorem dX2_readRule_68 : decode cX2_readRule 68 = .ok (.ifCond .eq 13, 3) := by decide +kernel
theorem dX2_readRule_52 : decode cX2_readRule 52 = .ok (.iconst 0, 1) := by decide +kernel
theorem dX2_readRule_53 : decode cX2_readRule 53 = .ok (.ireturn, 1) := by decide +kernel
theorem dX2_readRule_36 : decode cX2_readRule 36 = .ok (.aload_n 1, 1) := by decide +kernel
theorem dX2_readRule_37 : decode cX2_readRule 37 = .ok (.aload_n 1, 1) := by decide +kernel
theorem dX2_readRule_38 : decode cX2_readRule 38 = .ok (.getfield 54, 3) := by decide +kernel
theorem dX2_readRule_41 : decode cX2_readRule 41 = .ok (.putfield 59, 3) := by decide +kernel
theorem dX2_readRule_44 : decode cX2_readRule 44 = .ok (.aload_n 0, 1) := by decide +kernel
theorem dX2_readRule_45 : decode cX2_readRule 45 = .ok (.aload_n 1, 1) := by decide +kernel
theorem dX2_readRule_46 : decode cX2_readRule 46 = .ok (.invokevirtual 62, 3) := by decide +kernel
theorem dX2_readRule_49 : decode cX2_readRule 49 = .ok (.ifCond .ne 5, 3) := by decide +kernel
theorem dX2_readRule_34 : decode cX2_readRule 34 = .ok (.iconst 0, 1) := by decide +kernel
theorem dX2_readRule_35 : decode cX2_readRule 35 = .ok (.ireturn, 1) := by decide +kernel
theorem dX2_readRule_25 : decode cX2_readRule 25 = .ok (.aload_n 0, 1) := by decide +kernel
theorem dX2_readRule_26 : decode cX2_readRule 26 = .ok (.bipush 123, 2) := by decide +kernel
theorem dX2_readRule_28 : decode cX2_readRule 28 = .ok (.invokevirtual 51, 3) := by decide +kernel
theorem dX2_readRule_31 : decode cX2_readRule 31 = .ok (.ifCond .ne 5, 3) := by decide +kernel
theorem dX2_readRule_17 : decode cX2_readRule 17 = .ok (.aload_n 0, 1) := by decide +kernel
theorem dX2_readRule_18 : decode cX2_readRule 18 = .ok (.aload_n 1, 1) := by decide +kernel
theorem dX2_readRule_19 : decode cX2_readRule 19 = .ok (.invokevirtual 47, 3) := by decide +kernel
theorem dX2_readRule_22 : decode cX2_readRule 22 = .ok (.ifCond .eq 12, 3) := by decide +kernel
theorem dX2_readRule_0 : decode cX2_readRule 0 = .ok (.aload_n 0, 1) := by decide +kernel
theorem dX2_readRule_1 : decode cX2_readRule 1 = .ok (.iconst 0, 1) := by decide +kernel
theorem dX2_readRule_2 : decode cX2_readRule 2 = .ok (.putfield 19, 3) := by decide +kernel
theorem dX2_readRule_5 : decode cX2_readRule 5 = .ok (.aload_n 0, 1) := by decide +kernel
theorem dX2_readRule_6 : decode cX2_readRule 6 = .ok (.iconst 0, 1) := by decide +kernel
theorem dX2_readRule_7 : decode cX2_readRule 7 = .ok (.putfield 29, 3) := by decide +kernel
theorem dX2_readRule_10 : decode cX2_readRule 10 = .ok (.aload_n 0, 1) := by decide +kernel
theorem dX2_readRule_11 : decode cX2_readRule 11 = .ok (.invokevirtual 44, 3) := by decide +kernel
theorem dX2_readRule_14 : decode cX2_readRule 14 = .ok (.ifCond .eq 22, 3) := by decide +kernel
theorem dX1_isTooLarge_31 : decode cX1_isTooLarge 31 = .ok (.ireturn, 1) := by decide +kernel
theorem dX1_isTooLarge_30 : decode cX1_isTooLarge 30 = .ok (.iconst 0, 1) := by decide +kernel
theorem dX1_isTooLarge_26 : decode cX1_isTooLarge 26 = .ok (.iconst 1, 1) := by decide +kernel
theorem dX1_isTooLarge_27 : decode cX1_isTooLarge 27 = .ok (.goto 4, 3) := by decide +kernel
theorem dX1_isTooLarge_17 : decode cX1_isTooLarge 17 = .ok (.aload_n 0, 1) := by decide +kernel
theorem dX1_isTooLarge_18 : decode cX1_isTooLarge 18 = .ok (.getfield 48, 3) := by decide +kernel
theorem dX1_isTooLarge_21 : decode cX1_isTooLarge 21 = .ok (.bipush 12, 2) := by decide +kernel
theorem dX1_isTooLarge_23 : decode cX1_isTooLarge 23 = .ok (.if_icmp .le 7, 3) := by decide +kernel
theorem dX1_isTooLarge_9 : decode cX1_isTooLarge 9 = .ok (.aload_n 0, 1) := by decide +kernel
theorem dX1_isTooLarge_10 : decode cX1_isTooLarge 10 = .ok (.getfield 41, 3) := by decide +kernel
theorem dX1_isTooLarge_13 : decode cX1_isTooLarge 13 = .ok (.iconst 3, 1) := by decide +kernel
theorem dX1_isTooLarge_14 : decode cX1_isTooLarge 14 = .ok (.if_icmp .gt 12, 3) := by decide +kernel
theorem dX1_isTooLarge_0 : decode cX1_isTooLarge 0 = .ok (.aload_n 0, 1) := by decide +kernel
theorem dX1_isTooLarge_1 : decode cX1_isTooLarge 1 = .ok (.getfield 21, 3) := by decide +kernel
theorem dX1_isTooLarge_4 : decode cX1_isTooLarge 4 = .ok (.bipush 12, 2) := by decide +kernel
theorem dX1_isTooLarge_6 : decode cX1_isTooLarge 6 = .ok (.if_icmp .gt 20, 3) := by decide +kernel
theorem dX1_masks_81 : decode cX1_masks 81 = .ok (.iconst 1, 1) := by decide +kernel
theorem dX1_masks_82 : decode cX1_masks 82 = .ok (.ireturn, 1) := by decide +kernel
theorem dX1_masks_75 : decode cX1_masks 75 = .ok (.iinc 3 1, 3) := by decide +kernel
theorem dX1_masks_78 : decode cX1_masks 78 = .ok (.goto (-33), 3) := by decide +kernel
theorem dX1_masks_73 : decode cX1_masks 73 = .ok (.iconst 0, 1) := by decide +kernel
theorem dX1_masks_74 : decode cX1_masks 74 = .ok (.ireturn, 1) := by decide +kernel
theorem dX1_masks_53 : decode cX1_masks 53 = .ok (.aload_n 1, 1) := by decide +kernel
theorem dX1_masks_54 : decode cX1_masks 54 = .ok (.getfield 9, 3) := by decide +kernel
theorem dX1_masks_57 : decode cX1_masks 57 = .ok (.iload_n 3, 1) := by decide +kernel
theorem dX1_masks_58 : decode cX1_masks 58 = .ok (.iload_n 2, 1) := by decide +kernel
theorem dX1_masks_59 : decode cX1_masks 59 = .ok (.iadd, 1) := by decide +kernel
theorem dX1_masks_60 : decode cX1_masks 60 = .ok (.iaload, 1) := by decide +kernel
theorem dX1_masks_61 : decode cX1_masks 61 = .ok (.aload_n 0, 1) := by decide +kernel
theorem dX1_masks_62 : decode cX1_masks 62 = .ok (.getfield 9, 3) := by decide +kernel
theorem dX1_masks_65 : decode cX1_masks 65 = .ok (.iload_n 3, 1) := by decide +kernel
theorem dX1_masks_66 : decode cX1_masks 66 = .ok (.iaload, 1) := by decide +kernel
theorem dX1_masks_67 : decode cX1_masks 67 = .ok (.iconst (-1), 1) := by decide +kernel
theorem dX1_masks_68 : decode cX1_masks 68 = .ok (.ixor, 1) := by decide +kernel
theorem dX1_masks_69 : decode cX1_masks 69 = .ok (.iand, 1) := by decide +kernel
theorem dX1_masks_70 : decode cX1_masks 70 = .ok (.ifCond .eq 5, 3) := by decide +kernel
theorem dX1_masks_45 : decode cX1_masks 45 = .ok (.iload_n 3, 1) := by decide +kernel
theorem dX1_masks_46 : decode cX1_masks 46 = .ok (.aload_n 0, 1) := by decide +kernel
theorem dX1_masks_47 : decode cX1_masks 47 = .ok (.getfield 21, 3) := by decide +kernel
theorem dX1_masks_50 : decode cX1_masks 50 = .ok (.if_icmp .ge 31, 3) := by decide +kernel
theorem dX1_masks_43 : decode cX1_masks 43 = .ok (.iconst 0, 1) := by decide +kernel
theorem dX1_masks_44 : decode cX1_masks 44 = .ok (.istore_n 3, 1) := by decide +kernel
theorem dX1_masks_41 : decode cX1_masks 41 = .ok (.iconst 0, 1) := by decide +kernel
theorem dX1_masks_42 : decode cX1_masks 42 = .ok (.ireturn, 1) := by decide +kernel
theorem dX1_masks_28 : decode cX1_masks 28 = .ok (.aload_n 0, 1) := by decide +kernel
theorem dX1_masks_29 : decode cX1_masks 29 = .ok (.getfield 21, 3) := by decide +kernel
theorem dX1_masks_32 : decode cX1_masks 32 = .ok (.iload_n 2, 1) := by decide +kernel
theorem dX1_masks_33 : decode cX1_masks 33 = .ok (.iadd, 1) := by decide +kernel
theorem dX1_masks_34 : decode cX1_masks 34 = .ok (.aload_n 1, 1) := by decide +kernel
theorem dX1_masks_35 : decode cX1_masks 35 = .ok (.getfield 21, 3) := by decide +kernel
theorem dX1_masks_38 : decode cX1_masks 38 = .ok (.if_icmp .le 5, 3) := by decide +kernel
theorem dX1_masks_24 : decode cX1_masks 24 = .ok (.iload_n 2, 1) := by decide +kernel
theorem dX1_masks_25 : decode cX1_masks 25 = .ok (.ifCond .lt 16, 3) := by decide +kernel
theorem dX1_masks_17 : decode cX1_masks 17 = .ok (.aload_n 1, 1) := by decide +kernel
theorem dX1_masks_18 : decode cX1_masks 18 = .ok (.getfield 31, 3) := by decide +kernel
theorem dX1_masks_21 : decode cX1_masks 21 = .ok (.ifCond .ne 20, 3) := by decide +kernel
theorem dX1_masks_0 : decode cX1_masks 0 = .ok (.aload_n 1, 1) := by decide +kernel
theorem dX1_masks_1 : decode cX1_masks 1 = .ok (.getfield 25, 3) := by decide +kernel
theorem dX1_masks_4 : decode cX1_masks 4 = .ok (.aload_n 0, 1) := by decide +kernel
theorem dX1_masks_5 : decode cX1_masks 5 = .ok (.getfield 25, 3) := by decide +kernel
theorem dX1_masks_8 : decode cX1_masks 8 = .ok (.isub, 1) := by decide +kernel
theorem dX1_masks_9 : decode cX1_masks 9 = .ok (.istore_n 2, 1) := by decide +kernel
theorem dX1_masks_10 : decode cX1_masks 10 = .ok (.aload_n 0, 1) := by decide +kernel
theorem dX1_masks_11 : decode cX1_masks 11 = .ok (.getfield 31, 3) := by decide +kernel
theorem dX1_masks_14 : decode cX1_masks 14 = .ok (.ifCond .ne 27, 3) := by decide +kernel
theorem dX4_isMasked_31 : decode cX4_isMasked 31 = .ok (.iconst 0, 1) := by decide +kernel
theorem dX4_isMasked_32 : decode cX4_isMasked 32 = .ok (.ireturn, 1) := by decide +kernel
theorem dX4_isMasked_25 : decode cX4_isMasked 25 = .ok (.iinc 2 1, 3) := by decide +kernel
theorem dX4_isMasked_28 : decode cX4_isMasked 28 = .ok (.goto (-26), 3) := by decide +kernel
theorem dX4_isMasked_23 : decode cX4_isMasked 23 = .ok (.iconst 1, 1) := by decide +kernel
theorem dX4_isMasked_24 : decode cX4_isMasked 24 = .ok (.ireturn, 1) := by decide +kernel
theorem dX4_isMasked_10 : decode cX4_isMasked 10 = .ok (.aload_n 0, 1) := by decide +kernel
theorem dX4_isMasked_11 : decode cX4_isMasked 11 = .ok (.getfield 18, 3) := by decide +kernel
theorem dX4_isMasked_14 : decode cX4_isMasked 14 = .ok (.iload_n 2, 1) := by decide +kernel
theorem dX4_isMasked_15 : decode cX4_isMasked 15 = .ok (.aaload, 1) := by decide +kernel
theorem dX4_isMasked_16 : decode cX4_isMasked 16 = .ok (.aload_n 1, 1) := by decide +kernel
theorem dX4_isMasked_17 : decode cX4_isMasked 17 = .ok (.invokevirtual 126, 3) := by decide +kernel
theorem dX4_isMasked_20 : decode cX4_isMasked 20 = .ok (.ifCond .eq 5, 3) := by decide +kernel
theorem dX4_isMasked_2 : decode cX4_isMasked 2 = .ok (.iload_n 2, 1) := by decide +kernel
theorem dX4_isMasked_3 : decode cX4_isMasked 3 = .ok (.aload_n 0, 1) := by decide +kernel
theorem dX4_isMasked_4 : decode cX4_isMasked 4 = .ok (.getfield 23, 3) := by decide +kernel
theorem dX4_isMasked_7 : decode cX4_isMasked 7 = .ok (.if_icmp .ge 24, 3) := by decide +kernel
theorem dX4_isMasked_0 : decode cX4_isMasked 0 = .ok (.iconst 0, 1) := by decide +kernel
theorem dX4_isMasked_1 : decode cX4_isMasked 1 = .ok (.istore_n 2, 1) := by decide +kernel
theorem dX4_endRule_84 : decode cX4_endRule 84 = .ok (.aload_n 0, 1) := by decide +kernel
theorem dX4_endRule_85 : decode cX4_endRule 85 = .ok (.dup, 1) := by decide +kernel
theorem dX4_endRule_86 : decode cX4_endRule 86 = .ok (.getfield 23, 3) := by decide +kernel
theorem dX4_endRule_89 : decode cX4_endRule 89 = .ok (.iconst 1, 1) := by decide +kernel
theorem dX4_endRule_90 : decode cX4_endRule 90 = .ok (.iadd, 1) := by decide +kernel
theorem dX4_endRule_91 : decode cX4_endRule 91 = .ok (.putfield 23, 3) := by decide +kernel
theorem dX4_endRule_94 : decode cX4_endRule 94 = .ok (.bipush 10, 2) := by decide +kernel
theorem dX4_endRule_96 : decode cX4_endRule 96 = .ok (.aload_n 0, 1) := by decide +kernel
theorem dX4_endRule_97 : decode cX4_endRule 97 = .ok (.getfield 23, 3) := by decide +kernel
theorem dX4_endRule_100 : decode cX4_endRule 100 = .ok (.iadd, 1) := by decide +kernel
theorem dX4_endRule_101 : decode cX4_endRule 101 = .ok (.iconst 1, 1) := by decide +kernel
theorem dX4_endRule_102 : decode cX4_endRule 102 = .ok (.isub, 1) := by decide +kernel
theorem dX4_endRule_103 : decode cX4_endRule 103 = .ok (.ireturn, 1) := by decide +kernel
theorem dX4_endRule_81 : decode cX4_endRule 81 = .ok (.bipush (-5), 2) := by decide +kernel
theorem dX4_endRule_83 : decode cX4_endRule 83 = .ok (.ireturn, 1) := by decide +kernel
theorem dX4_endRule_73 : decode cX4_endRule 73 = .ok (.aload_n 0, 1) := by decide +kernel
theorem dX4_endRule_74 : decode cX4_endRule 74 = .ok (.aload_n 1, 1) := by decide +kernel
theorem dX4_endRule_75 : decode cX4_endRule 75 = .ok (.invokevirtual 123, 3) := by decide +kernel
theorem dX4_endRule_78 : decode cX4_endRule 78 = .ok (.ifCond .eq 6, 3) := by decide +kernel
theorem dX4_endRule_70 : decode cX4_endRule 70 = .ok (.bipush (-4), 2) := by decide +kernel
theorem dX4_endRule_72 : decode cX4_endRule 72 = .ok (.ireturn, 1) := by decide +kernel
theorem dX4_endRule_63 : decode cX4_endRule 63 = .ok (.aload_n 1, 1) := by decide +kernel
theorem dX4_endRule_64 : decode cX4_endRule 64 = .ok (.invokevirtual 120, 3) := by decide +kernel
theorem dX4_endRule_67 : decode cX4_endRule 67 = .ok (.ifCond .eq 6, 3) := by decide +kernel
theorem dX4_endRule_54 : decode cX4_endRule 54 = .ok (.aload_n 0, 1) := by decide +kernel
theorem dX4_endRule_55 : decode cX4_endRule 55 = .ok (.getfield 23, 3) := by decide +kernel
theorem dX4_endRule_58 : decode cX4_endRule 58 = .ok (.bipush 8, 2) := by decide +kernel
theorem dX4_endRule_60 : decode cX4_endRule 60 = .ok (.if_icmp .ge 10, 3) := by decide +kernel
theorem dX4_endRule_51 : decode cX4_endRule 51 = .ok (.bipush (-3), 2) := by decide +kernel
theorem dX4_endRule_53 : decode cX4_endRule 53 = .ok (.ireturn, 1) := by decide +kernel
theorem dX4_endRule_40 : decode cX4_endRule 40 = .ok (.aload_n 1, 1) := by decide +kernel
theorem dX4_endRule_41 : decode cX4_endRule 41 = .ok (.getfield 114, 3) := by decide +kernel
theorem dX4_endRule_44 : decode cX4_endRule 44 = .ok (.aload_n 1, 1) := by decide +kernel
theorem dX4_endRule_45 : decode cX4_endRule 45 = .ok (.getfield 117, 3) := by decide +kernel
theorem dX4_endRule_48 : decode cX4_endRule 48 = .ok (.if_icmp .le 6, 3) := by decide +kernel
theorem dX4_endRule_37 : decode cX4_endRule 37 = .ok (.bipush (-2), 2) := by decide +kernel
theorem dX4_endRule_39 : decode cX4_endRule 39 = .ok (.ireturn, 1) := by decide +kernel
theorem dX4_endRule_27 : decode cX4_endRule 27 = .ok (.aload_n 0, 1) := by decide +kernel
theorem dX4_endRule_28 : decode cX4_endRule 28 = .ok (.getfield 12, 3) := by decide +kernel
theorem dX4_endRule_31 : decode cX4_endRule 31 = .ok (.getfield 103, 3) := by decide +kernel
theorem dX4_endRule_34 : decode cX4_endRule 34 = .ok (.ifCond .eq 6, 3) := by decide +kernel
theorem dX4_endRule_25 : decode cX4_endRule 25 = .ok (.iconst (-1), 1) := by decide +kernel
theorem dX4_endRule_26 : decode cX4_endRule 26 = .ok (.ireturn, 1) := by decide +kernel
theorem dX4_endRule_0 : decode cX4_endRule 0 = .ok (.aload_n 0, 1) := by decide +kernel
theorem dX4_endRule_1 : decode cX4_endRule 1 = .ok (.getfield 18, 3) := by decide +kernel
theorem dX4_endRule_4 : decode cX4_endRule 4 = .ok (.aload_n 0, 1) := by decide +kernel
theorem dX4_endRule_5 : decode cX4_endRule 5 = .ok (.getfield 23, 3) := by decide +kernel
theorem dX4_endRule_8 : decode cX4_endRule 8 = .ok (.aaload, 1) := by decide +kernel
theorem dX4_endRule_9 : decode cX4_endRule 9 = .ok (.astore_n 1, 1) := by decide +kernel
theorem dX4_endRule_10 : decode cX4_endRule 10 = .ok (.aload_n 1, 1) := by decide +kernel
theorem dX4_endRule_11 : decode cX4_endRule 11 = .ok (.invokevirtual 109, 3) := by decide +kernel
theorem dX4_endRule_14 : decode cX4_endRule 14 = .ok (.aload_n 0, 1) := by decide +kernel
theorem dX4_endRule_15 : decode cX4_endRule 15 = .ok (.getfield 12, 3) := by decide +kernel
theorem dX4_endRule_18 : decode cX4_endRule 18 = .ok (.aload_n 1, 1) := by decide +kernel
theorem dX4_endRule_19 : decode cX4_endRule 19 = .ok (.invokevirtual 110, 3) := by decide +kernel
theorem dX4_endRule_22 : decode cX4_endRule 22 = .ok (.ifCond .ne 5, 3) := by decide +kernel
theorem dX2_clear_0 : decode cX2_clear 0 = .ok (.aload_n 0, 1) := by decide +kernel
theorem dX2_clear_1 : decode cX2_clear 1 = .ok (.iconst 0, 1) := by decide +kernel
theorem dX2_clear_2 : decode cX2_clear 2 = .ok (.putfield 15, 3) := by decide +kernel
theorem dX2_clear_5 : decode cX2_clear 5 = .ok (.return_, 1) := by decide +kernel
theorem dX2_type_11 : decode cX2_type 11 = .ok (.aload_n 0, 1) := by decide +kernel
theorem dX2_type_12 : decode cX2_type 12 = .ok (.getfield 9, 3) := by decide +kernel
theorem dX2_type_15 : decode cX2_type 15 = .ok (.aload_n 0, 1) := by decide +kernel
theorem dX2_type_16 : decode cX2_type 16 = .ok (.getfield 15, 3) := by decide +kernel
theorem dX2_type_19 : decode cX2_type 19 = .ok (.iload_n 1, 1) := by decide +kernel
theorem dX2_type_20 : decode cX2_type 20 = .ok (.castore, 1) := by decide +kernel
theorem dX2_type_21 : decode cX2_type 21 = .ok (.aload_n 0, 1) := by decide +kernel
theorem dX2_type_22 : decode cX2_type 22 = .ok (.dup, 1) := by decide +kernel
theorem dX2_type_23 : decode cX2_type 23 = .ok (.getfield 15, 3) := by decide +kernel
theorem dX2_type_26 : decode cX2_type 26 = .ok (.iconst 1, 1) := by decide +kernel
theorem dX2_type_27 : decode cX2_type 27 = .ok (.iadd, 1) := by decide +kernel
theorem dX2_type_28 : decode cX2_type 28 = .ok (.putfield 15, 3) := by decide +kernel
theorem dX2_type_31 : decode cX2_type 31 = .ok (.iconst 1, 1) := by decide +kernel
theorem dX2_type_32 : decode cX2_type 32 = .ok (.ireturn, 1) := by decide +kernel
theorem dX2_type_9 : decode cX2_type 9 = .ok (.iconst 0, 1) := by decide +kernel
theorem dX2_type_10 : decode cX2_type 10 = .ok (.ireturn, 1) := by decide +kernel
theorem dX2_type_0 : decode cX2_type 0 = .ok (.aload_n 0, 1) := by decide +kernel
theorem dX2_type_1 : decode cX2_type 1 = .ok (.getfield 15, 3) := by decide +kernel
theorem dX2_type_4 : decode cX2_type 4 = .ok (.bipush 48, 2) := by decide +kernel
theorem dX2_type_6 : decode cX2_type 6 = .ok (.if_icmp .lt 5, 3) := by decide +kernel
theorem dX4_code_77 : decode cX4_code 77 = .ok (.ireturn, 1) := by decide +kernel
theorem dX4_code_75 : decode cX4_code 75 = .ok (.bipush (-6), 2) := by decide +kernel
theorem dX4_code_71 : decode cX4_code 71 = .ok (.iconst 0, 1) := by decide +kernel
theorem dX4_code_72 : decode cX4_code 72 = .ok (.goto 5, 3) := by decide +kernel
theorem dX4_code_60 : decode cX4_code 60 = .ok (.aload_n 0, 1) := by decide +kernel
theorem dX4_code_61 : decode cX4_code 61 = .ok (.getfield 12, 3) := by decide +kernel
theorem dX4_code_64 : decode cX4_code 64 = .ok (.iload_n 1, 1) := by decide +kernel
theorem dX4_code_65 : decode cX4_code 65 = .ok (.invokevirtual 65, 3) := by decide +kernel
theorem dX4_code_68 : decode cX4_code 68 = .ok (.ifCond .eq 7, 3) := by decide +kernel
theorem dX4_code_50 : decode cX4_code 50 = .ok (.istore_n 2, 1) := by decide +kernel
theorem dX4_code_51 : decode cX4_code 51 = .ok (.aload_n 0, 1) := by decide +kernel
theorem dX4_code_52 : decode cX4_code 52 = .ok (.getfield 12, 3) := by decide +kernel
theorem dX4_code_55 : decode cX4_code 55 = .ok (.invokevirtual 62, 3) := by decide +kernel
theorem dX4_code_58 : decode cX4_code 58 = .ok (.iload_n 2, 1) := by decide +kernel
theorem dX4_code_59 : decode cX4_code 59 = .ok (.ireturn, 1) := by decide +kernel
theorem dX4_code_46 : decode cX4_code 46 = .ok (.aload_n 0, 1) := by decide +kernel
theorem dX4_code_47 : decode cX4_code 47 = .ok (.invokevirtual 59, 3) := by decide +kernel
theorem dX4_code_39 : decode cX4_code 39 = .ok (.aload_n 0, 1) := by decide +kernel
theorem dX4_code_40 : decode cX4_code 40 = .ok (.invokevirtual 55, 3) := by decide +kernel
theorem dX4_code_43 : decode cX4_code 43 = .ok (.goto 7, 3) := by decide +kernel
theorem dX4_code_29 : decode cX4_code 29 = .ok (.aload_n 0, 1) := by decide +kernel
theorem dX4_code_30 : decode cX4_code 30 = .ok (.getfield 12, 3) := by decide +kernel
theorem dX4_code_33 : decode cX4_code 33 = .ok (.invokevirtual 51, 3) := by decide +kernel
theorem dX4_code_36 : decode cX4_code 36 = .ok (.ifCond .eq 10, 3) := by decide +kernel
theorem dX4_code_23 : decode cX4_code 23 = .ok (.iload_n 1, 1) := by decide +kernel
theorem dX4_code_24 : decode cX4_code 24 = .ok (.bipush 59, 2) := by decide +kernel
theorem dX4_code_26 : decode cX4_code 26 = .ok (.if_icmp .ne 34, 3) := by decide +kernel
theorem dX4_code_21 : decode cX4_code 21 = .ok (.iconst 0, 1) := by decide +kernel
theorem dX4_code_22 : decode cX4_code 22 = .ok (.ireturn, 1) := by decide +kernel
theorem dX4_code_15 : decode cX4_code 15 = .ok (.iload_n 1, 1) := by decide +kernel
theorem dX4_code_16 : decode cX4_code 16 = .ok (.bipush 32, 2) := by decide +kernel
theorem dX4_code_18 : decode cX4_code 18 = .ok (.if_icmp .ne 5, 3) := by decide +kernel
theorem dX4_code_12 : decode cX4_code 12 = .ok (.bipush (-6), 2) := by decide +kernel
theorem dX4_code_14 : decode cX4_code 14 = .ok (.ireturn, 1) := by decide +kernel
theorem dX4_code_6 : decode cX4_code 6 = .ok (.iload_n 1, 1) := by decide +kernel
theorem dX4_code_7 : decode cX4_code 7 = .ok (.bipush 126, 2) := by decide +kernel
theorem dX4_code_9 : decode cX4_code 9 = .ok (.if_icmp .le 6, 3) := by decide +kernel
theorem dX4_code_0 : decode cX4_code 0 = .ok (.iload_n 1, 1) := by decide +kernel
theorem dX4_code_1 : decode cX4_code 1 = .ok (.bipush 32, 2) := by decide +kernel
theorem dX4_code_3 : decode cX4_code 3 = .ok (.if_icmp .lt 9, 3) := by decide +kernel
theorem dX4_rules_0 : decode cX4_rules 0 = .ok (.aload_n 0, 1) := by decide +kernel
theorem dX4_rules_1 : decode cX4_rules 1 = .ok (.getfield 23, 3) := by decide +kernel
theorem dX4_rules_4 : decode cX4_rules 4 = .ok (.ireturn, 1) := by decide +kernel
theorem dX3_clear_0 : decode cX3_clear 0 = .ok (.aload_n 0, 1) := by decide +kernel
theorem dX3_clear_1 : decode cX3_clear 1 = .ok (.iconst 0, 1) := by decide +kernel
theorem dX3_clear_2 : decode cX3_clear 2 = .ok (.putfield 18, 3) := by decide +kernel
theorem dX3_clear_5 : decode cX3_clear 5 = .ok (.aload_n 0, 1) := by decide +kernel
theorem dX3_clear_6 : decode cX3_clear 6 = .ok (.iconst 0, 1) := by decide +kernel
theorem dX3_clear_7 : decode cX3_clear 7 = .ok (.putfield 22, 3) := by decide +kernel
theorem dX3_clear_10 : decode cX3_clear 10 = .ok (.return_, 1) := by decide +kernel
theorem dX4_restart_0 : decode cX4_restart 0 = .ok (.aload_n 0, 1) := by decide +kernel
theorem dX4_restart_1 : decode cX4_restart 1 = .ok (.getfield 30, 3) := by decide +kernel
theorem dX4_restart_4 : decode cX4_restart 4 = .ok (.invokevirtual 75, 3) := by decide +kernel
theorem dX4_restart_7 : decode cX4_restart 7 = .ok (.aload_n 0, 1) := by decide +kernel
theorem dX4_restart_8 : decode cX4_restart 8 = .ok (.iconst 0, 1) := by decide +kernel
theorem dX4_restart_9 : decode cX4_restart 9 = .ok (.putfield 41, 3) := by decide +kernel
theorem dX4_restart_12 : decode cX4_restart 12 = .ok (.aload_n 0, 1) := by decide +kernel
theorem dX4_restart_13 : decode cX4_restart 13 = .ok (.iconst (-1), 1) := by decide +kernel
theorem dX4_restart_14 : decode cX4_restart 14 = .ok (.putfield 44, 3) := by decide +kernel
theorem dX4_restart_17 : decode cX4_restart 17 = .ok (.aload_n 0, 1) := by decide +kernel
theorem dX4_restart_18 : decode cX4_restart 18 = .ok (.iconst 0, 1) := by decide +kernel
theorem dX4_restart_19 : decode cX4_restart 19 = .ok (.putfield 47, 3) := by decide +kernel
theorem dX4_restart_22 : decode cX4_restart 22 = .ok (.return_, 1) := by decide +kernel
theorem dX4_forget_0 : decode cX4_forget 0 = .ok (.aload_n 0, 1) := by decide +kernel
theorem dX4_forget_1 : decode cX4_forget 1 = .ok (.iconst 0, 1) := by decide +kernel
theorem dX4_forget_2 : decode cX4_forget 2 = .ok (.putfield 23, 3) := by decide +kernel
theorem dX4_forget_5 : decode cX4_forget 5 = .ok (.aload_n 0, 1) := by decide +kernel
theorem dX4_forget_6 : decode cX4_forget 6 = .ok (.getfield 12, 3) := by decide +kernel
theorem dX4_forget_9 : decode cX4_forget 9 = .ok (.invokevirtual 62, 3) := by decide +kernel
theorem dX4_forget_12 : decode cX4_forget 12 = .ok (.aload_n 0, 1) := by decide +kernel
theorem dX4_forget_13 : decode cX4_forget 13 = .ok (.getfield 12, 3) := by decide +kernel
theorem dX4_forget_16 : decode cX4_forget 16 = .ok (.invokevirtual 69, 3) := by decide +kernel
theorem dX4_forget_19 : decode cX4_forget 19 = .ok (.aload_n 0, 1) := by decide +kernel
theorem dX4_forget_20 : decode cX4_forget 20 = .ok (.invokevirtual 72, 3) := by decide +kernel
theorem dX4_forget_23 : decode cX4_forget 23 = .ok (.return_, 1) := by decide +kernel
-- X2_readRule
def wX2_readRule : List Cond := Cond.code yX2_readRule cX2_readRule 2 (some .boolean) :: kv_tb
abbrev SX2_readRule (pc : Nat) (F : kv_D) : Prop := kv_S cX2_readRule 2 RX2 wX2_readRule (some .boolean) false 4 91 none pc F
def fX2_readRule_103 : kv_D := o_iret .boolean
theorem sX2_readRule_103 : SX2_readRule 103 (fX2_readRule_103) := k_iret dX2_readRule_103 rfl
def fX2_readRule_102 : kv_D := o_const 0 ((fX2_readRule_103))
theorem sX2_readRule_102 : SX2_readRule 102 (fX2_readRule_102) := k_iconst dX2_readRule_102 (by decide +kernel) ((sX2_readRule_103))
def fX2_readRule_98 : kv_D := o_const 1 ((fX2_readRule_103))
theorem sX2_readRule_98 : SX2_readRule 98 (fX2_readRule_98) := k_iconst dX2_readRule_98 (by decide +kernel) (k_goto dX2_readRule_99 rfl (sX2_readRule_103))
def fX2_readRule_90 : kv_D := o_aload 0 (o_aload 1 (o_callV 2 1 mX2_readReplacement (o_ifeq (fX2_readRule_102) (fX2_readRule_98))))
theorem sX2_readRule_90 : SX2_readRule 90 (fX2_readRule_90) := k_aload_n dX2_readRule_90 rfl (k_aload_n dX2_readRule_91 rfl (k_callV (q := (RX2, TX2, 6)) dX2_readRule_92 cX2_readReplacement_ct rfl (kv_goodV mw_263 mw_265 sel_X2_readReplacement mw_2 mw_266) (by decide +kernel) rfl (by decide) (by decide) (k_ifeq dX2_readRule_95 rfl (sX2_readRule_102) (sX2_readRule_98))))
def fX2_readRule_81 : kv_D := o_aload 0 (o_const 62 (o_callV 2 1 mX2_skip (o_ifeq (fX2_readRule_102) (fX2_readRule_90))))
theorem sX2_readRule_81 : SX2_readRule 81 (fX2_readRule_81) := k_aload_n dX2_readRule_81 rfl (k_bipush dX2_readRule_82 (by decide +kernel) (k_callV (q := (RX2, TX2, 6)) dX2_readRule_84 cX2_skip_ct rfl (kv_goodV mw_216 mw_218 sel_X2_skip mw_2 mw_219) (by decide +kernel) rfl (by decide) (by decide) (k_ifeq dX2_readRule_87 rfl (sX2_readRule_102) (sX2_readRule_90))))
def fX2_readRule_79 : kv_D := o_const 0 (o_iret .boolean)
theorem sX2_readRule_79 : SX2_readRule 79 (fX2_readRule_79) := k_iconst dX2_readRule_79 (by decide +kernel) (k_iret dX2_readRule_80 rfl)
def fX2_readRule_71 : kv_D := o_aload 0 (o_aload 1 (o_callV 2 1 mX2_readContext (o_ifne (fX2_readRule_81) (fX2_readRule_79))))
theorem sX2_readRule_71 : SX2_readRule 71 (fX2_readRule_71) := k_aload_n dX2_readRule_71 rfl (k_aload_n dX2_readRule_72 rfl (k_callV (q := (RX2, TX2, 6)) dX2_readRule_73 cX2_readContext_ct rfl (kv_goodV mw_240 mw_242 sel_X2_readContext mw_2 mw_243) (by decide +kernel) rfl (by decide) (by decide) (k_ifne dX2_readRule_76 rfl (sX2_readRule_81) (sX2_readRule_79))))
def fX2_readRule_54 : kv_D := o_aload 1 (o_aload 1 (o_getf 1 3 (o_putf 1 5 .int (o_aload 0 (o_const 125 (o_callV 2 1 mX2_skip (o_ifeq (fX2_readRule_81) (fX2_readRule_71))))))))
theorem sX2_readRule_54 : SX2_readRule 54 (fX2_readRule_54) := k_aload_n dX2_readRule_54 rfl (k_aload_n dX2_readRule_55 rfl (k_getN (C := RX1) (T := TX1) (N := 14) (ci := 1) (index := 54) (kf := 3) dX2_readRule_56 rfl (fun w h => List.mem_cons_of_mem _ (inX1 w h)) (by decide) mw_64 (k_putN (C := RX1) (T := TX1) (N := 14) (ci := 1) (index := 65) (kf := 5) (ty := .int) dX2_readRule_59 rfl (fun w h => List.mem_cons_of_mem _ (inX1 w h)) tyX1 tyX1_ok nmX1 (by decide) mw_71 rfl rfl (k_aload_n dX2_readRule_62 rfl (k_bipush dX2_readRule_63 (by decide +kernel) (k_callV (q := (RX2, TX2, 6)) dX2_readRule_65 cX2_skip_ct rfl (kv_goodV mw_216 mw_218 sel_X2_skip mw_2 mw_219) (by decide +kernel) rfl (by decide) (by decide) (k_ifeq dX2_readRule_68 rfl (sX2_readRule_81) (sX2_readRule_71))))))))
def fX2_readRule_52 : kv_D := o_const 0 (o_iret .boolean)
theorem sX2_readRule_52 : SX2_readRule 52 (fX2_readRule_52) := k_iconst dX2_readRule_52 (by decide +kernel) (k_iret dX2_readRule_53 rfl)
def fX2_readRule_36 : kv_D := o_aload 1 (o_aload 1 (o_getf 1 3 (o_putf 1 4 .int (o_aload 0 (o_aload 1 (o_callV 2 1 mX2_readKey (o_ifne (fX2_readRule_54) (fX2_readRule_52))))))))
theorem sX2_readRule_36 : SX2_readRule 36 (fX2_readRule_36) := k_aload_n dX2_readRule_36 rfl (k_aload_n dX2_readRule_37 rfl (k_getN (C := RX1) (T := TX1) (N := 14) (ci := 1) (index := 54) (kf := 3) dX2_readRule_38 rfl (fun w h => List.mem_cons_of_mem _ (inX1 w h)) (by decide) mw_64 (k_putN (C := RX1) (T := TX1) (N := 14) (ci := 1) (index := 59) (kf := 4) (ty := .int) dX2_readRule_41 rfl (fun w h => List.mem_cons_of_mem _ (inX1 w h)) tyX1 tyX1_ok nmX1 (by decide) mw_67 rfl rfl (k_aload_n dX2_readRule_44 rfl (k_aload_n dX2_readRule_45 rfl (k_callV (q := (RX2, TX2, 6)) dX2_readRule_46 cX2_readKey_ct rfl (kv_goodV mw_255 mw_257 sel_X2_readKey mw_2 mw_258) (by decide +kernel) rfl (by decide) (by decide) (k_ifne dX2_readRule_49 rfl (sX2_readRule_54) (sX2_readRule_52))))))))
def fX2_readRule_34 : kv_D := o_const 0 (o_iret .boolean)
theorem sX2_readRule_34 : SX2_readRule 34 (fX2_readRule_34) := k_iconst dX2_readRule_34 (by decide +kernel) (k_iret dX2_readRule_35 rfl)
def fX2_readRule_25 : kv_D := o_aload 0 (o_const 123 (o_callV 2 1 mX2_skip (o_ifne (fX2_readRule_36) (fX2_readRule_34))))
theorem sX2_readRule_25 : SX2_readRule 25 (fX2_readRule_25) := k_aload_n dX2_readRule_25 rfl (k_bipush dX2_readRule_26 (by decide +kernel) (k_callV (q := (RX2, TX2, 6)) dX2_readRule_28 cX2_skip_ct rfl (kv_goodV mw_216 mw_218 sel_X2_skip mw_2 mw_219) (by decide +kernel) rfl (by decide) (by decide) (k_ifne dX2_readRule_31 rfl (sX2_readRule_36) (sX2_readRule_34))))
def fX2_readRule_17 : kv_D := o_aload 0 (o_aload 1 (o_callV 2 1 mX2_readContext (o_ifeq (fX2_readRule_34) (fX2_readRule_25))))
theorem sX2_readRule_17 : SX2_readRule 17 (fX2_readRule_17) := k_aload_n dX2_readRule_17 rfl (k_aload_n dX2_readRule_18 rfl (k_callV (q := (RX2, TX2, 6)) dX2_readRule_19 cX2_readContext_ct rfl (kv_goodV mw_240 mw_242 sel_X2_readContext mw_2 mw_243) (by decide +kernel) rfl (by decide) (by decide) (k_ifeq dX2_readRule_22 rfl (sX2_readRule_34) (sX2_readRule_25))))
def fX2_readRule_0 : kv_D := o_aload 0 (o_const 0 (o_putf 2 2 .int (o_aload 0 (o_const 0 (o_putf 2 5 .boolean (o_aload 0 (o_callV 2 0 mX2_hasOpeningBrace (o_ifeq (fX2_readRule_36) (fX2_readRule_17)))))))))
theorem sX2_readRule_0 : SX2_readRule 0 (fX2_readRule_0) := k_aload_n dX2_readRule_0 rfl (k_iconst dX2_readRule_1 (by decide +kernel) (k_putf (C := RX2) (T := TX2) (N := 6) (ci := 2) (index := 19) (kf := 2) (ty := .int) dX2_readRule_2 rfl (fun w h => List.mem_cons_of_mem _ (inX2 w h)) tyX2 tyX2_ok nmX2 (by decide) (List.mem_cons_of_mem _ mw_29) rfl rfl (k_aload_n dX2_readRule_5 rfl (k_iconst dX2_readRule_6 (by decide +kernel) (k_putf (C := RX2) (T := TX2) (N := 6) (ci := 2) (index := 29) (kf := 5) (ty := .boolean) dX2_readRule_7 rfl (fun w h => List.mem_cons_of_mem _ (inX2 w h)) tyX2 tyX2_ok nmX2 (by decide) (List.mem_cons_of_mem _ mw_32) rfl rfl (k_aload_n dX2_readRule_10 rfl (k_callV (q := (RX2, TX2, 6)) dX2_readRule_11 cX2_hasOpeningBrace_ct rfl (kv_goodV mw_236 mw_238 sel_X2_hasOpeningBrace mw_2 mw_239) (by decide +kernel) rfl (by decide) (by decide) (k_ifeq dX2_readRule_14 rfl (sX2_readRule_36) (sX2_readRule_17)))))))))
def mX2_readRule : kv_M := kv_in 2 2 (fX2_readRule_0)
theorem cX2_readRule_ct : kv_CT yX2_readRule wX2_readRule 4 91 mX2_readRule := kv_met (by decide) rfl rfl (by decide) (fun h => by cases h) (sX2_readRule_0)
-- X1_isTooLarge
def wX1_isTooLarge : List Cond := Cond.code yX1_isTooLarge cX1_isTooLarge 1 (some .boolean) :: kv_tb
abbrev SX1_isTooLarge (pc : Nat) (F : kv_D) : Prop := kv_S cX1_isTooLarge 1 RX1 wX1_isTooLarge (some .boolean) false 0 0 none pc F
def fX1_isTooLarge_31 : kv_D := o_iret .boolean
theorem sX1_isTooLarge_31 : SX1_isTooLarge 31 (fX1_isTooLarge_31) := k_iret dX1_isTooLarge_31 rfl
def fX1_isTooLarge_30 : kv_D := o_const 0 ((fX1_isTooLarge_31))
theorem sX1_isTooLarge_30 : SX1_isTooLarge 30 (fX1_isTooLarge_30) := k_iconst dX1_isTooLarge_30 (by decide +kernel) ((sX1_isTooLarge_31))
def fX1_isTooLarge_26 : kv_D := o_const 1 ((fX1_isTooLarge_31))
theorem sX1_isTooLarge_26 : SX1_isTooLarge 26 (fX1_isTooLarge_26) := k_iconst dX1_isTooLarge_26 (by decide +kernel) (k_goto dX1_isTooLarge_27 rfl (sX1_isTooLarge_31))
def fX1_isTooLarge_17 : kv_D := o_aload 0 (o_getf 1 11 (o_const 12 (o_icle (fX1_isTooLarge_30) (fX1_isTooLarge_26))))
theorem sX1_isTooLarge_17 : SX1_isTooLarge 17 (fX1_isTooLarge_17) := k_aload_n dX1_isTooLarge_17 rfl (k_getf (C := RX1) (T := TX1) (N := 14) (ci := 1) (index := 48) (kf := 11) dX1_isTooLarge_18 rfl (fun w h => List.mem_cons_of_mem _ (inX1 w h)) (by decide) (List.mem_cons_of_mem _ mw_81) (k_bipush dX1_isTooLarge_21 (by decide +kernel) (k_icle dX1_isTooLarge_23 rfl (sX1_isTooLarge_30) (sX1_isTooLarge_26))))
def fX1_isTooLarge_9 : kv_D := o_aload 0 (o_getf 1 9 (o_const 3 (o_icgt (fX1_isTooLarge_26) (fX1_isTooLarge_17))))
theorem sX1_isTooLarge_9 : SX1_isTooLarge 9 (fX1_isTooLarge_9) := k_aload_n dX1_isTooLarge_9 rfl (k_getf (C := RX1) (T := TX1) (N := 14) (ci := 1) (index := 41) (kf := 9) dX1_isTooLarge_10 rfl (fun w h => List.mem_cons_of_mem _ (inX1 w h)) (by decide) (List.mem_cons_of_mem _ mw_77) (k_iconst dX1_isTooLarge_13 (by decide +kernel) (k_icgt dX1_isTooLarge_14 rfl (sX1_isTooLarge_26) (sX1_isTooLarge_17))))
def fX1_isTooLarge_0 : kv_D := o_aload 0 (o_getf 1 3 (o_const 12 (o_icgt (fX1_isTooLarge_26) (fX1_isTooLarge_9))))
theorem sX1_isTooLarge_0 : SX1_isTooLarge 0 (fX1_isTooLarge_0) := k_aload_n dX1_isTooLarge_0 rfl (k_getf (C := RX1) (T := TX1) (N := 14) (ci := 1) (index := 21) (kf := 3) dX1_isTooLarge_1 rfl (fun w h => List.mem_cons_of_mem _ (inX1 w h)) (by decide) (List.mem_cons_of_mem _ mw_62) (k_bipush dX1_isTooLarge_4 (by decide +kernel) (k_icgt dX1_isTooLarge_6 rfl (sX1_isTooLarge_26) (sX1_isTooLarge_9))))
def mX1_isTooLarge : kv_M := kv_in 1 1 (fX1_isTooLarge_0)
theorem cX1_isTooLarge_ct : kv_CT yX1_isTooLarge wX1_isTooLarge 0 0 mX1_isTooLarge := kv_met (by decide) rfl rfl (by decide) (fun h => by cases h) (sX1_isTooLarge_0)
-- X1_masks
def wX1_masks : List Cond := Cond.code yX1_masks cX1_masks 4 (some .boolean) :: kv_tb
abbrev SX1_masks (pc : Nat) (F : kv_D) : Prop := kv_S cX1_masks 4 RX1 wX1_masks (some .boolean) false 0 0 none pc F
def fX1_masks_81 (K : Nat → kv_D) : kv_D := o_const 1 (o_iret .boolean)
theorem sX1_masks_81 {K : Nat → kv_D} (hK : ∀ pc, SX1_masks pc (K pc)) : SX1_masks 81 (fX1_masks_81 K) := k_iconst dX1_masks_81 (by decide +kernel) (k_iret dX1_masks_82 rfl)
theorem nX1_masks_81 : kv_cn (fun K => fX1_masks_81 K) := cn_const 1 (cn_c _)
def fX1_masks_75 (K : Nat → kv_D) : kv_D := o_iinc 3 1 ((K 45))
theorem sX1_masks_75 {K : Nat → kv_D} (hK : ∀ pc, SX1_masks pc (K pc)) : SX1_masks 75 (fX1_masks_75 K) := k_iinc dX1_masks_75 (by decide +kernel) (by decide) (k_goto dX1_masks_78 rfl (hK 45))
theorem nX1_masks_75 : kv_cn (fun K => fX1_masks_75 K) := cn_iinc 3 1 ((cn_K 45))
def fX1_masks_73 (K : Nat → kv_D) : kv_D := o_const 0 (o_iret .boolean)
theorem sX1_masks_73 {K : Nat → kv_D} (hK : ∀ pc, SX1_masks pc (K pc)) : SX1_masks 73 (fX1_masks_73 K) := k_iconst dX1_masks_73 (by decide +kernel) (k_iret dX1_masks_74 rfl)
theorem nX1_masks_73 : kv_cn (fun K => fX1_masks_73 K) := cn_const 0 (cn_c _)
def fX1_masks_53 (K : Nat → kv_D) : kv_D := o_aload 1 (o_getf 1 0 (o_iload 3 (o_iload 2 (o_iadd (o_iald 0 (o_aload 0 (o_getf 1 0 (o_iload 3 (o_iald 0 (o_const (-1) (o_ixor (o_iand (o_ifeq (fX1_masks_75 K) (fX1_masks_73 K))))))))))))))
theorem sX1_masks_53 {K : Nat → kv_D} (hK : ∀ pc, SX1_masks pc (K pc)) : SX1_masks 53 (fX1_masks_53 K) := k_aload_n dX1_masks_53 rfl (k_getf (C := RX1) (T := TX1) (N := 14) (ci := 1) (index := 9) (kf := 0) dX1_masks_54 rfl (fun w h => List.mem_cons_of_mem _ (inX1 w h)) (by decide) (List.mem_cons_of_mem _ mw_56) (k_iload_n dX1_masks_57 rfl (k_iload_n dX1_masks_58 rfl (k_iadd dX1_masks_59 (k_iald dX1_masks_60 rfl (k_aload_n dX1_masks_61 rfl (k_getf (C := RX1) (T := TX1) (N := 14) (ci := 1) (index := 9) (kf := 0) dX1_masks_62 rfl (fun w h => List.mem_cons_of_mem _ (inX1 w h)) (by decide) (List.mem_cons_of_mem _ mw_56) (k_iload_n dX1_masks_65 rfl (k_iald dX1_masks_66 rfl (k_iconst dX1_masks_67 (by decide +kernel) (k_ixor dX1_masks_68 (k_iand dX1_masks_69 (k_ifeq dX1_masks_70 rfl (sX1_masks_75 hK) (sX1_masks_73 hK))))))))))))))
theorem nX1_masks_53 : kv_cn (fun K => fX1_masks_53 K) := cn_aload 1 (cn_getf 1 0 (cn_iload 3 (cn_iload 2 (cn_iadd (cn_iald 0 (cn_aload 0 (cn_getf 1 0 (cn_iload 3 (cn_iald 0 (cn_const (-1) (cn_ixor (cn_iand (cn_ifeq nX1_masks_75 nX1_masks_73)))))))))))))
def fX1_masks_45 (K : Nat → kv_D) : kv_D := o_iload 3 (o_aload 0 (o_getf 1 3 (o_icge (fX1_masks_81 K) (fX1_masks_53 K))))
theorem sX1_masks_45 {K : Nat → kv_D} (hK : ∀ pc, SX1_masks pc (K pc)) : SX1_masks 45 (fX1_masks_45 K) := k_iload_n dX1_masks_45 rfl (k_aload_n dX1_masks_46 rfl (k_getf (C := RX1) (T := TX1) (N := 14) (ci := 1) (index := 21) (kf := 3) dX1_masks_47 rfl (fun w h => List.mem_cons_of_mem _ (inX1 w h)) (by decide) (List.mem_cons_of_mem _ mw_62) (k_icge dX1_masks_50 rfl (sX1_masks_81 hK) (sX1_masks_53 hK))))
theorem nX1_masks_45 : kv_cn (fun K => fX1_masks_45 K) := cn_iload 3 (cn_aload 0 (cn_getf 1 3 (cn_icge nX1_masks_81 nX1_masks_53)))
def fX1_masks_43 (K : Nat → kv_D) : kv_D := o_const 0 (o_istore 3 ((K 45)))
theorem sX1_masks_43 {K : Nat → kv_D} (hK : ∀ pc, SX1_masks pc (K pc)) : SX1_masks 43 (fX1_masks_43 K) := k_iconst dX1_masks_43 (by decide +kernel) (k_istore_n dX1_masks_44 rfl (by decide) ((hK 45)))
theorem nX1_masks_43 : kv_cn (fun K => fX1_masks_43 K) := cn_const 0 (cn_istore 3 ((cn_K 45)))
def fX1_masks_41 (K : Nat → kv_D) : kv_D := o_const 0 (o_iret .boolean)
theorem sX1_masks_41 {K : Nat → kv_D} (hK : ∀ pc, SX1_masks pc (K pc)) : SX1_masks 41 (fX1_masks_41 K) := k_iconst dX1_masks_41 (by decide +kernel) (k_iret dX1_masks_42 rfl)
theorem nX1_masks_41 : kv_cn (fun K => fX1_masks_41 K) := cn_const 0 (cn_c _)
def fX1_masks_28 (K : Nat → kv_D) : kv_D := o_aload 0 (o_getf 1 3 (o_iload 2 (o_iadd (o_aload 1 (o_getf 1 3 (o_icle (fX1_masks_43 K) (fX1_masks_41 K)))))))
theorem sX1_masks_28 {K : Nat → kv_D} (hK : ∀ pc, SX1_masks pc (K pc)) : SX1_masks 28 (fX1_masks_28 K) := k_aload_n dX1_masks_28 rfl (k_getf (C := RX1) (T := TX1) (N := 14) (ci := 1) (index := 21) (kf := 3) dX1_masks_29 rfl (fun w h => List.mem_cons_of_mem _ (inX1 w h)) (by decide) (List.mem_cons_of_mem _ mw_62) (k_iload_n dX1_masks_32 rfl (k_iadd dX1_masks_33 (k_aload_n dX1_masks_34 rfl (k_getf (C := RX1) (T := TX1) (N := 14) (ci := 1) (index := 21) (kf := 3) dX1_masks_35 rfl (fun w h => List.mem_cons_of_mem _ (inX1 w h)) (by decide) (List.mem_cons_of_mem _ mw_62) (k_icle dX1_masks_38 rfl (sX1_masks_43 hK) (sX1_masks_41 hK)))))))
theorem nX1_masks_28 : kv_cn (fun K => fX1_masks_28 K) := cn_aload 0 (cn_getf 1 3 (cn_iload 2 (cn_iadd (cn_aload 1 (cn_getf 1 3 (cn_icle nX1_masks_43 nX1_masks_41))))))
def fX1_masks_24 (K : Nat → kv_D) : kv_D := o_iload 2 (o_iflt (fX1_masks_41 K) (fX1_masks_28 K))
theorem sX1_masks_24 {K : Nat → kv_D} (hK : ∀ pc, SX1_masks pc (K pc)) : SX1_masks 24 (fX1_masks_24 K) := k_iload_n dX1_masks_24 rfl (k_iflt dX1_masks_25 rfl (sX1_masks_41 hK) (sX1_masks_28 hK))
theorem nX1_masks_24 : kv_cn (fun K => fX1_masks_24 K) := cn_iload 2 (cn_iflt nX1_masks_41 nX1_masks_28)
def fX1_masks_17 (K : Nat → kv_D) : kv_D := o_aload 1 (o_getf 1 6 (o_ifne (fX1_masks_41 K) (fX1_masks_24 K)))
theorem sX1_masks_17 {K : Nat → kv_D} (hK : ∀ pc, SX1_masks pc (K pc)) : SX1_masks 17 (fX1_masks_17 K) := k_aload_n dX1_masks_17 rfl (k_getf (C := RX1) (T := TX1) (N := 14) (ci := 1) (index := 31) (kf := 6) dX1_masks_18 rfl (fun w h => List.mem_cons_of_mem _ (inX1 w h)) (by decide) (List.mem_cons_of_mem _ mw_72) (k_ifne dX1_masks_21 rfl (sX1_masks_41 hK) (sX1_masks_24 hK)))
theorem nX1_masks_17 : kv_cn (fun K => fX1_masks_17 K) := cn_aload 1 (cn_getf 1 6 (cn_ifne nX1_masks_41 nX1_masks_24))
def fX1_masks_0 (K : Nat → kv_D) : kv_D := o_aload 1 (o_getf 1 4 (o_aload 0 (o_getf 1 4 (o_isub (o_istore 2 (o_aload 0 (o_getf 1 6 (o_ifne (fX1_masks_41 K) (fX1_masks_17 K)))))))))
theorem sX1_masks_0 {K : Nat → kv_D} (hK : ∀ pc, SX1_masks pc (K pc)) : SX1_masks 0 (fX1_masks_0 K) := k_aload_n dX1_masks_0 rfl (k_getf (C := RX1) (T := TX1) (N := 14) (ci := 1) (index := 25) (kf := 4) dX1_masks_1 rfl (fun w h => List.mem_cons_of_mem _ (inX1 w h)) (by decide) (List.mem_cons_of_mem _ mw_65) (k_aload_n dX1_masks_4 rfl (k_getf (C := RX1) (T := TX1) (N := 14) (ci := 1) (index := 25) (kf := 4) dX1_masks_5 rfl (fun w h => List.mem_cons_of_mem _ (inX1 w h)) (by decide) (List.mem_cons_of_mem _ mw_65) (k_isub dX1_masks_8 (k_istore_n dX1_masks_9 rfl (by decide) (k_aload_n dX1_masks_10 rfl (k_getf (C := RX1) (T := TX1) (N := 14) (ci := 1) (index := 31) (kf := 6) dX1_masks_11 rfl (fun w h => List.mem_cons_of_mem _ (inX1 w h)) (by decide) (List.mem_cons_of_mem _ mw_72) (k_ifne dX1_masks_14 rfl (sX1_masks_41 hK) (sX1_masks_17 hK)))))))))
theorem nX1_masks_0 : kv_cn (fun K => fX1_masks_0 K) := cn_aload 1 (cn_getf 1 4 (cn_aload 0 (cn_getf 1 4 (cn_isub (cn_istore 2 (cn_aload 0 (cn_getf 1 6 (cn_ifne nX1_masks_41 nX1_masks_17))))))))
def bX1_masks (K : Nat → kv_D) (pc : Nat) : kv_D := if pc = 45 then fX1_masks_45 K else fun _ _ _ _ _ => False
theorem hX1_masks : ∀ pc, SX1_masks pc (kv_lim (bX1_masks) pc) := kv_lim_S (fun K hK pc => by
  unfold bX1_masks
  by_cases q45 : pc = 45
  · rw [if_pos q45, q45]
    exact sX1_masks_45 hK
  rw [if_neg q45]
  exact kv_none)
theorem uX1_masks_45 {L : List (Option Value)} {st : List Value} {h : kv_H} {v : Option Value} {h' : kv_H} (hx : fX1_masks_45 (kv_lim (bX1_masks)) L st h v h') : kv_lim (bX1_masks) 45 L st h v h' := kv_un (q := 45) (by have e : (fun K => bX1_masks K 45) = fun K => fX1_masks_45 K := (by funext K; rfl); rw [e]; exact nX1_masks_45) (by have e : bX1_masks (kv_lim (bX1_masks)) 45 = fX1_masks_45 (kv_lim (bX1_masks)) := rfl; rw [e]; exact hx)
def mX1_masks : kv_M := kv_in 2 4 (fX1_masks_0 (kv_lim (bX1_masks)))
theorem cX1_masks_ct : kv_CT yX1_masks wX1_masks 0 0 mX1_masks := kv_met (by decide) rfl rfl (by decide) (fun h => by cases h) (sX1_masks_0 (hX1_masks))
-- X4_isMasked
def wX4_isMasked : List Cond := Cond.code yX4_isMasked cX4_isMasked 3 (some .boolean) :: kv_tb
abbrev SX4_isMasked (pc : Nat) (F : kv_D) : Prop := kv_S cX4_isMasked 3 RX4 wX4_isMasked (some .boolean) false 1 23 none pc F
def fX4_isMasked_31 (K : Nat → kv_D) : kv_D := o_const 0 (o_iret .boolean)
theorem sX4_isMasked_31 {K : Nat → kv_D} (hK : ∀ pc, SX4_isMasked pc (K pc)) : SX4_isMasked 31 (fX4_isMasked_31 K) := k_iconst dX4_isMasked_31 (by decide +kernel) (k_iret dX4_isMasked_32 rfl)
theorem nX4_isMasked_31 : kv_cn (fun K => fX4_isMasked_31 K) := cn_const 0 (cn_c _)
def fX4_isMasked_25 (K : Nat → kv_D) : kv_D := o_iinc 2 1 ((K 2))
theorem sX4_isMasked_25 {K : Nat → kv_D} (hK : ∀ pc, SX4_isMasked pc (K pc)) : SX4_isMasked 25 (fX4_isMasked_25 K) := k_iinc dX4_isMasked_25 (by decide +kernel) (by decide) (k_goto dX4_isMasked_28 rfl (hK 2))
theorem nX4_isMasked_25 : kv_cn (fun K => fX4_isMasked_25 K) := cn_iinc 2 1 ((cn_K 2))
def fX4_isMasked_23 (K : Nat → kv_D) : kv_D := o_const 1 (o_iret .boolean)
theorem sX4_isMasked_23 {K : Nat → kv_D} (hK : ∀ pc, SX4_isMasked pc (K pc)) : SX4_isMasked 23 (fX4_isMasked_23 K) := k_iconst dX4_isMasked_23 (by decide +kernel) (k_iret dX4_isMasked_24 rfl)
theorem nX4_isMasked_23 : kv_cn (fun K => fX4_isMasked_23 K) := cn_const 1 (cn_c _)
def fX4_isMasked_10 (K : Nat → kv_D) : kv_D := o_aload 0 (o_getf 4 1 (o_iload 2 (o_aald 2 (o_aload 1 (o_callV 1 1 mX1_masks (o_ifeq (fX4_isMasked_25 K) (fX4_isMasked_23 K)))))))
theorem sX4_isMasked_10 {K : Nat → kv_D} (hK : ∀ pc, SX4_isMasked pc (K pc)) : SX4_isMasked 10 (fX4_isMasked_10 K) := k_aload_n dX4_isMasked_10 rfl (k_getf (C := RX4) (T := TX4) (N := 8) (ci := 4) (index := 18) (kf := 1) dX4_isMasked_11 rfl (fun w h => List.mem_cons_of_mem _ (inX4 w h)) (by decide) (List.mem_cons_of_mem _ mw_154) (k_iload_n dX4_isMasked_14 rfl (k_aald dX4_isMasked_15 rfl (k_aload_n dX4_isMasked_16 rfl (k_callV (q := (RX1, TX1, 14)) dX4_isMasked_17 cX1_masks_ct rfl (kv_goodV mw_283 mw_284 mw_285 mw_3 mw_286) (by decide +kernel) rfl (by decide) (by decide) (k_ifeq dX4_isMasked_20 rfl (sX4_isMasked_25 hK) (sX4_isMasked_23 hK)))))))
theorem nX4_isMasked_10 : kv_cn (fun K => fX4_isMasked_10 K) := cn_aload 0 (cn_getf 4 1 (cn_iload 2 (cn_aald 2 (cn_aload 1 (cn_callV 1 1 mX1_masks (cn_ifeq nX4_isMasked_25 nX4_isMasked_23))))))
def fX4_isMasked_2 (K : Nat → kv_D) : kv_D := o_iload 2 (o_aload 0 (o_getf 4 2 (o_icge (fX4_isMasked_31 K) (fX4_isMasked_10 K))))
theorem sX4_isMasked_2 {K : Nat → kv_D} (hK : ∀ pc, SX4_isMasked pc (K pc)) : SX4_isMasked 2 (fX4_isMasked_2 K) := k_iload_n dX4_isMasked_2 rfl (k_aload_n dX4_isMasked_3 rfl (k_getf (C := RX4) (T := TX4) (N := 8) (ci := 4) (index := 23) (kf := 2) dX4_isMasked_4 rfl (fun w h => List.mem_cons_of_mem _ (inX4 w h)) (by decide) (List.mem_cons_of_mem _ mw_155) (k_icge dX4_isMasked_7 rfl (sX4_isMasked_31 hK) (sX4_isMasked_10 hK))))
theorem nX4_isMasked_2 : kv_cn (fun K => fX4_isMasked_2 K) := cn_iload 2 (cn_aload 0 (cn_getf 4 2 (cn_icge nX4_isMasked_31 nX4_isMasked_10)))
def fX4_isMasked_0 (K : Nat → kv_D) : kv_D := o_const 0 (o_istore 2 ((K 2)))
theorem sX4_isMasked_0 {K : Nat → kv_D} (hK : ∀ pc, SX4_isMasked pc (K pc)) : SX4_isMasked 0 (fX4_isMasked_0 K) := k_iconst dX4_isMasked_0 (by decide +kernel) (k_istore_n dX4_isMasked_1 rfl (by decide) ((hK 2)))
theorem nX4_isMasked_0 : kv_cn (fun K => fX4_isMasked_0 K) := cn_const 0 (cn_istore 2 ((cn_K 2)))
def bX4_isMasked (K : Nat → kv_D) (pc : Nat) : kv_D := if pc = 2 then fX4_isMasked_2 K else fun _ _ _ _ _ => False
theorem hX4_isMasked : ∀ pc, SX4_isMasked pc (kv_lim (bX4_isMasked) pc) := kv_lim_S (fun K hK pc => by
  unfold bX4_isMasked
  by_cases q2 : pc = 2
  · rw [if_pos q2, q2]
    exact sX4_isMasked_2 hK
  rw [if_neg q2]
  exact kv_none)
theorem uX4_isMasked_2 {L : List (Option Value)} {st : List Value} {h : kv_H} {v : Option Value} {h' : kv_H} (hx : fX4_isMasked_2 (kv_lim (bX4_isMasked)) L st h v h') : kv_lim (bX4_isMasked) 2 L st h v h' := kv_un (q := 2) (by have e : (fun K => bX4_isMasked K 2) = fun K => fX4_isMasked_2 K := (by funext K; rfl); rw [e]; exact nX4_isMasked_2) (by have e : bX4_isMasked (kv_lim (bX4_isMasked)) 2 = fX4_isMasked_2 (kv_lim (bX4_isMasked)) := rfl; rw [e]; exact hx)
def mX4_isMasked : kv_M := kv_in 2 3 (fX4_isMasked_0 (kv_lim (bX4_isMasked)))
theorem cX4_isMasked_ct : kv_CT yX4_isMasked wX4_isMasked 1 23 mX4_isMasked := kv_met (by decide) rfl rfl (by decide) (fun h => by cases h) (sX4_isMasked_0 (hX4_isMasked))
-- X4_endRule
def wX4_endRule : List Cond := Cond.code yX4_endRule cX4_endRule 2 (some .int) :: kv_tb
abbrev SX4_endRule (pc : Nat) (F : kv_D) : Prop := kv_S cX4_endRule 2 RX4 wX4_endRule (some .int) false 5 112 none pc F
def fX4_endRule_84 : kv_D := o_aload 0 (o_dup (o_getf 4 2 (o_const 1 (o_iadd (o_putf 4 2 .int (o_const 10 (o_aload 0 (o_getf 4 2 (o_iadd (o_const 1 (o_isub (o_iret .int))))))))))))
theorem sX4_endRule_84 : SX4_endRule 84 (fX4_endRule_84) := k_aload_n dX4_endRule_84 rfl (k_dup dX4_endRule_85 (k_getf (C := RX4) (T := TX4) (N := 8) (ci := 4) (index := 23) (kf := 2) dX4_endRule_86 rfl (fun w h => List.mem_cons_of_mem _ (inX4 w h)) (by decide) (List.mem_cons_of_mem _ mw_155) (k_iconst dX4_endRule_89 (by decide +kernel) (k_iadd dX4_endRule_90 (k_putf (C := RX4) (T := TX4) (N := 8) (ci := 4) (index := 23) (kf := 2) (ty := .int) dX4_endRule_91 rfl (fun w h => List.mem_cons_of_mem _ (inX4 w h)) tyX4 tyX4_ok nmX4 (by decide) (List.mem_cons_of_mem _ mw_155) rfl rfl (k_bipush dX4_endRule_94 (by decide +kernel) (k_aload_n dX4_endRule_96 rfl (k_getf (C := RX4) (T := TX4) (N := 8) (ci := 4) (index := 23) (kf := 2) dX4_endRule_97 rfl (fun w h => List.mem_cons_of_mem _ (inX4 w h)) (by decide) (List.mem_cons_of_mem _ mw_155) (k_iadd dX4_endRule_100 (k_iconst dX4_endRule_101 (by decide +kernel) (k_isub dX4_endRule_102 (k_iret dX4_endRule_103 rfl))))))))))))
def fX4_endRule_81 : kv_D := o_const (-5) (o_iret .int)
theorem sX4_endRule_81 : SX4_endRule 81 (fX4_endRule_81) := k_bipush dX4_endRule_81 (by decide +kernel) (k_iret dX4_endRule_83 rfl)
def fX4_endRule_73 : kv_D := o_aload 0 (o_aload 1 (o_callV 4 1 mX4_isMasked (o_ifeq (fX4_endRule_84) (fX4_endRule_81))))
theorem sX4_endRule_73 : SX4_endRule 73 (fX4_endRule_73) := k_aload_n dX4_endRule_73 rfl (k_aload_n dX4_endRule_74 rfl (k_callV (q := (RX4, TX4, 8)) dX4_endRule_75 cX4_isMasked_ct rfl (kv_goodV mw_279 mw_281 sel_X4_isMasked mw_1 mw_282) (by decide +kernel) rfl (by decide) (by decide) (k_ifeq dX4_endRule_78 rfl (sX4_endRule_84) (sX4_endRule_81))))
def fX4_endRule_70 : kv_D := o_const (-4) (o_iret .int)
theorem sX4_endRule_70 : SX4_endRule 70 (fX4_endRule_70) := k_bipush dX4_endRule_70 (by decide +kernel) (k_iret dX4_endRule_72 rfl)
def fX4_endRule_63 : kv_D := o_aload 1 (o_callV 1 0 mX1_isTooLarge (o_ifeq (fX4_endRule_73) (fX4_endRule_70)))
theorem sX4_endRule_63 : SX4_endRule 63 (fX4_endRule_63) := k_aload_n dX4_endRule_63 rfl (k_callV (q := (RX1, TX1, 14)) dX4_endRule_64 cX1_isTooLarge_ct rfl (kv_goodV mw_275 mw_276 mw_277 mw_3 mw_278) (by decide +kernel) rfl (by decide) (by decide) (k_ifeq dX4_endRule_67 rfl (sX4_endRule_73) (sX4_endRule_70)))
def fX4_endRule_54 : kv_D := o_aload 0 (o_getf 4 2 (o_const 8 (o_icge (fX4_endRule_70) (fX4_endRule_63))))
theorem sX4_endRule_54 : SX4_endRule 54 (fX4_endRule_54) := k_aload_n dX4_endRule_54 rfl (k_getf (C := RX4) (T := TX4) (N := 8) (ci := 4) (index := 23) (kf := 2) dX4_endRule_55 rfl (fun w h => List.mem_cons_of_mem _ (inX4 w h)) (by decide) (List.mem_cons_of_mem _ mw_155) (k_bipush dX4_endRule_58 (by decide +kernel) (k_icge dX4_endRule_60 rfl (sX4_endRule_70) (sX4_endRule_63))))
def fX4_endRule_51 : kv_D := o_const (-3) (o_iret .int)
theorem sX4_endRule_51 : SX4_endRule 51 (fX4_endRule_51) := k_bipush dX4_endRule_51 (by decide +kernel) (k_iret dX4_endRule_53 rfl)
def fX4_endRule_40 : kv_D := o_aload 1 (o_getf 1 12 (o_aload 1 (o_getf 1 9 (o_icle (fX4_endRule_54) (fX4_endRule_51)))))
theorem sX4_endRule_40 : SX4_endRule 40 (fX4_endRule_40) := k_aload_n dX4_endRule_40 rfl (k_getN (C := RX1) (T := TX1) (N := 14) (ci := 1) (index := 114) (kf := 12) dX4_endRule_41 rfl (fun w h => List.mem_cons_of_mem _ (inX1 w h)) (by decide) mw_85 (k_aload_n dX4_endRule_44 rfl (k_getN (C := RX1) (T := TX1) (N := 14) (ci := 1) (index := 117) (kf := 9) dX4_endRule_45 rfl (fun w h => List.mem_cons_of_mem _ (inX1 w h)) (by decide) mw_78 (k_icle dX4_endRule_48 rfl (sX4_endRule_54) (sX4_endRule_51)))))
def fX4_endRule_37 : kv_D := o_const (-2) (o_iret .int)
theorem sX4_endRule_37 : SX4_endRule 37 (fX4_endRule_37) := k_bipush dX4_endRule_37 (by decide +kernel) (k_iret dX4_endRule_39 rfl)
def fX4_endRule_27 : kv_D := o_aload 0 (o_getf 4 0 (o_getf 2 5 (o_ifeq (fX4_endRule_40) (fX4_endRule_37))))
theorem sX4_endRule_27 : SX4_endRule 27 (fX4_endRule_27) := k_aload_n dX4_endRule_27 rfl (k_getf (C := RX4) (T := TX4) (N := 8) (ci := 4) (index := 12) (kf := 0) dX4_endRule_28 rfl (fun w h => List.mem_cons_of_mem _ (inX4 w h)) (by decide) (List.mem_cons_of_mem _ mw_153) (k_getN (C := RX2) (T := TX2) (N := 6) (ci := 2) (index := 103) (kf := 5) dX4_endRule_31 rfl (fun w h => List.mem_cons_of_mem _ (inX2 w h)) (by decide) mw_33 (k_ifeq dX4_endRule_34 rfl (sX4_endRule_40) (sX4_endRule_37))))
def fX4_endRule_25 : kv_D := o_const (-1) (o_iret .int)
theorem sX4_endRule_25 : SX4_endRule 25 (fX4_endRule_25) := k_iconst dX4_endRule_25 (by decide +kernel) (k_iret dX4_endRule_26 rfl)
def fX4_endRule_0 : kv_D := o_aload 0 (o_getf 4 1 (o_aload 0 (o_getf 4 2 (o_aald 2 (o_astore 1 (o_aload 1 (o_callV 1 0 mX1_clear (o_aload 0 (o_getf 4 0 (o_aload 1 (o_callV 2 1 mX2_readRule (o_ifne (fX4_endRule_27) (fX4_endRule_25)))))))))))))
theorem sX4_endRule_0 : SX4_endRule 0 (fX4_endRule_0) := k_aload_n dX4_endRule_0 rfl (k_getf (C := RX4) (T := TX4) (N := 8) (ci := 4) (index := 18) (kf := 1) dX4_endRule_1 rfl (fun w h => List.mem_cons_of_mem _ (inX4 w h)) (by decide) (List.mem_cons_of_mem _ mw_154) (k_aload_n dX4_endRule_4 rfl (k_getf (C := RX4) (T := TX4) (N := 8) (ci := 4) (index := 23) (kf := 2) dX4_endRule_5 rfl (fun w h => List.mem_cons_of_mem _ (inX4 w h)) (by decide) (List.mem_cons_of_mem _ mw_155) (k_aald dX4_endRule_8 rfl (k_astore_n dX4_endRule_9 rfl (by decide) (k_aload_n dX4_endRule_10 rfl (k_callV (q := (RX1, TX1, 14)) dX4_endRule_11 cX1_clear_ct rfl (kv_goodV mw_228 mw_229 mw_230 mw_3 mw_231) (by decide +kernel) rfl (by decide) (by decide) (k_aload_n dX4_endRule_14 rfl (k_getf (C := RX4) (T := TX4) (N := 8) (ci := 4) (index := 12) (kf := 0) dX4_endRule_15 rfl (fun w h => List.mem_cons_of_mem _ (inX4 w h)) (by decide) (List.mem_cons_of_mem _ mw_153) (k_aload_n dX4_endRule_18 rfl (k_callV (q := (RX2, TX2, 6)) dX4_endRule_19 cX2_readRule_ct rfl (kv_goodV mw_232 mw_233 mw_234 mw_2 mw_235) (by decide +kernel) rfl (by decide) (by decide) (k_ifne dX4_endRule_22 rfl (sX4_endRule_27) (sX4_endRule_25)))))))))))))
def mX4_endRule : kv_M := kv_in 1 2 (fX4_endRule_0)
theorem cX4_endRule_ct : kv_CT yX4_endRule wX4_endRule 5 112 mX4_endRule := kv_met (by decide) rfl rfl (by decide) (fun h => by cases h) (sX4_endRule_0)
-- X2_clear
def wX2_clear : List Cond := Cond.code yX2_clear cX2_clear 1 none :: kv_tb
abbrev SX2_clear (pc : Nat) (F : kv_D) : Prop := kv_S cX2_clear 1 RX2 wX2_clear none false 0 0 none pc F
def fX2_clear_0 : kv_D := o_aload 0 (o_const 0 (o_putf 2 1 .int (o_ret)))
theorem sX2_clear_0 : SX2_clear 0 (fX2_clear_0) := k_aload_n dX2_clear_0 rfl (k_iconst dX2_clear_1 (by decide +kernel) (k_putf (C := RX2) (T := TX2) (N := 6) (ci := 2) (index := 15) (kf := 1) (ty := .int) dX2_clear_2 rfl (fun w h => List.mem_cons_of_mem _ (inX2 w h)) tyX2 tyX2_ok nmX2 (by decide) (List.mem_cons_of_mem _ mw_28) rfl rfl (k_ret dX2_clear_5 rfl)))
def mX2_clear : kv_M := kv_in 1 1 (fX2_clear_0)
theorem cX2_clear_ct : kv_CT yX2_clear wX2_clear 0 0 mX2_clear := kv_met (by decide) rfl rfl (by decide) (fun h => by cases h) (sX2_clear_0)
-- X2_type
def wX2_type : List Cond := Cond.code yX2_type cX2_type 2 (some .boolean) :: kv_tb
abbrev SX2_type (pc : Nat) (F : kv_D) : Prop := kv_S cX2_type 2 RX2 wX2_type (some .boolean) false 0 0 none pc F
def fX2_type_11 : kv_D := o_aload 0 (o_getf 2 0 (o_aload 0 (o_getf 2 1 (o_iload 1 (o_iast 1 (vp_nar .char) (o_aload 0 (o_dup (o_getf 2 1 (o_const 1 (o_iadd (o_putf 2 1 .int (o_const 1 (o_iret .boolean)))))))))))))
theorem sX2_type_11 : SX2_type 11 (fX2_type_11) := k_aload_n dX2_type_11 rfl (k_getf (C := RX2) (T := TX2) (N := 6) (ci := 2) (index := 9) (kf := 0) dX2_type_12 rfl (fun w h => List.mem_cons_of_mem _ (inX2 w h)) (by decide) (List.mem_cons_of_mem _ mw_27) (k_aload_n dX2_type_15 rfl (k_getf (C := RX2) (T := TX2) (N := 6) (ci := 2) (index := 15) (kf := 1) dX2_type_16 rfl (fun w h => List.mem_cons_of_mem _ (inX2 w h)) (by decide) (List.mem_cons_of_mem _ mw_28) (k_iload_n dX2_type_19 rfl (k_cast dX2_type_20 rfl (k_aload_n dX2_type_21 rfl (k_dup dX2_type_22 (k_getf (C := RX2) (T := TX2) (N := 6) (ci := 2) (index := 15) (kf := 1) dX2_type_23 rfl (fun w h => List.mem_cons_of_mem _ (inX2 w h)) (by decide) (List.mem_cons_of_mem _ mw_28) (k_iconst dX2_type_26 (by decide +kernel) (k_iadd dX2_type_27 (k_putf (C := RX2) (T := TX2) (N := 6) (ci := 2) (index := 15) (kf := 1) (ty := .int) dX2_type_28 rfl (fun w h => List.mem_cons_of_mem _ (inX2 w h)) tyX2 tyX2_ok nmX2 (by decide) (List.mem_cons_of_mem _ mw_28) rfl rfl (k_iconst dX2_type_31 (by decide +kernel) (k_iret dX2_type_32 rfl)))))))))))))
def fX2_type_9 : kv_D := o_const 0 (o_iret .boolean)
theorem sX2_type_9 : SX2_type 9 (fX2_type_9) := k_iconst dX2_type_9 (by decide +kernel) (k_iret dX2_type_10 rfl)
def fX2_type_0 : kv_D := o_aload 0 (o_getf 2 1 (o_const 48 (o_iclt (fX2_type_11) (fX2_type_9))))
theorem sX2_type_0 : SX2_type 0 (fX2_type_0) := k_aload_n dX2_type_0 rfl (k_getf (C := RX2) (T := TX2) (N := 6) (ci := 2) (index := 15) (kf := 1) dX2_type_1 rfl (fun w h => List.mem_cons_of_mem _ (inX2 w h)) (by decide) (List.mem_cons_of_mem _ mw_28) (k_bipush dX2_type_4 (by decide +kernel) (k_iclt dX2_type_6 rfl (sX2_type_11) (sX2_type_9))))
def mX2_type : kv_M := kv_in 2 2 (fX2_type_0)
theorem cX2_type_ct : kv_CT yX2_type wX2_type 0 0 mX2_type := kv_met (by decide) rfl rfl (by decide) (fun h => by cases h) (sX2_type_0)
-- X4_code
def wX4_code : List Cond := Cond.code yX4_code cX4_code 3 (some .int) :: kv_tb
abbrev SX4_code (pc : Nat) (F : kv_D) : Prop := kv_S cX4_code 3 RX4 wX4_code (some .int) false 6 133 none pc F
def fX4_code_77 : kv_D := o_iret .int
theorem sX4_code_77 : SX4_code 77 (fX4_code_77) := k_iret dX4_code_77 rfl
def fX4_code_75 : kv_D := o_const (-6) ((fX4_code_77))
theorem sX4_code_75 : SX4_code 75 (fX4_code_75) := k_bipush dX4_code_75 (by decide +kernel) ((sX4_code_77))
def fX4_code_71 : kv_D := o_const 0 ((fX4_code_77))
theorem sX4_code_71 : SX4_code 71 (fX4_code_71) := k_iconst dX4_code_71 (by decide +kernel) (k_goto dX4_code_72 rfl (sX4_code_77))
def fX4_code_60 : kv_D := o_aload 0 (o_getf 4 0 (o_iload 1 (o_callV 2 1 mX2_type (o_ifeq (fX4_code_75) (fX4_code_71)))))
theorem sX4_code_60 : SX4_code 60 (fX4_code_60) := k_aload_n dX4_code_60 rfl (k_getf (C := RX4) (T := TX4) (N := 8) (ci := 4) (index := 12) (kf := 0) dX4_code_61 rfl (fun w h => List.mem_cons_of_mem _ (inX4 w h)) (by decide) (List.mem_cons_of_mem _ mw_153) (k_iload_n dX4_code_64 rfl (k_callV (q := (RX2, TX2, 6)) dX4_code_65 cX2_type_ct rfl (kv_goodV mw_291 mw_292 mw_293 mw_2 mw_294) (by decide +kernel) rfl (by decide) (by decide) (k_ifeq dX4_code_68 rfl (sX4_code_75) (sX4_code_71)))))
def fX4_code_50 : kv_D := o_istore 2 (o_aload 0 (o_getf 4 0 (o_callV 2 0 mX2_clear (o_iload 2 (o_iret .int)))))
theorem sX4_code_50 : SX4_code 50 (fX4_code_50) := k_istore_n dX4_code_50 rfl (by decide) (k_aload_n dX4_code_51 rfl (k_getf (C := RX4) (T := TX4) (N := 8) (ci := 4) (index := 12) (kf := 0) dX4_code_52 rfl (fun w h => List.mem_cons_of_mem _ (inX4 w h)) (by decide) (List.mem_cons_of_mem _ mw_153) (k_callV (q := (RX2, TX2, 6)) dX4_code_55 cX2_clear_ct rfl (kv_goodV mw_287 mw_288 mw_289 mw_2 mw_290) (by decide +kernel) rfl (by decide) (by decide) (k_iload_n dX4_code_58 rfl (k_iret dX4_code_59 rfl)))))
def fX4_code_46 : kv_D := o_aload 0 (o_callV 4 0 mX4_endRule ((fX4_code_50)))
theorem sX4_code_46 : SX4_code 46 (fX4_code_46) := k_aload_n dX4_code_46 rfl (k_callV (q := (RX4, TX4, 8)) dX4_code_47 cX4_endRule_ct rfl (kv_goodV mw_224 mw_226 sel_X4_endRule mw_1 mw_227) (by decide +kernel) rfl (by decide) (by decide) ((sX4_code_50)))
def fX4_code_39 : kv_D := o_aload 0 (o_callV 4 0 mX4_endDefinition ((fX4_code_50)))
theorem sX4_code_39 : SX4_code 39 (fX4_code_39) := k_aload_n dX4_code_39 rfl (k_callV (q := (RX4, TX4, 8)) dX4_code_40 cX4_endDefinition_ct rfl (kv_goodV mw_189 mw_191 sel_X4_endDefinition mw_1 mw_192) (by decide +kernel) rfl (by decide) (by decide) (k_goto dX4_code_43 rfl (sX4_code_50)))
def fX4_code_29 : kv_D := o_aload 0 (o_getf 4 0 (o_callV 2 0 mX2_looksLikeDefinition (o_ifeq (fX4_code_46) (fX4_code_39))))
theorem sX4_code_29 : SX4_code 29 (fX4_code_29) := k_aload_n dX4_code_29 rfl (k_getf (C := RX4) (T := TX4) (N := 8) (ci := 4) (index := 12) (kf := 0) dX4_code_30 rfl (fun w h => List.mem_cons_of_mem _ (inX4 w h)) (by decide) (List.mem_cons_of_mem _ mw_153) (k_callV (q := (RX2, TX2, 6)) dX4_code_33 cX2_looksLikeDefinition_ct rfl (kv_goodV mw_182 mw_183 mw_184 mw_2 mw_185) (by decide +kernel) rfl (by decide) (by decide) (k_ifeq dX4_code_36 rfl (sX4_code_46) (sX4_code_39))))
def fX4_code_23 : kv_D := o_iload 1 (o_const 59 (o_icne (fX4_code_60) (fX4_code_29)))
theorem sX4_code_23 : SX4_code 23 (fX4_code_23) := k_iload_n dX4_code_23 rfl (k_bipush dX4_code_24 (by decide +kernel) (k_icne dX4_code_26 rfl (sX4_code_60) (sX4_code_29)))
def fX4_code_21 : kv_D := o_const 0 (o_iret .int)
theorem sX4_code_21 : SX4_code 21 (fX4_code_21) := k_iconst dX4_code_21 (by decide +kernel) (k_iret dX4_code_22 rfl)
def fX4_code_15 : kv_D := o_iload 1 (o_const 32 (o_icne (fX4_code_23) (fX4_code_21)))
theorem sX4_code_15 : SX4_code 15 (fX4_code_15) := k_iload_n dX4_code_15 rfl (k_bipush dX4_code_16 (by decide +kernel) (k_icne dX4_code_18 rfl (sX4_code_23) (sX4_code_21)))
def fX4_code_12 : kv_D := o_const (-6) (o_iret .int)
theorem sX4_code_12 : SX4_code 12 (fX4_code_12) := k_bipush dX4_code_12 (by decide +kernel) (k_iret dX4_code_14 rfl)
def fX4_code_6 : kv_D := o_iload 1 (o_const 126 (o_icle (fX4_code_15) (fX4_code_12)))
theorem sX4_code_6 : SX4_code 6 (fX4_code_6) := k_iload_n dX4_code_6 rfl (k_bipush dX4_code_7 (by decide +kernel) (k_icle dX4_code_9 rfl (sX4_code_15) (sX4_code_12)))
def fX4_code_0 : kv_D := o_iload 1 (o_const 32 (o_iclt (fX4_code_12) (fX4_code_6)))
theorem sX4_code_0 : SX4_code 0 (fX4_code_0) := k_iload_n dX4_code_0 rfl (k_bipush dX4_code_1 (by decide +kernel) (k_iclt dX4_code_3 rfl (sX4_code_12) (sX4_code_6)))
def mX4_code : kv_M := kv_in 2 3 (fX4_code_0)
theorem cX4_code_ct : kv_CT yX4_code wX4_code 6 133 mX4_code := kv_met (by decide) rfl rfl (by decide) (fun h => by cases h) (sX4_code_0)
-- X4_rules
def wX4_rules : List Cond := Cond.code yX4_rules cX4_rules 1 (some .int) :: kv_tb
abbrev SX4_rules (pc : Nat) (F : kv_D) : Prop := kv_S cX4_rules 1 RX4 wX4_rules (some .int) false 0 0 none pc F
def fX4_rules_0 : kv_D := o_aload 0 (o_getf 4 2 (o_iret .int))
theorem sX4_rules_0 : SX4_rules 0 (fX4_rules_0) := k_aload_n dX4_rules_0 rfl (k_getf (C := RX4) (T := TX4) (N := 8) (ci := 4) (index := 23) (kf := 2) dX4_rules_1 rfl (fun w h => List.mem_cons_of_mem _ (inX4 w h)) (by decide) (List.mem_cons_of_mem _ mw_155) (k_iret dX4_rules_4 rfl))
def mX4_rules : kv_M := kv_in 1 1 (fX4_rules_0)
theorem cX4_rules_ct : kv_CT yX4_rules wX4_rules 0 0 mX4_rules := kv_met (by decide) rfl rfl (by decide) (fun h => by cases h) (sX4_rules_0)
-- X3_clear
def wX3_clear : List Cond := Cond.code yX3_clear cX3_clear 1 none :: kv_tb
abbrev SX3_clear (pc : Nat) (F : kv_D) : Prop := kv_S cX3_clear 1 RX3 wX3_clear none false 0 0 none pc F
def fX3_clear_0 : kv_D := o_aload 0 (o_const 0 (o_putf 3 2 .int (o_aload 0 (o_const 0 (o_putf 3 3 .int (o_ret))))))
theorem sX3_clear_0 : SX3_clear 0 (fX3_clear_0) := k_aload_n dX3_clear_0 rfl (k_iconst dX3_clear_1 (by decide +kernel) (k_putf (C := RX3) (T := TX3) (N := 4) (ci := 3) (index := 18) (kf := 2) (ty := .int) dX3_clear_2 rfl (fun w h => List.mem_cons_of_mem _ (inX3 w h)) tyX3 tyX3_ok nmX3 (by decide) (List.mem_cons_of_mem _ mw_127) rfl rfl (k_aload_n dX3_clear_5 rfl (k_iconst dX3_clear_6 (by decide +kernel) (k_putf (C := RX3) (T := TX3) (N := 4) (ci := 3) (index := 22) (kf := 3) (ty := .int) dX3_clear_7 rfl (fun w h => List.mem_cons_of_mem _ (inX3 w h)) tyX3 tyX3_ok nmX3 (by decide) (List.mem_cons_of_mem _ mw_130) rfl rfl (k_ret dX3_clear_10 rfl))))))
def mX3_clear : kv_M := kv_in 1 1 (fX3_clear_0)
theorem cX3_clear_ct : kv_CT yX3_clear wX3_clear 0 0 mX3_clear := kv_met (by decide) rfl rfl (by decide) (fun h => by cases h) (sX3_clear_0)
-- X4_restart
def wX4_restart : List Cond := Cond.code yX4_restart cX4_restart 1 none :: kv_tb
abbrev SX4_restart (pc : Nat) (F : kv_D) : Prop := kv_S cX4_restart 1 RX4 wX4_restart none false 1 20 none pc F
def fX4_restart_0 : kv_D := o_aload 0 (o_getf 4 3 (o_callV 3 0 mX3_clear (o_aload 0 (o_const 0 (o_putf 4 5 .int (o_aload 0 (o_const (-1) (o_putf 4 6 .int (o_aload 0 (o_const 0 (o_putf 4 7 .boolean (o_ret))))))))))))
theorem sX4_restart_0 : SX4_restart 0 (fX4_restart_0) := k_aload_n dX4_restart_0 rfl (k_getf (C := RX4) (T := TX4) (N := 8) (ci := 4) (index := 30) (kf := 3) dX4_restart_1 rfl (fun w h => List.mem_cons_of_mem _ (inX4 w h)) (by decide) (List.mem_cons_of_mem _ mw_156) (k_callV (q := (RX3, TX3, 4)) dX4_restart_4 cX3_clear_ct rfl (kv_goodV mw_308 mw_309 mw_310 mw_4 mw_311) (by decide +kernel) rfl (by decide) (by decide) (k_aload_n dX4_restart_7 rfl (k_iconst dX4_restart_8 (by decide +kernel) (k_putf (C := RX4) (T := TX4) (N := 8) (ci := 4) (index := 41) (kf := 5) (ty := .int) dX4_restart_9 rfl (fun w h => List.mem_cons_of_mem _ (inX4 w h)) tyX4 tyX4_ok nmX4 (by decide) (List.mem_cons_of_mem _ mw_158) rfl rfl (k_aload_n dX4_restart_12 rfl (k_iconst dX4_restart_13 (by decide +kernel) (k_putf (C := RX4) (T := TX4) (N := 8) (ci := 4) (index := 44) (kf := 6) (ty := .int) dX4_restart_14 rfl (fun w h => List.mem_cons_of_mem _ (inX4 w h)) tyX4 tyX4_ok nmX4 (by decide) (List.mem_cons_of_mem _ mw_159) rfl rfl (k_aload_n dX4_restart_17 rfl (k_iconst dX4_restart_18 (by decide +kernel) (k_putf (C := RX4) (T := TX4) (N := 8) (ci := 4) (index := 47) (kf := 7) (ty := .boolean) dX4_restart_19 rfl (fun w h => List.mem_cons_of_mem _ (inX4 w h)) tyX4 tyX4_ok nmX4 (by decide) (List.mem_cons_of_mem _ mw_160) rfl rfl (k_ret dX4_restart_22 rfl))))))))))))
def mX4_restart : kv_M := kv_in 1 1 (fX4_restart_0)
theorem cX4_restart_ct : kv_CT yX4_restart wX4_restart 1 20 mX4_restart := kv_met (by decide) rfl rfl (by decide) (fun h => by cases h) (sX4_restart_0)
-- X4_forget
def wX4_forget : List Cond := Cond.code yX4_forget cX4_forget 1 none :: kv_tb
abbrev SX4_forget (pc : Nat) (F : kv_D) : Prop := kv_S cX4_forget 1 RX4 wX4_forget none false 2 40 none pc F
def fX4_forget_0 : kv_D := o_aload 0 (o_const 0 (o_putf 4 2 .int (o_aload 0 (o_getf 4 0 (o_callV 2 0 mX2_clear (o_aload 0 (o_getf 4 0 (o_callV 2 0 mX2_clearMeanings (o_aload 0 (o_callV 4 0 mX4_restart (o_ret)))))))))))
theorem sX4_forget_0 : SX4_forget 0 (fX4_forget_0) := k_aload_n dX4_forget_0 rfl (k_iconst dX4_forget_1 (by decide +kernel) (k_putf (C := RX4) (T := TX4) (N := 8) (ci := 4) (index := 23) (kf := 2) (ty := .int) dX4_forget_2 rfl (fun w h => List.mem_cons_of_mem _ (inX4 w h)) tyX4 tyX4_ok nmX4 (by decide) (List.mem_cons_of_mem _ mw_155) rfl rfl (k_aload_n dX4_forget_5 rfl (k_getf (C := RX4) (T := TX4) (N := 8) (ci := 4) (index := 12) (kf := 0) dX4_forget_6 rfl (fun w h => List.mem_cons_of_mem _ (inX4 w h)) (by decide) (List.mem_cons_of_mem _ mw_153) (k_callV (q := (RX2, TX2, 6)) dX4_forget_9 cX2_clear_ct rfl (kv_goodV mw_287 mw_288 mw_289 mw_2 mw_290) (by decide +kernel) rfl (by decide) (by decide) (k_aload_n dX4_forget_12 rfl (k_getf (C := RX4) (T := TX4) (N := 8) (ci := 4) (index := 12) (kf := 0) dX4_forget_13 rfl (fun w h => List.mem_cons_of_mem _ (inX4 w h)) (by decide) (List.mem_cons_of_mem _ mw_153) (k_callV (q := (RX2, TX2, 6)) dX4_forget_16 cX2_clearMeanings_ct rfl (kv_goodV mw_303 mw_24 mw_25 mw_2 mw_26) (by decide +kernel) rfl (by decide) (by decide) (k_aload_n dX4_forget_19 rfl (k_callV (q := (RX4, TX4, 8)) dX4_forget_20 cX4_restart_ct rfl (kv_goodV mw_304 mw_305 mw_306 mw_1 mw_307) (by decide +kernel) rfl (by decide) (by decide) (k_ret dX4_forget_23 rfl)))))))))))
def mX4_forget : kv_M := kv_in 1 1 (fX4_forget_0)
theorem cX4_forget_ct : kv_CT yX4_forget wX4_forget 2 40 mX4_forget := kv_met (by decide) rfl rfl (by decide) (fun h => by cases h) (sX4_forget_0)
