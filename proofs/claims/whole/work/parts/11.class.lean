theorem dX2_readBrackets_143 : decode cX2_readBrackets 143 = .ok (.ireturn, 1) := by decide +kernel
theorem dX2_readBrackets_142 : decode cX2_readBrackets 142 = .ok (.iconst 0, 1) := by decide +kernel
theorem dX2_readBrackets_138 : decode cX2_readBrackets 138 = .ok (.iconst 1, 1) := by decide +kernel
theorem dX2_readBrackets_139 : decode cX2_readBrackets 139 = .ok (.goto 4, 3) := by decide +kernel
theorem dX2_readBrackets_129 : decode cX2_readBrackets 129 = .ok (.aload_n 0, 1) := by decide +kernel
theorem dX2_readBrackets_130 : decode cX2_readBrackets 130 = .ok (.bipush 93, 2) := by decide +kernel
theorem dX2_readBrackets_132 : decode cX2_readBrackets 132 = .ok (.invokevirtual 51, 3) := by decide +kernel
theorem dX2_readBrackets_135 : decode cX2_readBrackets 135 = .ok (.ifCond .eq 7, 3) := by decide +kernel
theorem dX2_readBrackets_122 : decode cX2_readBrackets 122 = .ok (.putfield 26, 3) := by decide +kernel
theorem dX2_readBrackets_125 : decode cX2_readBrackets 125 = .ok (.iload_n 2, 1) := by decide +kernel
theorem dX2_readBrackets_126 : decode cX2_readBrackets 126 = .ok (.ifCond .eq 16, 3) := by decide +kernel
theorem dX2_readBrackets_121 : decode cX2_readBrackets 121 = .ok (.iload_n 2, 1) := by decide +kernel
theorem dX2_readBrackets_112 : decode cX2_readBrackets 112 = .ok (.ldc 106, 2) := by decide +kernel
theorem dX2_readBrackets_114 : decode cX2_readBrackets 114 = .ok (.iload_n 2, 1) := by decide +kernel
theorem dX2_readBrackets_115 : decode cX2_readBrackets 115 = .ok (.iconst (-1), 1) := by decide +kernel
theorem dX2_readBrackets_116 : decode cX2_readBrackets 116 = .ok (.ixor, 1) := by decide +kernel
theorem dX2_readBrackets_117 : decode cX2_readBrackets 117 = .ok (.iand, 1) := by decide +kernel
theorem dX2_readBrackets_118 : decode cX2_readBrackets 118 = .ok (.goto 4, 3) := by decide +kernel
theorem dX2_readBrackets_107 : decode cX2_readBrackets 107 = .ok (.aload_n 0, 1) := by decide +kernel
theorem dX2_readBrackets_108 : decode cX2_readBrackets 108 = .ok (.iload_n 1, 1) := by decide +kernel
theorem dX2_readBrackets_109 : decode cX2_readBrackets 109 = .ok (.ifCond .eq 12, 3) := by decide +kernel
theorem dX2_readBrackets_91 : decode cX2_readBrackets 91 = .ok (.iload_n 2, 1) := by decide +kernel
theorem dX2_readBrackets_92 : decode cX2_readBrackets 92 = .ok (.iload 4, 2) := by decide +kernel
theorem dX2_readBrackets_94 : decode cX2_readBrackets 94 = .ok (.iload 5, 2) := by decide +kernel
theorem dX2_readBrackets_96 : decode cX2_readBrackets 96 = .ok (.invokestatic 102, 3) := by decide +kernel
theorem dX2_readBrackets_99 : decode cX2_readBrackets 99 = .ok (.ior, 1) := by decide +kernel
theorem dX2_readBrackets_100 : decode cX2_readBrackets 100 = .ok (.istore_n 2, 1) := by decide +kernel
theorem dX2_readBrackets_101 : decode cX2_readBrackets 101 = .ok (.iinc 3 1, 3) := by decide +kernel
theorem dX2_readBrackets_104 : decode cX2_readBrackets 104 = .ok (.goto (-93), 3) := by decide +kernel
theorem dX2_readBrackets_89 : decode cX2_readBrackets 89 = .ok (.iconst 0, 1) := by decide +kernel
theorem dX2_readBrackets_90 : decode cX2_readBrackets 90 = .ok (.ireturn, 1) := by decide +kernel
theorem dX2_readBrackets_82 : decode cX2_readBrackets 82 = .ok (.iload 5, 2) := by decide +kernel
theorem dX2_readBrackets_84 : decode cX2_readBrackets 84 = .ok (.iload 4, 2) := by decide +kernel
theorem dX2_readBrackets_86 : decode cX2_readBrackets 86 = .ok (.if_icmp .ge 5, 3) := by decide +kernel
theorem dX2_readBrackets_74 : decode cX2_readBrackets 74 = .ok (.iload 5, 2) := by decide +kernel
theorem dX2_readBrackets_76 : decode cX2_readBrackets 76 = .ok (.invokestatic 95, 3) := by decide +kernel
theorem dX2_readBrackets_79 : decode cX2_readBrackets 79 = .ok (.ifCond .eq 10, 3) := by decide +kernel
theorem dX2_readBrackets_58 : decode cX2_readBrackets 58 = .ok (.aload_n 0, 1) := by decide +kernel
theorem dX2_readBrackets_59 : decode cX2_readBrackets 59 = .ok (.invokevirtual 71, 3) := by decide +kernel
theorem dX2_readBrackets_62 : decode cX2_readBrackets 62 = .ok (.istore 5, 2) := by decide +kernel
theorem dX2_readBrackets_64 : decode cX2_readBrackets 64 = .ok (.aload_n 0, 1) := by decide +kernel
theorem dX2_readBrackets_65 : decode cX2_readBrackets 65 = .ok (.dup, 1) := by decide +kernel
theorem dX2_readBrackets_66 : decode cX2_readBrackets 66 = .ok (.getfield 19, 3) := by decide +kernel
theorem dX2_readBrackets_69 : decode cX2_readBrackets 69 = .ok (.iconst 1, 1) := by decide +kernel
theorem dX2_readBrackets_70 : decode cX2_readBrackets 70 = .ok (.iadd, 1) := by decide +kernel
theorem dX2_readBrackets_71 : decode cX2_readBrackets 71 = .ok (.putfield 19, 3) := by decide +kernel
theorem dX2_readBrackets_29 : decode cX2_readBrackets 29 = .ok (.aload_n 0, 1) := by decide +kernel
theorem dX2_readBrackets_30 : decode cX2_readBrackets 30 = .ok (.invokevirtual 71, 3) := by decide +kernel
theorem dX2_readBrackets_33 : decode cX2_readBrackets 33 = .ok (.istore 4, 2) := by decide +kernel
theorem dX2_readBrackets_35 : decode cX2_readBrackets 35 = .ok (.iload 4, 2) := by decide +kernel
theorem dX2_readBrackets_37 : decode cX2_readBrackets 37 = .ok (.istore 5, 2) := by decide +kernel
theorem dX2_readBrackets_39 : decode cX2_readBrackets 39 = .ok (.aload_n 0, 1) := by decide +kernel
theorem dX2_readBrackets_40 : decode cX2_readBrackets 40 = .ok (.dup, 1) := by decide +kernel
theorem dX2_readBrackets_41 : decode cX2_readBrackets 41 = .ok (.getfield 19, 3) := by decide +kernel
theorem dX2_readBrackets_44 : decode cX2_readBrackets 44 = .ok (.iconst 1, 1) := by decide +kernel
theorem dX2_readBrackets_45 : decode cX2_readBrackets 45 = .ok (.iadd, 1) := by decide +kernel
theorem dX2_readBrackets_46 : decode cX2_readBrackets 46 = .ok (.putfield 19, 3) := by decide +kernel
theorem dX2_readBrackets_49 : decode cX2_readBrackets 49 = .ok (.aload_n 0, 1) := by decide +kernel
theorem dX2_readBrackets_50 : decode cX2_readBrackets 50 = .ok (.bipush 45, 2) := by decide +kernel
theorem dX2_readBrackets_52 : decode cX2_readBrackets 52 = .ok (.invokevirtual 51, 3) := by decide +kernel
theorem dX2_readBrackets_55 : decode cX2_readBrackets 55 = .ok (.ifCond .eq 19, 3) := by decide +kernel
theorem dX2_readBrackets_19 : decode cX2_readBrackets 19 = .ok (.aload_n 0, 1) := by decide +kernel
theorem dX2_readBrackets_20 : decode cX2_readBrackets 20 = .ok (.invokevirtual 71, 3) := by decide +kernel
theorem dX2_readBrackets_23 : decode cX2_readBrackets 23 = .ok (.invokestatic 95, 3) := by decide +kernel
theorem dX2_readBrackets_26 : decode cX2_readBrackets 26 = .ok (.ifCond .eq 81, 3) := by decide +kernel
theorem dX2_readBrackets_11 : decode cX2_readBrackets 11 = .ok (.iload_n 3, 1) := by decide +kernel
theorem dX2_readBrackets_12 : decode cX2_readBrackets 12 = .ok (.aload_n 0, 1) := by decide +kernel
theorem dX2_readBrackets_13 : decode cX2_readBrackets 13 = .ok (.getfield 15, 3) := by decide +kernel
theorem dX2_readBrackets_16 : decode cX2_readBrackets 16 = .ok (.if_icmp .ge 91, 3) := by decide +kernel
theorem dX2_readBrackets_0 : decode cX2_readBrackets 0 = .ok (.aload_n 0, 1) := by decide +kernel
theorem dX2_readBrackets_1 : decode cX2_readBrackets 1 = .ok (.bipush 94, 2) := by decide +kernel
theorem dX2_readBrackets_3 : decode cX2_readBrackets 3 = .ok (.invokevirtual 51, 3) := by decide +kernel
theorem dX2_readBrackets_6 : decode cX2_readBrackets 6 = .ok (.istore_n 1, 1) := by decide +kernel
theorem dX2_readBrackets_7 : decode cX2_readBrackets 7 = .ok (.iconst 0, 1) := by decide +kernel
theorem dX2_readBrackets_8 : decode cX2_readBrackets 8 = .ok (.istore_n 2, 1) := by decide +kernel
theorem dX2_readBrackets_9 : decode cX2_readBrackets 9 = .ok (.iconst 0, 1) := by decide +kernel
theorem dX2_readBrackets_10 : decode cX2_readBrackets 10 = .ok (.istore_n 3, 1) := by decide +kernel
theorem dX2_readElement_115 : decode cX2_readElement 115 = .ok (.iconst 1, 1) := by decide +kernel
theorem dX2_readElement_116 : decode cX2_readElement 116 = .ok (.ireturn, 1) := by decide +kernel
theorem dX2_readElement_114 : decode cX2_readElement 114 = .ok (.ireturn, 1) := by decide +kernel
theorem dX2_readElement_113 : decode cX2_readElement 113 = .ok (.iconst 0, 1) := by decide +kernel
theorem dX2_readElement_109 : decode cX2_readElement 109 = .ok (.iconst 1, 1) := by decide +kernel
theorem dX2_readElement_110 : decode cX2_readElement 110 = .ok (.goto 4, 3) := by decide +kernel
theorem dX2_readElement_102 : decode cX2_readElement 102 = .ok (.aload_n 0, 1) := by decide +kernel
theorem dX2_readElement_103 : decode cX2_readElement 103 = .ok (.invokevirtual 107, 3) := by decide +kernel
theorem dX2_readElement_106 : decode cX2_readElement 106 = .ok (.ifCond .eq 7, 3) := by decide +kernel
theorem dX2_readElement_96 : decode cX2_readElement 96 = .ok (.iload_n 1, 1) := by decide +kernel
theorem dX2_readElement_97 : decode cX2_readElement 97 = .ok (.bipush 91, 2) := by decide +kernel
theorem dX2_readElement_99 : decode cX2_readElement 99 = .ok (.if_icmp .ne 14, 3) := by decide +kernel
theorem dX2_readElement_90 : decode cX2_readElement 90 = .ok (.putfield 29, 3) := by decide +kernel
theorem dX2_readElement_93 : decode cX2_readElement 93 = .ok (.goto 22, 3) := by decide +kernel
theorem dX2_readElement_89 : decode cX2_readElement 89 = .ok (.iconst 0, 1) := by decide +kernel
theorem dX2_readElement_85 : decode cX2_readElement 85 = .ok (.iconst 1, 1) := by decide +kernel
theorem dX2_readElement_86 : decode cX2_readElement 86 = .ok (.goto 4, 3) := by decide +kernel
theorem dX2_readElement_77 : decode cX2_readElement 77 = .ok (.aload_n 0, 1) := by decide +kernel
theorem dX2_readElement_78 : decode cX2_readElement 78 = .ok (.getfield 26, 3) := by decide +kernel
theorem dX2_readElement_81 : decode cX2_readElement 81 = .ok (.iconst (-1), 1) := by decide +kernel
theorem dX2_readElement_82 : decode cX2_readElement 82 = .ok (.if_icmp .ne 7, 3) := by decide +kernel
theorem dX2_readElement_56 : decode cX2_readElement 56 = .ok (.aload_n 0, 1) := by decide +kernel
theorem dX2_readElement_57 : decode cX2_readElement 57 = .ok (.aload_n 0, 1) := by decide +kernel
theorem dX2_readElement_58 : decode cX2_readElement 58 = .ok (.getfield 22, 3) := by decide +kernel
theorem dX2_readElement_61 : decode cX2_readElement 61 = .ok (.iload_n 1, 1) := by decide +kernel
theorem dX2_readElement_62 : decode cX2_readElement 62 = .ok (.bipush 65, 2) := by decide +kernel
theorem dX2_readElement_64 : decode cX2_readElement 64 = .ok (.isub, 1) := by decide +kernel
theorem dX2_readElement_65 : decode cX2_readElement 65 = .ok (.iaload, 1) := by decide +kernel
theorem dX2_readElement_66 : decode cX2_readElement 66 = .ok (.putfield 26, 3) := by decide +kernel
theorem dX2_readElement_69 : decode cX2_readElement 69 = .ok (.aload_n 0, 1) := by decide +kernel
theorem dX2_readElement_70 : decode cX2_readElement 70 = .ok (.aload_n 0, 1) := by decide +kernel
theorem dX2_readElement_71 : decode cX2_readElement 71 = .ok (.getfield 29, 3) := by decide +kernel
theorem dX2_readElement_74 : decode cX2_readElement 74 = .ok (.ifCond .ne 11, 3) := by decide +kernel
theorem dX2_readElement_49 : decode cX2_readElement 49 = .ok (.iload_n 1, 1) := by decide +kernel
theorem dX2_readElement_50 : decode cX2_readElement 50 = .ok (.invokestatic 36, 3) := by decide +kernel
theorem dX2_readElement_53 : decode cX2_readElement 53 = .ok (.ifCond .eq 43, 3) := by decide +kernel
theorem dX2_readElement_40 : decode cX2_readElement 40 = .ok (.aload_n 0, 1) := by decide +kernel
theorem dX2_readElement_41 : decode cX2_readElement 41 = .ok (.ldc 106, 2) := by decide +kernel
theorem dX2_readElement_43 : decode cX2_readElement 43 = .ok (.putfield 26, 3) := by decide +kernel
theorem dX2_readElement_46 : decode cX2_readElement 46 = .ok (.goto 69, 3) := by decide +kernel
theorem dX2_readElement_34 : decode cX2_readElement 34 = .ok (.iload_n 1, 1) := by decide +kernel
theorem dX2_readElement_35 : decode cX2_readElement 35 = .ok (.bipush 46, 2) := by decide +kernel
theorem dX2_readElement_37 : decode cX2_readElement 37 = .ok (.if_icmp .ne 12, 3) := by decide +kernel
theorem dX2_readElement_22 : decode cX2_readElement 22 = .ok (.aload_n 0, 1) := by decide +kernel
theorem dX2_readElement_23 : decode cX2_readElement 23 = .ok (.iload_n 1, 1) := by decide +kernel
theorem dX2_readElement_24 : decode cX2_readElement 24 = .ok (.iload_n 1, 1) := by decide +kernel
theorem dX2_readElement_25 : decode cX2_readElement 25 = .ok (.invokestatic 102, 3) := by decide +kernel
theorem dX2_readElement_28 : decode cX2_readElement 28 = .ok (.putfield 26, 3) := by decide +kernel
theorem dX2_readElement_31 : decode cX2_readElement 31 = .ok (.goto 84, 3) := by decide +kernel
theorem dX2_readElement_0 : decode cX2_readElement 0 = .ok (.aload_n 0, 1) := by decide +kernel
theorem dX2_readElement_1 : decode cX2_readElement 1 = .ok (.invokevirtual 71, 3) := by decide +kernel
theorem dX2_readElement_4 : decode cX2_readElement 4 = .ok (.istore_n 1, 1) := by decide +kernel
theorem dX2_readElement_5 : decode cX2_readElement 5 = .ok (.aload_n 0, 1) := by decide +kernel
theorem dX2_readElement_6 : decode cX2_readElement 6 = .ok (.dup, 1) := by decide +kernel
theorem dX2_readElement_7 : decode cX2_readElement 7 = .ok (.getfield 19, 3) := by decide +kernel
theorem dX2_readElement_10 : decode cX2_readElement 10 = .ok (.iconst 1, 1) := by decide +kernel
theorem dX2_readElement_11 : decode cX2_readElement 11 = .ok (.iadd, 1) := by decide +kernel
theorem dX2_readElement_12 : decode cX2_readElement 12 = .ok (.putfield 19, 3) := by decide +kernel
theorem dX2_readElement_15 : decode cX2_readElement 15 = .ok (.iload_n 1, 1) := by decide +kernel
theorem dX2_readElement_16 : decode cX2_readElement 16 = .ok (.invokestatic 95, 3) := by decide +kernel
theorem dX2_readElement_19 : decode cX2_readElement 19 = .ok (.ifCond .eq 15, 3) := by decide +kernel
theorem dX2_readDefinition_33 : decode cX2_readDefinition 33 = .ok (.ireturn, 1) := by decide +kernel
theorem dX2_readDefinition_32 : decode cX2_readDefinition 32 = .ok (.iconst 0, 1) := by decide +kernel
theorem dX2_readDefinition_28 : decode cX2_readDefinition 28 = .ok (.iconst 1, 1) := by decide +kernel
theorem dX2_readDefinition_29 : decode cX2_readDefinition 29 = .ok (.goto 4, 3) := by decide +kernel
theorem dX2_readDefinition_17 : decode cX2_readDefinition 17 = .ok (.aload_n 0, 1) := by decide +kernel
theorem dX2_readDefinition_18 : decode cX2_readDefinition 18 = .ok (.getfield 19, 3) := by decide +kernel
theorem dX2_readDefinition_21 : decode cX2_readDefinition 21 = .ok (.aload_n 0, 1) := by decide +kernel
theorem dX2_readDefinition_22 : decode cX2_readDefinition 22 = .ok (.getfield 15, 3) := by decide +kernel
theorem dX2_readDefinition_25 : decode cX2_readDefinition 25 = .ok (.if_icmp .ne 7, 3) := by decide +kernel
theorem dX2_readDefinition_0 : decode cX2_readDefinition 0 = .ok (.aload_n 0, 1) := by decide +kernel
theorem dX2_readDefinition_1 : decode cX2_readDefinition 1 = .ok (.iconst 2, 1) := by decide +kernel
theorem dX2_readDefinition_2 : decode cX2_readDefinition 2 = .ok (.putfield 19, 3) := by decide +kernel
theorem dX2_readDefinition_5 : decode cX2_readDefinition 5 = .ok (.aload_n 0, 1) := by decide +kernel
theorem dX2_readDefinition_6 : decode cX2_readDefinition 6 = .ok (.iconst 0, 1) := by decide +kernel
theorem dX2_readDefinition_7 : decode cX2_readDefinition 7 = .ok (.putfield 29, 3) := by decide +kernel
theorem dX2_readDefinition_10 : decode cX2_readDefinition 10 = .ok (.aload_n 0, 1) := by decide +kernel
theorem dX2_readDefinition_11 : decode cX2_readDefinition 11 = .ok (.invokevirtual 40, 3) := by decide +kernel
theorem dX2_readDefinition_14 : decode cX2_readDefinition 14 = .ok (.ifCond .eq 18, 3) := by decide +kernel
theorem dX2_define_30 : decode cX2_define 30 = .ok (.return_, 1) := by decide +kernel
theorem dX2_define_12 : decode cX2_define 12 = .ok (.aload_n 0, 1) := by decide +kernel
theorem dX2_define_13 : decode cX2_define 13 = .ok (.getfield 22, 3) := by decide +kernel
theorem dX2_define_16 : decode cX2_define 16 = .ok (.aload_n 0, 1) := by decide +kernel
theorem dX2_define_17 : decode cX2_define 17 = .ok (.getfield 9, 3) := by decide +kernel
theorem dX2_define_20 : decode cX2_define 20 = .ok (.iconst 0, 1) := by decide +kernel
theorem dX2_define_21 : decode cX2_define 21 = .ok (.caload, 1) := by decide +kernel
theorem dX2_define_22 : decode cX2_define 22 = .ok (.bipush 65, 2) := by decide +kernel
theorem dX2_define_24 : decode cX2_define 24 = .ok (.isub, 1) := by decide +kernel
theorem dX2_define_25 : decode cX2_define 25 = .ok (.aload_n 0, 1) := by decide +kernel
theorem dX2_define_26 : decode cX2_define 26 = .ok (.getfield 26, 3) := by decide +kernel
theorem dX2_define_29 : decode cX2_define 29 = .ok (.iastore, 1) := by decide +kernel
theorem dX2_define_0 : decode cX2_define 0 = .ok (.aload_n 0, 1) := by decide +kernel
theorem dX2_define_1 : decode cX2_define 1 = .ok (.getfield 9, 3) := by decide +kernel
theorem dX2_define_4 : decode cX2_define 4 = .ok (.iconst 0, 1) := by decide +kernel
theorem dX2_define_5 : decode cX2_define 5 = .ok (.caload, 1) := by decide +kernel
theorem dX2_define_6 : decode cX2_define 6 = .ok (.invokestatic 36, 3) := by decide +kernel
theorem dX2_define_9 : decode cX2_define 9 = .ok (.ifCond .eq 21, 3) := by decide +kernel
theorem dX4_endDefinition_25 : decode cX4_endDefinition 25 = .ok (.aload_n 0, 1) := by decide +kernel
theorem dX4_endDefinition_26 : decode cX4_endDefinition 26 = .ok (.getfield 12, 3) := by decide +kernel
theorem dX4_endDefinition_29 : decode cX4_endDefinition 29 = .ok (.invokevirtual 106, 3) := by decide +kernel
theorem dX4_endDefinition_32 : decode cX4_endDefinition 32 = .ok (.iconst 1, 1) := by decide +kernel
theorem dX4_endDefinition_33 : decode cX4_endDefinition 33 = .ok (.ireturn, 1) := by decide +kernel
theorem dX4_endDefinition_22 : decode cX4_endDefinition 22 = .ok (.bipush (-2), 2) := by decide +kernel
theorem dX4_endDefinition_24 : decode cX4_endDefinition 24 = .ok (.ireturn, 1) := by decide +kernel
theorem dX4_endDefinition_12 : decode cX4_endDefinition 12 = .ok (.aload_n 0, 1) := by decide +kernel
theorem dX4_endDefinition_13 : decode cX4_endDefinition 13 = .ok (.getfield 12, 3) := by decide +kernel
theorem dX4_endDefinition_16 : decode cX4_endDefinition 16 = .ok (.getfield 103, 3) := by decide +kernel
theorem dX4_endDefinition_19 : decode cX4_endDefinition 19 = .ok (.ifCond .eq 6, 3) := by decide +kernel
theorem dX4_endDefinition_10 : decode cX4_endDefinition 10 = .ok (.iconst (-1), 1) := by decide +kernel
theorem dX4_endDefinition_11 : decode cX4_endDefinition 11 = .ok (.ireturn, 1) := by decide +kernel
theorem dX4_endDefinition_0 : decode cX4_endDefinition 0 = .ok (.aload_n 0, 1) := by decide +kernel
theorem dX4_endDefinition_1 : decode cX4_endDefinition 1 = .ok (.getfield 12, 3) := by decide +kernel
theorem dX4_endDefinition_4 : decode cX4_endDefinition 4 = .ok (.invokevirtual 100, 3) := by decide +kernel
theorem dX4_endDefinition_7 : decode cX4_endDefinition 7 = .ok (.ifCond .ne 5, 3) := by decide +kernel
theorem dX1_clear_0 : decode cX1_clear 0 = .ok (.aload_n 0, 1) := by decide +kernel
theorem dX1_clear_1 : decode cX1_clear 1 = .ok (.iconst 0, 1) := by decide +kernel
theorem dX1_clear_2 : decode cX1_clear 2 = .ok (.putfield 21, 3) := by decide +kernel
theorem dX1_clear_5 : decode cX1_clear 5 = .ok (.aload_n 0, 1) := by decide +kernel
theorem dX1_clear_6 : decode cX1_clear 6 = .ok (.iconst 0, 1) := by decide +kernel
theorem dX1_clear_7 : decode cX1_clear 7 = .ok (.putfield 25, 3) := by decide +kernel
theorem dX1_clear_10 : decode cX1_clear 10 = .ok (.aload_n 0, 1) := by decide +kernel
theorem dX1_clear_11 : decode cX1_clear 11 = .ok (.iconst 0, 1) := by decide +kernel
theorem dX1_clear_12 : decode cX1_clear 12 = .ok (.putfield 28, 3) := by decide +kernel
theorem dX1_clear_15 : decode cX1_clear 15 = .ok (.aload_n 0, 1) := by decide +kernel
theorem dX1_clear_16 : decode cX1_clear 16 = .ok (.iconst 0, 1) := by decide +kernel
theorem dX1_clear_17 : decode cX1_clear 17 = .ok (.putfield 31, 3) := by decide +kernel
theorem dX1_clear_20 : decode cX1_clear 20 = .ok (.aload_n 0, 1) := by decide +kernel
theorem dX1_clear_21 : decode cX1_clear 21 = .ok (.iconst 0, 1) := by decide +kernel
theorem dX1_clear_22 : decode cX1_clear 22 = .ok (.putfield 41, 3) := by decide +kernel
theorem dX1_clear_25 : decode cX1_clear 25 = .ok (.aload_n 0, 1) := by decide +kernel
theorem dX1_clear_26 : decode cX1_clear 26 = .ok (.iconst 0, 1) := by decide +kernel
theorem dX1_clear_27 : decode cX1_clear 27 = .ok (.putfield 48, 3) := by decide +kernel
theorem dX1_clear_30 : decode cX1_clear 30 = .ok (.aload_n 0, 1) := by decide +kernel
theorem dX1_clear_31 : decode cX1_clear 31 = .ok (.iconst 0, 1) := by decide +kernel
theorem dX1_clear_32 : decode cX1_clear 32 = .ok (.putfield 51, 3) := by decide +kernel
theorem dX1_clear_35 : decode cX1_clear 35 = .ok (.aload_n 0, 1) := by decide +kernel
theorem dX1_clear_36 : decode cX1_clear 36 = .ok (.iconst 0, 1) := by decide +kernel
theorem dX1_clear_37 : decode cX1_clear 37 = .ok (.putfield 54, 3) := by decide +kernel
theorem dX1_clear_40 : decode cX1_clear 40 = .ok (.return_, 1) := by decide +kernel
theorem dX2_hasOpeningBrace_29 : decode cX2_hasOpeningBrace 29 = .ok (.iconst 0, 1) := by decide +kernel
theorem dX2_hasOpeningBrace_30 : decode cX2_hasOpeningBrace 30 = .ok (.ireturn, 1) := by decide +kernel
theorem dX2_hasOpeningBrace_23 : decode cX2_hasOpeningBrace 23 = .ok (.iinc 1 1, 3) := by decide +kernel
theorem dX2_hasOpeningBrace_26 : decode cX2_hasOpeningBrace 26 = .ok (.goto (-24), 3) := by decide +kernel
theorem dX2_hasOpeningBrace_21 : decode cX2_hasOpeningBrace 21 = .ok (.iconst 1, 1) := by decide +kernel
theorem dX2_hasOpeningBrace_22 : decode cX2_hasOpeningBrace 22 = .ok (.ireturn, 1) := by decide +kernel
theorem dX2_hasOpeningBrace_10 : decode cX2_hasOpeningBrace 10 = .ok (.aload_n 0, 1) := by decide +kernel
theorem dX2_hasOpeningBrace_11 : decode cX2_hasOpeningBrace 11 = .ok (.getfield 9, 3) := by decide +kernel
theorem dX2_hasOpeningBrace_14 : decode cX2_hasOpeningBrace 14 = .ok (.iload_n 1, 1) := by decide +kernel
theorem dX2_hasOpeningBrace_15 : decode cX2_hasOpeningBrace 15 = .ok (.caload, 1) := by decide +kernel
theorem dX2_hasOpeningBrace_16 : decode cX2_hasOpeningBrace 16 = .ok (.bipush 123, 2) := by decide +kernel
theorem dX2_hasOpeningBrace_18 : decode cX2_hasOpeningBrace 18 = .ok (.if_icmp .ne 5, 3) := by decide +kernel
theorem dX2_hasOpeningBrace_2 : decode cX2_hasOpeningBrace 2 = .ok (.iload_n 1, 1) := by decide +kernel
theorem dX2_hasOpeningBrace_3 : decode cX2_hasOpeningBrace 3 = .ok (.aload_n 0, 1) := by decide +kernel
theorem dX2_hasOpeningBrace_4 : decode cX2_hasOpeningBrace 4 = .ok (.getfield 15, 3) := by decide +kernel
theorem dX2_hasOpeningBrace_7 : decode cX2_hasOpeningBrace 7 = .ok (.if_icmp .ge 22, 3) := by decide +kernel
theorem dX2_hasOpeningBrace_0 : decode cX2_hasOpeningBrace 0 = .ok (.iconst 0, 1) := by decide +kernel
theorem dX2_hasOpeningBrace_1 : decode cX2_hasOpeningBrace 1 = .ok (.istore_n 1, 1) := by decide +kernel
theorem dX2_beginsElement_31 : decode cX2_beginsElement 31 = .ok (.ireturn, 1) := by decide +kernel
theorem dX2_beginsElement_30 : decode cX2_beginsElement 30 = .ok (.iconst 0, 1) := by decide +kernel
theorem dX2_beginsElement_26 : decode cX2_beginsElement 26 = .ok (.iconst 1, 1) := by decide +kernel
theorem dX2_beginsElement_27 : decode cX2_beginsElement 27 = .ok (.goto 4, 3) := by decide +kernel
theorem dX2_beginsElement_20 : decode cX2_beginsElement 20 = .ok (.iload_n 0, 1) := by decide +kernel
theorem dX2_beginsElement_21 : decode cX2_beginsElement 21 = .ok (.bipush 91, 2) := by decide +kernel
theorem dX2_beginsElement_23 : decode cX2_beginsElement 23 = .ok (.if_icmp .ne 7, 3) := by decide +kernel
theorem dX2_beginsElement_14 : decode cX2_beginsElement 14 = .ok (.iload_n 0, 1) := by decide +kernel
theorem dX2_beginsElement_15 : decode cX2_beginsElement 15 = .ok (.bipush 46, 2) := by decide +kernel
theorem dX2_beginsElement_17 : decode cX2_beginsElement 17 = .ok (.if_icmp .eq 9, 3) := by decide +kernel
theorem dX2_beginsElement_7 : decode cX2_beginsElement 7 = .ok (.iload_n 0, 1) := by decide +kernel
theorem dX2_beginsElement_8 : decode cX2_beginsElement 8 = .ok (.invokestatic 36, 3) := by decide +kernel
theorem dX2_beginsElement_11 : decode cX2_beginsElement 11 = .ok (.ifCond .ne 15, 3) := by decide +kernel
theorem dX2_beginsElement_0 : decode cX2_beginsElement 0 = .ok (.iload_n 0, 1) := by decide +kernel
theorem dX2_beginsElement_1 : decode cX2_beginsElement 1 = .ok (.invokestatic 95, 3) := by decide +kernel
theorem dX2_beginsElement_4 : decode cX2_beginsElement 4 = .ok (.ifCond .ne 22, 3) := by decide +kernel
theorem dX2_readQuantifier_35 : decode cX2_readQuantifier 35 = .ok (.iconst 0, 1) := by decide +kernel
theorem dX2_readQuantifier_36 : decode cX2_readQuantifier 36 = .ok (.ireturn, 1) := by decide +kernel
theorem dX2_readQuantifier_23 : decode cX2_readQuantifier 23 = .ok (.aload_n 0, 1) := by decide +kernel
theorem dX2_readQuantifier_24 : decode cX2_readQuantifier 24 = .ok (.dup, 1) := by decide +kernel
theorem dX2_readQuantifier_25 : decode cX2_readQuantifier 25 = .ok (.getfield 19, 3) := by decide +kernel
theorem dX2_readQuantifier_28 : decode cX2_readQuantifier 28 = .ok (.iconst 1, 1) := by decide +kernel
theorem dX2_readQuantifier_29 : decode cX2_readQuantifier 29 = .ok (.iadd, 1) := by decide +kernel
theorem dX2_readQuantifier_30 : decode cX2_readQuantifier 30 = .ok (.putfield 19, 3) := by decide +kernel
theorem dX2_readQuantifier_33 : decode cX2_readQuantifier 33 = .ok (.iload_n 1, 1) := by decide +kernel
theorem dX2_readQuantifier_34 : decode cX2_readQuantifier 34 = .ok (.ireturn, 1) := by decide +kernel
theorem dX2_readQuantifier_17 : decode cX2_readQuantifier 17 = .ok (.iload_n 1, 1) := by decide +kernel
theorem dX2_readQuantifier_18 : decode cX2_readQuantifier 18 = .ok (.bipush 63, 2) := by decide +kernel
theorem dX2_readQuantifier_20 : decode cX2_readQuantifier 20 = .ok (.if_icmp .ne 15, 3) := by decide +kernel
theorem dX2_readQuantifier_11 : decode cX2_readQuantifier 11 = .ok (.iload_n 1, 1) := by decide +kernel
theorem dX2_readQuantifier_12 : decode cX2_readQuantifier 12 = .ok (.bipush 43, 2) := by decide +kernel
theorem dX2_readQuantifier_14 : decode cX2_readQuantifier 14 = .ok (.if_icmp .eq 9, 3) := by decide +kernel
theorem dX2_readQuantifier_0 : decode cX2_readQuantifier 0 = .ok (.aload_n 0, 1) := by decide +kernel
theorem dX2_readQuantifier_1 : decode cX2_readQuantifier 1 = .ok (.invokevirtual 71, 3) := by decide +kernel
theorem dX2_readQuantifier_4 : decode cX2_readQuantifier 4 = .ok (.istore_n 1, 1) := by decide +kernel
theorem dX2_readQuantifier_5 : decode cX2_readQuantifier 5 = .ok (.iload_n 1, 1) := by decide +kernel
theorem dX2_readQuantifier_6 : decode cX2_readQuantifier 6 = .ok (.bipush 42, 2) := by decide +kernel
theorem dX2_readQuantifier_8 : decode cX2_readQuantifier 8 = .ok (.if_icmp .eq 15, 3) := by decide +kernel
-- X2_readBrackets
def wX2_readBrackets : List Cond := Cond.code yX2_readBrackets cX2_readBrackets 6 (some .boolean) :: kv_tb
abbrev SX2_readBrackets (pc : Nat) (F : kv_D) : Prop := kv_S cX2_readBrackets 6 RX2 wX2_readBrackets (some .boolean) false 1 21 none pc F
def fX2_readBrackets_143 (K : Nat → kv_D) : kv_D := o_iret .boolean
theorem sX2_readBrackets_143 {K : Nat → kv_D} (hK : ∀ pc, SX2_readBrackets pc (K pc)) : SX2_readBrackets 143 (fX2_readBrackets_143 K) := k_iret dX2_readBrackets_143 rfl
theorem nX2_readBrackets_143 : kv_cn (fun K => fX2_readBrackets_143 K) := cn_c _
def fX2_readBrackets_142 (K : Nat → kv_D) : kv_D := o_const 0 ((fX2_readBrackets_143 K))
theorem sX2_readBrackets_142 {K : Nat → kv_D} (hK : ∀ pc, SX2_readBrackets pc (K pc)) : SX2_readBrackets 142 (fX2_readBrackets_142 K) := k_iconst dX2_readBrackets_142 (by decide +kernel) ((sX2_readBrackets_143 hK))
theorem nX2_readBrackets_142 : kv_cn (fun K => fX2_readBrackets_142 K) := cn_const 0 (nX2_readBrackets_143)
def fX2_readBrackets_138 (K : Nat → kv_D) : kv_D := o_const 1 ((fX2_readBrackets_143 K))
theorem sX2_readBrackets_138 {K : Nat → kv_D} (hK : ∀ pc, SX2_readBrackets pc (K pc)) : SX2_readBrackets 138 (fX2_readBrackets_138 K) := k_iconst dX2_readBrackets_138 (by decide +kernel) (k_goto dX2_readBrackets_139 rfl (sX2_readBrackets_143 hK))
theorem nX2_readBrackets_138 : kv_cn (fun K => fX2_readBrackets_138 K) := cn_const 1 (nX2_readBrackets_143)
def fX2_readBrackets_129 (K : Nat → kv_D) : kv_D := o_aload 0 (o_const 93 (o_callV 2 1 mX2_skip (o_ifeq (fX2_readBrackets_142 K) (fX2_readBrackets_138 K))))
theorem sX2_readBrackets_129 {K : Nat → kv_D} (hK : ∀ pc, SX2_readBrackets pc (K pc)) : SX2_readBrackets 129 (fX2_readBrackets_129 K) := k_aload_n dX2_readBrackets_129 rfl (k_bipush dX2_readBrackets_130 (by decide +kernel) (k_callV (q := (RX2, TX2, 6)) dX2_readBrackets_132 cX2_skip_ct rfl (kv_goodV mw_216 mw_218 sel_X2_skip mw_2 mw_219) (by decide +kernel) rfl (by decide) (by decide) (k_ifeq dX2_readBrackets_135 rfl (sX2_readBrackets_142 hK) (sX2_readBrackets_138 hK))))
theorem nX2_readBrackets_129 : kv_cn (fun K => fX2_readBrackets_129 K) := cn_aload 0 (cn_const 93 (cn_callV 2 1 mX2_skip (cn_ifeq nX2_readBrackets_142 nX2_readBrackets_138)))
def fX2_readBrackets_122 (K : Nat → kv_D) : kv_D := o_putf 2 4 .int (o_iload 2 (o_ifeq (fX2_readBrackets_142 K) (fX2_readBrackets_129 K)))
theorem sX2_readBrackets_122 {K : Nat → kv_D} (hK : ∀ pc, SX2_readBrackets pc (K pc)) : SX2_readBrackets 122 (fX2_readBrackets_122 K) := k_putf (C := RX2) (T := TX2) (N := 6) (ci := 2) (index := 26) (kf := 4) (ty := .int) dX2_readBrackets_122 rfl (fun w h => List.mem_cons_of_mem _ (inX2 w h)) tyX2 tyX2_ok nmX2 (by decide) (List.mem_cons_of_mem _ mw_31) rfl rfl (k_iload_n dX2_readBrackets_125 rfl (k_ifeq dX2_readBrackets_126 rfl (sX2_readBrackets_142 hK) (sX2_readBrackets_129 hK)))
theorem nX2_readBrackets_122 : kv_cn (fun K => fX2_readBrackets_122 K) := cn_putf 2 4 .int (cn_iload 2 (cn_ifeq nX2_readBrackets_142 nX2_readBrackets_129))
def fX2_readBrackets_121 (K : Nat → kv_D) : kv_D := o_iload 2 ((fX2_readBrackets_122 K))
theorem sX2_readBrackets_121 {K : Nat → kv_D} (hK : ∀ pc, SX2_readBrackets pc (K pc)) : SX2_readBrackets 121 (fX2_readBrackets_121 K) := k_iload_n dX2_readBrackets_121 rfl ((sX2_readBrackets_122 hK))
theorem nX2_readBrackets_121 : kv_cn (fun K => fX2_readBrackets_121 K) := cn_iload 2 (nX2_readBrackets_122)
def fX2_readBrackets_112 (K : Nat → kv_D) : kv_D := o_const 67108863 (o_iload 2 (o_const (-1) (o_ixor (o_iand ((fX2_readBrackets_122 K))))))
theorem sX2_readBrackets_112 {K : Nat → kv_D} (hK : ∀ pc, SX2_readBrackets pc (K pc)) : SX2_readBrackets 112 (fX2_readBrackets_112 K) := k_ldc dX2_readBrackets_112 (List.mem_cons_of_mem _ mw_211) (k_iload_n dX2_readBrackets_114 rfl (k_iconst dX2_readBrackets_115 (by decide +kernel) (k_ixor dX2_readBrackets_116 (k_iand dX2_readBrackets_117 (k_goto dX2_readBrackets_118 rfl (sX2_readBrackets_122 hK))))))
theorem nX2_readBrackets_112 : kv_cn (fun K => fX2_readBrackets_112 K) := cn_const 67108863 (cn_iload 2 (cn_const (-1) (cn_ixor (cn_iand (nX2_readBrackets_122)))))
def fX2_readBrackets_107 (K : Nat → kv_D) : kv_D := o_aload 0 (o_iload 1 (o_ifeq (fX2_readBrackets_121 K) (fX2_readBrackets_112 K)))
theorem sX2_readBrackets_107 {K : Nat → kv_D} (hK : ∀ pc, SX2_readBrackets pc (K pc)) : SX2_readBrackets 107 (fX2_readBrackets_107 K) := k_aload_n dX2_readBrackets_107 rfl (k_iload_n dX2_readBrackets_108 rfl (k_ifeq dX2_readBrackets_109 rfl (sX2_readBrackets_121 hK) (sX2_readBrackets_112 hK)))
theorem nX2_readBrackets_107 : kv_cn (fun K => fX2_readBrackets_107 K) := cn_aload 0 (cn_iload 1 (cn_ifeq nX2_readBrackets_121 nX2_readBrackets_112))
def fX2_readBrackets_91 (K : Nat → kv_D) : kv_D := o_iload 2 (o_iload 4 (o_iload 5 (o_callS 2 mX2_lettersFromTo (o_ior (o_istore 2 (o_iinc 3 1 ((K 11))))))))
theorem sX2_readBrackets_91 {K : Nat → kv_D} (hK : ∀ pc, SX2_readBrackets pc (K pc)) : SX2_readBrackets 91 (fX2_readBrackets_91 K) := k_iload_n dX2_readBrackets_91 rfl (k_iload dX2_readBrackets_92 (k_iload dX2_readBrackets_94 (k_callS dX2_readBrackets_96 cX2_lettersFromTo_ct rfl (kv_goodS mw_208 mw_209 mw_2 mw_210) (by decide +kernel) (by decide) (by decide) (k_ior dX2_readBrackets_99 (k_istore_n dX2_readBrackets_100 rfl (by decide) (k_iinc dX2_readBrackets_101 (by decide +kernel) (by decide) (k_goto dX2_readBrackets_104 rfl (hK 11))))))))
theorem nX2_readBrackets_91 : kv_cn (fun K => fX2_readBrackets_91 K) := cn_iload 2 (cn_iload 4 (cn_iload 5 (cn_callS 2 mX2_lettersFromTo (cn_ior (cn_istore 2 (cn_iinc 3 1 ((cn_K 11))))))))
def fX2_readBrackets_89 (K : Nat → kv_D) : kv_D := o_const 0 (o_iret .boolean)
theorem sX2_readBrackets_89 {K : Nat → kv_D} (hK : ∀ pc, SX2_readBrackets pc (K pc)) : SX2_readBrackets 89 (fX2_readBrackets_89 K) := k_iconst dX2_readBrackets_89 (by decide +kernel) (k_iret dX2_readBrackets_90 rfl)
theorem nX2_readBrackets_89 : kv_cn (fun K => fX2_readBrackets_89 K) := cn_const 0 (cn_c _)
def fX2_readBrackets_82 (K : Nat → kv_D) : kv_D := o_iload 5 (o_iload 4 (o_icge (fX2_readBrackets_91 K) (fX2_readBrackets_89 K)))
theorem sX2_readBrackets_82 {K : Nat → kv_D} (hK : ∀ pc, SX2_readBrackets pc (K pc)) : SX2_readBrackets 82 (fX2_readBrackets_82 K) := k_iload dX2_readBrackets_82 (k_iload dX2_readBrackets_84 (k_icge dX2_readBrackets_86 rfl (sX2_readBrackets_91 hK) (sX2_readBrackets_89 hK)))
theorem nX2_readBrackets_82 : kv_cn (fun K => fX2_readBrackets_82 K) := cn_iload 5 (cn_iload 4 (cn_icge nX2_readBrackets_91 nX2_readBrackets_89))
def fX2_readBrackets_74 (K : Nat → kv_D) : kv_D := o_iload 5 (o_callS 1 mX4_isSmall (o_ifeq (fX2_readBrackets_89 K) (fX2_readBrackets_82 K)))
theorem sX2_readBrackets_74 {K : Nat → kv_D} (hK : ∀ pc, SX2_readBrackets pc (K pc)) : SX2_readBrackets 74 (fX2_readBrackets_74 K) := k_iload dX2_readBrackets_74 (k_callSN dX2_readBrackets_76 cX4_isSmall_ct rfl (kv_goodC mw_207) mw_205 (List.mem_cons_of_mem _ mw_1) (List.mem_cons_of_mem _ mw_206) (by decide +kernel) (by decide) (by decide) (k_ifeq dX2_readBrackets_79 rfl (sX2_readBrackets_89 hK) (sX2_readBrackets_82 hK)))
theorem nX2_readBrackets_74 : kv_cn (fun K => fX2_readBrackets_74 K) := cn_iload 5 (cn_callS 1 mX4_isSmall (cn_ifeq nX2_readBrackets_89 nX2_readBrackets_82))
def fX2_readBrackets_58 (K : Nat → kv_D) : kv_D := o_aload 0 (o_callV 2 0 mX2_next (o_istore 5 (o_aload 0 (o_dup (o_getf 2 2 (o_const 1 (o_iadd (o_putf 2 2 .int ((fX2_readBrackets_74 K))))))))))
theorem sX2_readBrackets_58 {K : Nat → kv_D} (hK : ∀ pc, SX2_readBrackets pc (K pc)) : SX2_readBrackets 58 (fX2_readBrackets_58 K) := k_aload_n dX2_readBrackets_58 rfl (k_callV (q := (RX2, TX2, 6)) dX2_readBrackets_59 cX2_next_ct rfl (kv_goodV mw_201 mw_203 sel_X2_next mw_2 mw_204) (by decide +kernel) rfl (by decide) (by decide) (k_istore dX2_readBrackets_62 (by decide) (k_aload_n dX2_readBrackets_64 rfl (k_dup dX2_readBrackets_65 (k_getf (C := RX2) (T := TX2) (N := 6) (ci := 2) (index := 19) (kf := 2) dX2_readBrackets_66 rfl (fun w h => List.mem_cons_of_mem _ (inX2 w h)) (by decide) (List.mem_cons_of_mem _ mw_29) (k_iconst dX2_readBrackets_69 (by decide +kernel) (k_iadd dX2_readBrackets_70 (k_putf (C := RX2) (T := TX2) (N := 6) (ci := 2) (index := 19) (kf := 2) (ty := .int) dX2_readBrackets_71 rfl (fun w h => List.mem_cons_of_mem _ (inX2 w h)) tyX2 tyX2_ok nmX2 (by decide) (List.mem_cons_of_mem _ mw_29) rfl rfl ((sX2_readBrackets_74 hK))))))))))
theorem nX2_readBrackets_58 : kv_cn (fun K => fX2_readBrackets_58 K) := cn_aload 0 (cn_callV 2 0 mX2_next (cn_istore 5 (cn_aload 0 (cn_dup (cn_getf 2 2 (cn_const 1 (cn_iadd (cn_putf 2 2 .int (nX2_readBrackets_74)))))))))
def fX2_readBrackets_29 (K : Nat → kv_D) : kv_D := o_aload 0 (o_callV 2 0 mX2_next (o_istore 4 (o_iload 4 (o_istore 5 (o_aload 0 (o_dup (o_getf 2 2 (o_const 1 (o_iadd (o_putf 2 2 .int (o_aload 0 (o_const 45 (o_callV 2 1 mX2_skip (o_ifeq (fX2_readBrackets_74 K) (fX2_readBrackets_58 K)))))))))))))))
theorem sX2_readBrackets_29 {K : Nat → kv_D} (hK : ∀ pc, SX2_readBrackets pc (K pc)) : SX2_readBrackets 29 (fX2_readBrackets_29 K) := k_aload_n dX2_readBrackets_29 rfl (k_callV (q := (RX2, TX2, 6)) dX2_readBrackets_30 cX2_next_ct rfl (kv_goodV mw_201 mw_203 sel_X2_next mw_2 mw_204) (by decide +kernel) rfl (by decide) (by decide) (k_istore dX2_readBrackets_33 (by decide) (k_iload dX2_readBrackets_35 (k_istore dX2_readBrackets_37 (by decide) (k_aload_n dX2_readBrackets_39 rfl (k_dup dX2_readBrackets_40 (k_getf (C := RX2) (T := TX2) (N := 6) (ci := 2) (index := 19) (kf := 2) dX2_readBrackets_41 rfl (fun w h => List.mem_cons_of_mem _ (inX2 w h)) (by decide) (List.mem_cons_of_mem _ mw_29) (k_iconst dX2_readBrackets_44 (by decide +kernel) (k_iadd dX2_readBrackets_45 (k_putf (C := RX2) (T := TX2) (N := 6) (ci := 2) (index := 19) (kf := 2) (ty := .int) dX2_readBrackets_46 rfl (fun w h => List.mem_cons_of_mem _ (inX2 w h)) tyX2 tyX2_ok nmX2 (by decide) (List.mem_cons_of_mem _ mw_29) rfl rfl (k_aload_n dX2_readBrackets_49 rfl (k_bipush dX2_readBrackets_50 (by decide +kernel) (k_callV (q := (RX2, TX2, 6)) dX2_readBrackets_52 cX2_skip_ct rfl (kv_goodV mw_216 mw_218 sel_X2_skip mw_2 mw_219) (by decide +kernel) rfl (by decide) (by decide) (k_ifeq dX2_readBrackets_55 rfl (sX2_readBrackets_74 hK) (sX2_readBrackets_58 hK)))))))))))))))
theorem nX2_readBrackets_29 : kv_cn (fun K => fX2_readBrackets_29 K) := cn_aload 0 (cn_callV 2 0 mX2_next (cn_istore 4 (cn_iload 4 (cn_istore 5 (cn_aload 0 (cn_dup (cn_getf 2 2 (cn_const 1 (cn_iadd (cn_putf 2 2 .int (cn_aload 0 (cn_const 45 (cn_callV 2 1 mX2_skip (cn_ifeq nX2_readBrackets_74 nX2_readBrackets_58))))))))))))))
def fX2_readBrackets_19 (K : Nat → kv_D) : kv_D := o_aload 0 (o_callV 2 0 mX2_next (o_callS 1 mX4_isSmall (o_ifeq (fX2_readBrackets_107 K) (fX2_readBrackets_29 K))))
theorem sX2_readBrackets_19 {K : Nat → kv_D} (hK : ∀ pc, SX2_readBrackets pc (K pc)) : SX2_readBrackets 19 (fX2_readBrackets_19 K) := k_aload_n dX2_readBrackets_19 rfl (k_callV (q := (RX2, TX2, 6)) dX2_readBrackets_20 cX2_next_ct rfl (kv_goodV mw_201 mw_203 sel_X2_next mw_2 mw_204) (by decide +kernel) rfl (by decide) (by decide) (k_callSN dX2_readBrackets_23 cX4_isSmall_ct rfl (kv_goodC mw_207) mw_205 (List.mem_cons_of_mem _ mw_1) (List.mem_cons_of_mem _ mw_206) (by decide +kernel) (by decide) (by decide) (k_ifeq dX2_readBrackets_26 rfl (sX2_readBrackets_107 hK) (sX2_readBrackets_29 hK))))
theorem nX2_readBrackets_19 : kv_cn (fun K => fX2_readBrackets_19 K) := cn_aload 0 (cn_callV 2 0 mX2_next (cn_callS 1 mX4_isSmall (cn_ifeq nX2_readBrackets_107 nX2_readBrackets_29)))
def fX2_readBrackets_11 (K : Nat → kv_D) : kv_D := o_iload 3 (o_aload 0 (o_getf 2 1 (o_icge (fX2_readBrackets_107 K) (fX2_readBrackets_19 K))))
theorem sX2_readBrackets_11 {K : Nat → kv_D} (hK : ∀ pc, SX2_readBrackets pc (K pc)) : SX2_readBrackets 11 (fX2_readBrackets_11 K) := k_iload_n dX2_readBrackets_11 rfl (k_aload_n dX2_readBrackets_12 rfl (k_getf (C := RX2) (T := TX2) (N := 6) (ci := 2) (index := 15) (kf := 1) dX2_readBrackets_13 rfl (fun w h => List.mem_cons_of_mem _ (inX2 w h)) (by decide) (List.mem_cons_of_mem _ mw_28) (k_icge dX2_readBrackets_16 rfl (sX2_readBrackets_107 hK) (sX2_readBrackets_19 hK))))
theorem nX2_readBrackets_11 : kv_cn (fun K => fX2_readBrackets_11 K) := cn_iload 3 (cn_aload 0 (cn_getf 2 1 (cn_icge nX2_readBrackets_107 nX2_readBrackets_19)))
def fX2_readBrackets_0 (K : Nat → kv_D) : kv_D := o_aload 0 (o_const 94 (o_callV 2 1 mX2_skip (o_istore 1 (o_const 0 (o_istore 2 (o_const 0 (o_istore 3 ((K 11)))))))))
theorem sX2_readBrackets_0 {K : Nat → kv_D} (hK : ∀ pc, SX2_readBrackets pc (K pc)) : SX2_readBrackets 0 (fX2_readBrackets_0 K) := k_aload_n dX2_readBrackets_0 rfl (k_bipush dX2_readBrackets_1 (by decide +kernel) (k_callV (q := (RX2, TX2, 6)) dX2_readBrackets_3 cX2_skip_ct rfl (kv_goodV mw_216 mw_218 sel_X2_skip mw_2 mw_219) (by decide +kernel) rfl (by decide) (by decide) (k_istore_n dX2_readBrackets_6 rfl (by decide) (k_iconst dX2_readBrackets_7 (by decide +kernel) (k_istore_n dX2_readBrackets_8 rfl (by decide) (k_iconst dX2_readBrackets_9 (by decide +kernel) (k_istore_n dX2_readBrackets_10 rfl (by decide) ((hK 11)))))))))
theorem nX2_readBrackets_0 : kv_cn (fun K => fX2_readBrackets_0 K) := cn_aload 0 (cn_const 94 (cn_callV 2 1 mX2_skip (cn_istore 1 (cn_const 0 (cn_istore 2 (cn_const 0 (cn_istore 3 ((cn_K 11)))))))))
def bX2_readBrackets (K : Nat → kv_D) (pc : Nat) : kv_D := if pc = 11 then fX2_readBrackets_11 K else fun _ _ _ _ _ => False
theorem hX2_readBrackets : ∀ pc, SX2_readBrackets pc (kv_lim (bX2_readBrackets) pc) := kv_lim_S (fun K hK pc => by
  unfold bX2_readBrackets
  by_cases q11 : pc = 11
  · rw [if_pos q11, q11]
    exact sX2_readBrackets_11 hK
  rw [if_neg q11]
  exact kv_none)
theorem uX2_readBrackets_11 {L : List (Option Value)} {st : List Value} {h : kv_H} {v : Option Value} {h' : kv_H} (hx : fX2_readBrackets_11 (kv_lim (bX2_readBrackets)) L st h v h') : kv_lim (bX2_readBrackets) 11 L st h v h' := kv_un (q := 11) (by have e : (fun K => bX2_readBrackets K 11) = fun K => fX2_readBrackets_11 K := (by funext K; rfl); rw [e]; exact nX2_readBrackets_11) (by have e : bX2_readBrackets (kv_lim (bX2_readBrackets)) 11 = fX2_readBrackets_11 (kv_lim (bX2_readBrackets)) := rfl; rw [e]; exact hx)
def mX2_readBrackets : kv_M := kv_in 1 6 (fX2_readBrackets_0 (kv_lim (bX2_readBrackets)))
theorem cX2_readBrackets_ct : kv_CT yX2_readBrackets wX2_readBrackets 1 21 mX2_readBrackets := kv_met (by decide) rfl rfl (by decide) (fun h => by cases h) (sX2_readBrackets_0 (hX2_readBrackets))
-- X2_readElement
def wX2_readElement : List Cond := Cond.code yX2_readElement cX2_readElement 2 (some .boolean) :: kv_tb
abbrev SX2_readElement (pc : Nat) (F : kv_D) : Prop := kv_S cX2_readElement 2 RX2 wX2_readElement (some .boolean) false 2 46 none pc F
def fX2_readElement_115 : kv_D := o_const 1 (o_iret .boolean)
theorem sX2_readElement_115 : SX2_readElement 115 (fX2_readElement_115) := k_iconst dX2_readElement_115 (by decide +kernel) (k_iret dX2_readElement_116 rfl)
def fX2_readElement_114 : kv_D := o_iret .boolean
theorem sX2_readElement_114 : SX2_readElement 114 (fX2_readElement_114) := k_iret dX2_readElement_114 rfl
def fX2_readElement_113 : kv_D := o_const 0 ((fX2_readElement_114))
theorem sX2_readElement_113 : SX2_readElement 113 (fX2_readElement_113) := k_iconst dX2_readElement_113 (by decide +kernel) ((sX2_readElement_114))
def fX2_readElement_109 : kv_D := o_const 1 ((fX2_readElement_114))
theorem sX2_readElement_109 : SX2_readElement 109 (fX2_readElement_109) := k_iconst dX2_readElement_109 (by decide +kernel) (k_goto dX2_readElement_110 rfl (sX2_readElement_114))
def fX2_readElement_102 : kv_D := o_aload 0 (o_callV 2 0 mX2_readBrackets (o_ifeq (fX2_readElement_113) (fX2_readElement_109)))
theorem sX2_readElement_102 : SX2_readElement 102 (fX2_readElement_102) := k_aload_n dX2_readElement_102 rfl (k_callV (q := (RX2, TX2, 6)) dX2_readElement_103 cX2_readBrackets_ct rfl (kv_goodV mw_212 mw_214 sel_X2_readBrackets mw_2 mw_215) (by decide +kernel) rfl (by decide) (by decide) (k_ifeq dX2_readElement_106 rfl (sX2_readElement_113) (sX2_readElement_109)))
def fX2_readElement_96 : kv_D := o_iload 1 (o_const 91 (o_icne (fX2_readElement_113) (fX2_readElement_102)))
theorem sX2_readElement_96 : SX2_readElement 96 (fX2_readElement_96) := k_iload_n dX2_readElement_96 rfl (k_bipush dX2_readElement_97 (by decide +kernel) (k_icne dX2_readElement_99 rfl (sX2_readElement_113) (sX2_readElement_102)))
def fX2_readElement_90 : kv_D := o_putf 2 5 .boolean ((fX2_readElement_115))
theorem sX2_readElement_90 : SX2_readElement 90 (fX2_readElement_90) := k_putf (C := RX2) (T := TX2) (N := 6) (ci := 2) (index := 29) (kf := 5) (ty := .boolean) dX2_readElement_90 rfl (fun w h => List.mem_cons_of_mem _ (inX2 w h)) tyX2 tyX2_ok nmX2 (by decide) (List.mem_cons_of_mem _ mw_32) rfl rfl (k_goto dX2_readElement_93 rfl (sX2_readElement_115))
def fX2_readElement_89 : kv_D := o_const 0 ((fX2_readElement_90))
theorem sX2_readElement_89 : SX2_readElement 89 (fX2_readElement_89) := k_iconst dX2_readElement_89 (by decide +kernel) ((sX2_readElement_90))
def fX2_readElement_85 : kv_D := o_const 1 ((fX2_readElement_90))
theorem sX2_readElement_85 : SX2_readElement 85 (fX2_readElement_85) := k_iconst dX2_readElement_85 (by decide +kernel) (k_goto dX2_readElement_86 rfl (sX2_readElement_90))
def fX2_readElement_77 : kv_D := o_aload 0 (o_getf 2 4 (o_const (-1) (o_icne (fX2_readElement_89) (fX2_readElement_85))))
theorem sX2_readElement_77 : SX2_readElement 77 (fX2_readElement_77) := k_aload_n dX2_readElement_77 rfl (k_getf (C := RX2) (T := TX2) (N := 6) (ci := 2) (index := 26) (kf := 4) dX2_readElement_78 rfl (fun w h => List.mem_cons_of_mem _ (inX2 w h)) (by decide) (List.mem_cons_of_mem _ mw_31) (k_iconst dX2_readElement_81 (by decide +kernel) (k_icne dX2_readElement_82 rfl (sX2_readElement_89) (sX2_readElement_85))))
def fX2_readElement_56 : kv_D := o_aload 0 (o_aload 0 (o_getf 2 3 (o_iload 1 (o_const 65 (o_isub (o_iald 0 (o_putf 2 4 .int (o_aload 0 (o_aload 0 (o_getf 2 5 (o_ifne (fX2_readElement_85) (fX2_readElement_77))))))))))))
theorem sX2_readElement_56 : SX2_readElement 56 (fX2_readElement_56) := k_aload_n dX2_readElement_56 rfl (k_aload_n dX2_readElement_57 rfl (k_getf (C := RX2) (T := TX2) (N := 6) (ci := 2) (index := 22) (kf := 3) dX2_readElement_58 rfl (fun w h => List.mem_cons_of_mem _ (inX2 w h)) (by decide) (List.mem_cons_of_mem _ mw_30) (k_iload_n dX2_readElement_61 rfl (k_bipush dX2_readElement_62 (by decide +kernel) (k_isub dX2_readElement_64 (k_iald dX2_readElement_65 rfl (k_putf (C := RX2) (T := TX2) (N := 6) (ci := 2) (index := 26) (kf := 4) (ty := .int) dX2_readElement_66 rfl (fun w h => List.mem_cons_of_mem _ (inX2 w h)) tyX2 tyX2_ok nmX2 (by decide) (List.mem_cons_of_mem _ mw_31) rfl rfl (k_aload_n dX2_readElement_69 rfl (k_aload_n dX2_readElement_70 rfl (k_getf (C := RX2) (T := TX2) (N := 6) (ci := 2) (index := 29) (kf := 5) dX2_readElement_71 rfl (fun w h => List.mem_cons_of_mem _ (inX2 w h)) (by decide) (List.mem_cons_of_mem _ mw_32) (k_ifne dX2_readElement_74 rfl (sX2_readElement_85) (sX2_readElement_77))))))))))))
def fX2_readElement_49 : kv_D := o_iload 1 (o_callS 1 mX4_isCapital (o_ifeq (fX2_readElement_96) (fX2_readElement_56)))
theorem sX2_readElement_49 : SX2_readElement 49 (fX2_readElement_49) := k_iload_n dX2_readElement_49 rfl (k_callSN dX2_readElement_50 cX4_isCapital_ct rfl (kv_goodC mw_188) mw_186 (List.mem_cons_of_mem _ mw_1) (List.mem_cons_of_mem _ mw_187) (by decide +kernel) (by decide) (by decide) (k_ifeq dX2_readElement_53 rfl (sX2_readElement_96) (sX2_readElement_56)))
def fX2_readElement_40 : kv_D := o_aload 0 (o_const 67108863 (o_putf 2 4 .int ((fX2_readElement_115))))
theorem sX2_readElement_40 : SX2_readElement 40 (fX2_readElement_40) := k_aload_n dX2_readElement_40 rfl (k_ldc dX2_readElement_41 (List.mem_cons_of_mem _ mw_211) (k_putf (C := RX2) (T := TX2) (N := 6) (ci := 2) (index := 26) (kf := 4) (ty := .int) dX2_readElement_43 rfl (fun w h => List.mem_cons_of_mem _ (inX2 w h)) tyX2 tyX2_ok nmX2 (by decide) (List.mem_cons_of_mem _ mw_31) rfl rfl (k_goto dX2_readElement_46 rfl (sX2_readElement_115))))
def fX2_readElement_34 : kv_D := o_iload 1 (o_const 46 (o_icne (fX2_readElement_49) (fX2_readElement_40)))
theorem sX2_readElement_34 : SX2_readElement 34 (fX2_readElement_34) := k_iload_n dX2_readElement_34 rfl (k_bipush dX2_readElement_35 (by decide +kernel) (k_icne dX2_readElement_37 rfl (sX2_readElement_49) (sX2_readElement_40)))
def fX2_readElement_22 : kv_D := o_aload 0 (o_iload 1 (o_iload 1 (o_callS 2 mX2_lettersFromTo (o_putf 2 4 .int ((fX2_readElement_115))))))
theorem sX2_readElement_22 : SX2_readElement 22 (fX2_readElement_22) := k_aload_n dX2_readElement_22 rfl (k_iload_n dX2_readElement_23 rfl (k_iload_n dX2_readElement_24 rfl (k_callS dX2_readElement_25 cX2_lettersFromTo_ct rfl (kv_goodS mw_208 mw_209 mw_2 mw_210) (by decide +kernel) (by decide) (by decide) (k_putf (C := RX2) (T := TX2) (N := 6) (ci := 2) (index := 26) (kf := 4) (ty := .int) dX2_readElement_28 rfl (fun w h => List.mem_cons_of_mem _ (inX2 w h)) tyX2 tyX2_ok nmX2 (by decide) (List.mem_cons_of_mem _ mw_31) rfl rfl (k_goto dX2_readElement_31 rfl (sX2_readElement_115))))))
def fX2_readElement_0 : kv_D := o_aload 0 (o_callV 2 0 mX2_next (o_istore 1 (o_aload 0 (o_dup (o_getf 2 2 (o_const 1 (o_iadd (o_putf 2 2 .int (o_iload 1 (o_callS 1 mX4_isSmall (o_ifeq (fX2_readElement_34) (fX2_readElement_22))))))))))))
theorem sX2_readElement_0 : SX2_readElement 0 (fX2_readElement_0) := k_aload_n dX2_readElement_0 rfl (k_callV (q := (RX2, TX2, 6)) dX2_readElement_1 cX2_next_ct rfl (kv_goodV mw_201 mw_203 sel_X2_next mw_2 mw_204) (by decide +kernel) rfl (by decide) (by decide) (k_istore_n dX2_readElement_4 rfl (by decide) (k_aload_n dX2_readElement_5 rfl (k_dup dX2_readElement_6 (k_getf (C := RX2) (T := TX2) (N := 6) (ci := 2) (index := 19) (kf := 2) dX2_readElement_7 rfl (fun w h => List.mem_cons_of_mem _ (inX2 w h)) (by decide) (List.mem_cons_of_mem _ mw_29) (k_iconst dX2_readElement_10 (by decide +kernel) (k_iadd dX2_readElement_11 (k_putf (C := RX2) (T := TX2) (N := 6) (ci := 2) (index := 19) (kf := 2) (ty := .int) dX2_readElement_12 rfl (fun w h => List.mem_cons_of_mem _ (inX2 w h)) tyX2 tyX2_ok nmX2 (by decide) (List.mem_cons_of_mem _ mw_29) rfl rfl (k_iload_n dX2_readElement_15 rfl (k_callSN dX2_readElement_16 cX4_isSmall_ct rfl (kv_goodC mw_207) mw_205 (List.mem_cons_of_mem _ mw_1) (List.mem_cons_of_mem _ mw_206) (by decide +kernel) (by decide) (by decide) (k_ifeq dX2_readElement_19 rfl (sX2_readElement_34) (sX2_readElement_22))))))))))))
def mX2_readElement : kv_M := kv_in 1 2 (fX2_readElement_0)
theorem cX2_readElement_ct : kv_CT yX2_readElement wX2_readElement 2 46 mX2_readElement := kv_met (by decide) rfl rfl (by decide) (fun h => by cases h) (sX2_readElement_0)
-- X2_readDefinition
def wX2_readDefinition : List Cond := Cond.code yX2_readDefinition cX2_readDefinition 1 (some .boolean) :: kv_tb
abbrev SX2_readDefinition (pc : Nat) (F : kv_D) : Prop := kv_S cX2_readDefinition 1 RX2 wX2_readDefinition (some .boolean) false 3 67 none pc F
def fX2_readDefinition_33 : kv_D := o_iret .boolean
theorem sX2_readDefinition_33 : SX2_readDefinition 33 (fX2_readDefinition_33) := k_iret dX2_readDefinition_33 rfl
def fX2_readDefinition_32 : kv_D := o_const 0 ((fX2_readDefinition_33))
theorem sX2_readDefinition_32 : SX2_readDefinition 32 (fX2_readDefinition_32) := k_iconst dX2_readDefinition_32 (by decide +kernel) ((sX2_readDefinition_33))
def fX2_readDefinition_28 : kv_D := o_const 1 ((fX2_readDefinition_33))
theorem sX2_readDefinition_28 : SX2_readDefinition 28 (fX2_readDefinition_28) := k_iconst dX2_readDefinition_28 (by decide +kernel) (k_goto dX2_readDefinition_29 rfl (sX2_readDefinition_33))
def fX2_readDefinition_17 : kv_D := o_aload 0 (o_getf 2 2 (o_aload 0 (o_getf 2 1 (o_icne (fX2_readDefinition_32) (fX2_readDefinition_28)))))
theorem sX2_readDefinition_17 : SX2_readDefinition 17 (fX2_readDefinition_17) := k_aload_n dX2_readDefinition_17 rfl (k_getf (C := RX2) (T := TX2) (N := 6) (ci := 2) (index := 19) (kf := 2) dX2_readDefinition_18 rfl (fun w h => List.mem_cons_of_mem _ (inX2 w h)) (by decide) (List.mem_cons_of_mem _ mw_29) (k_aload_n dX2_readDefinition_21 rfl (k_getf (C := RX2) (T := TX2) (N := 6) (ci := 2) (index := 15) (kf := 1) dX2_readDefinition_22 rfl (fun w h => List.mem_cons_of_mem _ (inX2 w h)) (by decide) (List.mem_cons_of_mem _ mw_28) (k_icne dX2_readDefinition_25 rfl (sX2_readDefinition_32) (sX2_readDefinition_28)))))
def fX2_readDefinition_0 : kv_D := o_aload 0 (o_const 2 (o_putf 2 2 .int (o_aload 0 (o_const 0 (o_putf 2 5 .boolean (o_aload 0 (o_callV 2 0 mX2_readElement (o_ifeq (fX2_readDefinition_32) (fX2_readDefinition_17)))))))))
theorem sX2_readDefinition_0 : SX2_readDefinition 0 (fX2_readDefinition_0) := k_aload_n dX2_readDefinition_0 rfl (k_iconst dX2_readDefinition_1 (by decide +kernel) (k_putf (C := RX2) (T := TX2) (N := 6) (ci := 2) (index := 19) (kf := 2) (ty := .int) dX2_readDefinition_2 rfl (fun w h => List.mem_cons_of_mem _ (inX2 w h)) tyX2 tyX2_ok nmX2 (by decide) (List.mem_cons_of_mem _ mw_29) rfl rfl (k_aload_n dX2_readDefinition_5 rfl (k_iconst dX2_readDefinition_6 (by decide +kernel) (k_putf (C := RX2) (T := TX2) (N := 6) (ci := 2) (index := 29) (kf := 5) (ty := .boolean) dX2_readDefinition_7 rfl (fun w h => List.mem_cons_of_mem _ (inX2 w h)) tyX2 tyX2_ok nmX2 (by decide) (List.mem_cons_of_mem _ mw_32) rfl rfl (k_aload_n dX2_readDefinition_10 rfl (k_callV (q := (RX2, TX2, 6)) dX2_readDefinition_11 cX2_readElement_ct rfl (kv_goodV mw_197 mw_199 sel_X2_readElement mw_2 mw_200) (by decide +kernel) rfl (by decide) (by decide) (k_ifeq dX2_readDefinition_14 rfl (sX2_readDefinition_32) (sX2_readDefinition_17)))))))))
def mX2_readDefinition : kv_M := kv_in 1 1 (fX2_readDefinition_0)
theorem cX2_readDefinition_ct : kv_CT yX2_readDefinition wX2_readDefinition 3 67 mX2_readDefinition := kv_met (by decide) rfl rfl (by decide) (fun h => by cases h) (sX2_readDefinition_0)
-- X2_define
def wX2_define : List Cond := Cond.code yX2_define cX2_define 1 none :: kv_tb
abbrev SX2_define (pc : Nat) (F : kv_D) : Prop := kv_S cX2_define 1 RX2 wX2_define none false 1 20 none pc F
def fX2_define_30 : kv_D := o_ret
theorem sX2_define_30 : SX2_define 30 (fX2_define_30) := k_ret dX2_define_30 rfl
def fX2_define_12 : kv_D := o_aload 0 (o_getf 2 3 (o_aload 0 (o_getf 2 0 (o_const 0 (o_iald 1 (o_const 65 (o_isub (o_aload 0 (o_getf 2 4 (o_iast 0 (fun x => x) ((fX2_define_30))))))))))))
theorem sX2_define_12 : SX2_define 12 (fX2_define_12) := k_aload_n dX2_define_12 rfl (k_getf (C := RX2) (T := TX2) (N := 6) (ci := 2) (index := 22) (kf := 3) dX2_define_13 rfl (fun w h => List.mem_cons_of_mem _ (inX2 w h)) (by decide) (List.mem_cons_of_mem _ mw_30) (k_aload_n dX2_define_16 rfl (k_getf (C := RX2) (T := TX2) (N := 6) (ci := 2) (index := 9) (kf := 0) dX2_define_17 rfl (fun w h => List.mem_cons_of_mem _ (inX2 w h)) (by decide) (List.mem_cons_of_mem _ mw_27) (k_iconst dX2_define_20 (by decide +kernel) (k_cald dX2_define_21 rfl (k_bipush dX2_define_22 (by decide +kernel) (k_isub dX2_define_24 (k_aload_n dX2_define_25 rfl (k_getf (C := RX2) (T := TX2) (N := 6) (ci := 2) (index := 26) (kf := 4) dX2_define_26 rfl (fun w h => List.mem_cons_of_mem _ (inX2 w h)) (by decide) (List.mem_cons_of_mem _ mw_31) (k_iast dX2_define_29 rfl ((sX2_define_30))))))))))))
def fX2_define_0 : kv_D := o_aload 0 (o_getf 2 0 (o_const 0 (o_iald 1 (o_callS 1 mX4_isCapital (o_ifeq (fX2_define_30) (fX2_define_12))))))
theorem sX2_define_0 : SX2_define 0 (fX2_define_0) := k_aload_n dX2_define_0 rfl (k_getf (C := RX2) (T := TX2) (N := 6) (ci := 2) (index := 9) (kf := 0) dX2_define_1 rfl (fun w h => List.mem_cons_of_mem _ (inX2 w h)) (by decide) (List.mem_cons_of_mem _ mw_27) (k_iconst dX2_define_4 (by decide +kernel) (k_cald dX2_define_5 rfl (k_callSN dX2_define_6 cX4_isCapital_ct rfl (kv_goodC mw_188) mw_186 (List.mem_cons_of_mem _ mw_1) (List.mem_cons_of_mem _ mw_187) (by decide +kernel) (by decide) (by decide) (k_ifeq dX2_define_9 rfl (sX2_define_30) (sX2_define_12))))))
def mX2_define : kv_M := kv_in 1 1 (fX2_define_0)
theorem cX2_define_ct : kv_CT yX2_define wX2_define 1 20 mX2_define := kv_met (by decide) rfl rfl (by decide) (fun h => by cases h) (sX2_define_0)
-- X4_endDefinition
def wX4_endDefinition : List Cond := Cond.code yX4_endDefinition cX4_endDefinition 1 (some .int) :: kv_tb
abbrev SX4_endDefinition (pc : Nat) (F : kv_D) : Prop := kv_S cX4_endDefinition 1 RX4 wX4_endDefinition (some .int) false 4 87 none pc F
def fX4_endDefinition_25 : kv_D := o_aload 0 (o_getf 4 0 (o_callV 2 0 mX2_define (o_const 1 (o_iret .int))))
theorem sX4_endDefinition_25 : SX4_endDefinition 25 (fX4_endDefinition_25) := k_aload_n dX4_endDefinition_25 rfl (k_getf (C := RX4) (T := TX4) (N := 8) (ci := 4) (index := 12) (kf := 0) dX4_endDefinition_26 rfl (fun w h => List.mem_cons_of_mem _ (inX4 w h)) (by decide) (List.mem_cons_of_mem _ mw_153) (k_callV (q := (RX2, TX2, 6)) dX4_endDefinition_29 cX2_define_ct rfl (kv_goodV mw_220 mw_221 mw_222 mw_2 mw_223) (by decide +kernel) rfl (by decide) (by decide) (k_iconst dX4_endDefinition_32 (by decide +kernel) (k_iret dX4_endDefinition_33 rfl))))
def fX4_endDefinition_22 : kv_D := o_const (-2) (o_iret .int)
theorem sX4_endDefinition_22 : SX4_endDefinition 22 (fX4_endDefinition_22) := k_bipush dX4_endDefinition_22 (by decide +kernel) (k_iret dX4_endDefinition_24 rfl)
def fX4_endDefinition_12 : kv_D := o_aload 0 (o_getf 4 0 (o_getf 2 5 (o_ifeq (fX4_endDefinition_25) (fX4_endDefinition_22))))
theorem sX4_endDefinition_12 : SX4_endDefinition 12 (fX4_endDefinition_12) := k_aload_n dX4_endDefinition_12 rfl (k_getf (C := RX4) (T := TX4) (N := 8) (ci := 4) (index := 12) (kf := 0) dX4_endDefinition_13 rfl (fun w h => List.mem_cons_of_mem _ (inX4 w h)) (by decide) (List.mem_cons_of_mem _ mw_153) (k_getN (C := RX2) (T := TX2) (N := 6) (ci := 2) (index := 103) (kf := 5) dX4_endDefinition_16 rfl (fun w h => List.mem_cons_of_mem _ (inX2 w h)) (by decide) mw_33 (k_ifeq dX4_endDefinition_19 rfl (sX4_endDefinition_25) (sX4_endDefinition_22))))
def fX4_endDefinition_10 : kv_D := o_const (-1) (o_iret .int)
theorem sX4_endDefinition_10 : SX4_endDefinition 10 (fX4_endDefinition_10) := k_iconst dX4_endDefinition_10 (by decide +kernel) (k_iret dX4_endDefinition_11 rfl)
def fX4_endDefinition_0 : kv_D := o_aload 0 (o_getf 4 0 (o_callV 2 0 mX2_readDefinition (o_ifne (fX4_endDefinition_12) (fX4_endDefinition_10))))
theorem sX4_endDefinition_0 : SX4_endDefinition 0 (fX4_endDefinition_0) := k_aload_n dX4_endDefinition_0 rfl (k_getf (C := RX4) (T := TX4) (N := 8) (ci := 4) (index := 12) (kf := 0) dX4_endDefinition_1 rfl (fun w h => List.mem_cons_of_mem _ (inX4 w h)) (by decide) (List.mem_cons_of_mem _ mw_153) (k_callV (q := (RX2, TX2, 6)) dX4_endDefinition_4 cX2_readDefinition_ct rfl (kv_goodV mw_193 mw_194 mw_195 mw_2 mw_196) (by decide +kernel) rfl (by decide) (by decide) (k_ifne dX4_endDefinition_7 rfl (sX4_endDefinition_12) (sX4_endDefinition_10))))
def mX4_endDefinition : kv_M := kv_in 1 1 (fX4_endDefinition_0)
theorem cX4_endDefinition_ct : kv_CT yX4_endDefinition wX4_endDefinition 4 87 mX4_endDefinition := kv_met (by decide) rfl rfl (by decide) (fun h => by cases h) (sX4_endDefinition_0)
-- X1_clear
def wX1_clear : List Cond := Cond.code yX1_clear cX1_clear 1 none :: kv_tb
abbrev SX1_clear (pc : Nat) (F : kv_D) : Prop := kv_S cX1_clear 1 RX1 wX1_clear none false 0 0 none pc F
def fX1_clear_0 : kv_D := o_aload 0 (o_const 0 (o_putf 1 3 .int (o_aload 0 (o_const 0 (o_putf 1 4 .int (o_aload 0 (o_const 0 (o_putf 1 5 .int (o_aload 0 (o_const 0 (o_putf 1 6 .boolean (o_aload 0 (o_const 0 (o_putf 1 9 .int (o_aload 0 (o_const 0 (o_putf 1 11 .int (o_aload 0 (o_const 0 (o_putf 1 12 .int (o_aload 0 (o_const 0 (o_putf 1 13 .int (o_ret))))))))))))))))))))))))
theorem sX1_clear_0 : SX1_clear 0 (fX1_clear_0) := k_aload_n dX1_clear_0 rfl (k_iconst dX1_clear_1 (by decide +kernel) (k_putf (C := RX1) (T := TX1) (N := 14) (ci := 1) (index := 21) (kf := 3) (ty := .int) dX1_clear_2 rfl (fun w h => List.mem_cons_of_mem _ (inX1 w h)) tyX1 tyX1_ok nmX1 (by decide) (List.mem_cons_of_mem _ mw_62) rfl rfl (k_aload_n dX1_clear_5 rfl (k_iconst dX1_clear_6 (by decide +kernel) (k_putf (C := RX1) (T := TX1) (N := 14) (ci := 1) (index := 25) (kf := 4) (ty := .int) dX1_clear_7 rfl (fun w h => List.mem_cons_of_mem _ (inX1 w h)) tyX1 tyX1_ok nmX1 (by decide) (List.mem_cons_of_mem _ mw_65) rfl rfl (k_aload_n dX1_clear_10 rfl (k_iconst dX1_clear_11 (by decide +kernel) (k_putf (C := RX1) (T := TX1) (N := 14) (ci := 1) (index := 28) (kf := 5) (ty := .int) dX1_clear_12 rfl (fun w h => List.mem_cons_of_mem _ (inX1 w h)) tyX1 tyX1_ok nmX1 (by decide) (List.mem_cons_of_mem _ mw_68) rfl rfl (k_aload_n dX1_clear_15 rfl (k_iconst dX1_clear_16 (by decide +kernel) (k_putf (C := RX1) (T := TX1) (N := 14) (ci := 1) (index := 31) (kf := 6) (ty := .boolean) dX1_clear_17 rfl (fun w h => List.mem_cons_of_mem _ (inX1 w h)) tyX1 tyX1_ok nmX1 (by decide) (List.mem_cons_of_mem _ mw_72) rfl rfl (k_aload_n dX1_clear_20 rfl (k_iconst dX1_clear_21 (by decide +kernel) (k_putf (C := RX1) (T := TX1) (N := 14) (ci := 1) (index := 41) (kf := 9) (ty := .int) dX1_clear_22 rfl (fun w h => List.mem_cons_of_mem _ (inX1 w h)) tyX1 tyX1_ok nmX1 (by decide) (List.mem_cons_of_mem _ mw_77) rfl rfl (k_aload_n dX1_clear_25 rfl (k_iconst dX1_clear_26 (by decide +kernel) (k_putf (C := RX1) (T := TX1) (N := 14) (ci := 1) (index := 48) (kf := 11) (ty := .int) dX1_clear_27 rfl (fun w h => List.mem_cons_of_mem _ (inX1 w h)) tyX1 tyX1_ok nmX1 (by decide) (List.mem_cons_of_mem _ mw_81) rfl rfl (k_aload_n dX1_clear_30 rfl (k_iconst dX1_clear_31 (by decide +kernel) (k_putf (C := RX1) (T := TX1) (N := 14) (ci := 1) (index := 51) (kf := 12) (ty := .int) dX1_clear_32 rfl (fun w h => List.mem_cons_of_mem _ (inX1 w h)) tyX1 tyX1_ok nmX1 (by decide) (List.mem_cons_of_mem _ mw_84) rfl rfl (k_aload_n dX1_clear_35 rfl (k_iconst dX1_clear_36 (by decide +kernel) (k_putf (C := RX1) (T := TX1) (N := 14) (ci := 1) (index := 54) (kf := 13) (ty := .int) dX1_clear_37 rfl (fun w h => List.mem_cons_of_mem _ (inX1 w h)) tyX1 tyX1_ok nmX1 (by decide) (List.mem_cons_of_mem _ mw_86) rfl rfl (k_ret dX1_clear_40 rfl))))))))))))))))))))))))
def mX1_clear : kv_M := kv_in 1 1 (fX1_clear_0)
theorem cX1_clear_ct : kv_CT yX1_clear wX1_clear 0 0 mX1_clear := kv_met (by decide) rfl rfl (by decide) (fun h => by cases h) (sX1_clear_0)
-- X2_hasOpeningBrace
def wX2_hasOpeningBrace : List Cond := Cond.code yX2_hasOpeningBrace cX2_hasOpeningBrace 2 (some .boolean) :: kv_tb
abbrev SX2_hasOpeningBrace (pc : Nat) (F : kv_D) : Prop := kv_S cX2_hasOpeningBrace 2 RX2 wX2_hasOpeningBrace (some .boolean) false 0 0 none pc F
def fX2_hasOpeningBrace_29 (K : Nat → kv_D) : kv_D := o_const 0 (o_iret .boolean)
theorem sX2_hasOpeningBrace_29 {K : Nat → kv_D} (hK : ∀ pc, SX2_hasOpeningBrace pc (K pc)) : SX2_hasOpeningBrace 29 (fX2_hasOpeningBrace_29 K) := k_iconst dX2_hasOpeningBrace_29 (by decide +kernel) (k_iret dX2_hasOpeningBrace_30 rfl)
theorem nX2_hasOpeningBrace_29 : kv_cn (fun K => fX2_hasOpeningBrace_29 K) := cn_const 0 (cn_c _)
def fX2_hasOpeningBrace_23 (K : Nat → kv_D) : kv_D := o_iinc 1 1 ((K 2))
theorem sX2_hasOpeningBrace_23 {K : Nat → kv_D} (hK : ∀ pc, SX2_hasOpeningBrace pc (K pc)) : SX2_hasOpeningBrace 23 (fX2_hasOpeningBrace_23 K) := k_iinc dX2_hasOpeningBrace_23 (by decide +kernel) (by decide) (k_goto dX2_hasOpeningBrace_26 rfl (hK 2))
theorem nX2_hasOpeningBrace_23 : kv_cn (fun K => fX2_hasOpeningBrace_23 K) := cn_iinc 1 1 ((cn_K 2))
def fX2_hasOpeningBrace_21 (K : Nat → kv_D) : kv_D := o_const 1 (o_iret .boolean)
theorem sX2_hasOpeningBrace_21 {K : Nat → kv_D} (hK : ∀ pc, SX2_hasOpeningBrace pc (K pc)) : SX2_hasOpeningBrace 21 (fX2_hasOpeningBrace_21 K) := k_iconst dX2_hasOpeningBrace_21 (by decide +kernel) (k_iret dX2_hasOpeningBrace_22 rfl)
theorem nX2_hasOpeningBrace_21 : kv_cn (fun K => fX2_hasOpeningBrace_21 K) := cn_const 1 (cn_c _)
def fX2_hasOpeningBrace_10 (K : Nat → kv_D) : kv_D := o_aload 0 (o_getf 2 0 (o_iload 1 (o_iald 1 (o_const 123 (o_icne (fX2_hasOpeningBrace_23 K) (fX2_hasOpeningBrace_21 K))))))
theorem sX2_hasOpeningBrace_10 {K : Nat → kv_D} (hK : ∀ pc, SX2_hasOpeningBrace pc (K pc)) : SX2_hasOpeningBrace 10 (fX2_hasOpeningBrace_10 K) := k_aload_n dX2_hasOpeningBrace_10 rfl (k_getf (C := RX2) (T := TX2) (N := 6) (ci := 2) (index := 9) (kf := 0) dX2_hasOpeningBrace_11 rfl (fun w h => List.mem_cons_of_mem _ (inX2 w h)) (by decide) (List.mem_cons_of_mem _ mw_27) (k_iload_n dX2_hasOpeningBrace_14 rfl (k_cald dX2_hasOpeningBrace_15 rfl (k_bipush dX2_hasOpeningBrace_16 (by decide +kernel) (k_icne dX2_hasOpeningBrace_18 rfl (sX2_hasOpeningBrace_23 hK) (sX2_hasOpeningBrace_21 hK))))))
theorem nX2_hasOpeningBrace_10 : kv_cn (fun K => fX2_hasOpeningBrace_10 K) := cn_aload 0 (cn_getf 2 0 (cn_iload 1 (cn_iald 1 (cn_const 123 (cn_icne nX2_hasOpeningBrace_23 nX2_hasOpeningBrace_21)))))
def fX2_hasOpeningBrace_2 (K : Nat → kv_D) : kv_D := o_iload 1 (o_aload 0 (o_getf 2 1 (o_icge (fX2_hasOpeningBrace_29 K) (fX2_hasOpeningBrace_10 K))))
theorem sX2_hasOpeningBrace_2 {K : Nat → kv_D} (hK : ∀ pc, SX2_hasOpeningBrace pc (K pc)) : SX2_hasOpeningBrace 2 (fX2_hasOpeningBrace_2 K) := k_iload_n dX2_hasOpeningBrace_2 rfl (k_aload_n dX2_hasOpeningBrace_3 rfl (k_getf (C := RX2) (T := TX2) (N := 6) (ci := 2) (index := 15) (kf := 1) dX2_hasOpeningBrace_4 rfl (fun w h => List.mem_cons_of_mem _ (inX2 w h)) (by decide) (List.mem_cons_of_mem _ mw_28) (k_icge dX2_hasOpeningBrace_7 rfl (sX2_hasOpeningBrace_29 hK) (sX2_hasOpeningBrace_10 hK))))
theorem nX2_hasOpeningBrace_2 : kv_cn (fun K => fX2_hasOpeningBrace_2 K) := cn_iload 1 (cn_aload 0 (cn_getf 2 1 (cn_icge nX2_hasOpeningBrace_29 nX2_hasOpeningBrace_10)))
def fX2_hasOpeningBrace_0 (K : Nat → kv_D) : kv_D := o_const 0 (o_istore 1 ((K 2)))
theorem sX2_hasOpeningBrace_0 {K : Nat → kv_D} (hK : ∀ pc, SX2_hasOpeningBrace pc (K pc)) : SX2_hasOpeningBrace 0 (fX2_hasOpeningBrace_0 K) := k_iconst dX2_hasOpeningBrace_0 (by decide +kernel) (k_istore_n dX2_hasOpeningBrace_1 rfl (by decide) ((hK 2)))
theorem nX2_hasOpeningBrace_0 : kv_cn (fun K => fX2_hasOpeningBrace_0 K) := cn_const 0 (cn_istore 1 ((cn_K 2)))
def bX2_hasOpeningBrace (K : Nat → kv_D) (pc : Nat) : kv_D := if pc = 2 then fX2_hasOpeningBrace_2 K else fun _ _ _ _ _ => False
theorem hX2_hasOpeningBrace : ∀ pc, SX2_hasOpeningBrace pc (kv_lim (bX2_hasOpeningBrace) pc) := kv_lim_S (fun K hK pc => by
  unfold bX2_hasOpeningBrace
  by_cases q2 : pc = 2
  · rw [if_pos q2, q2]
    exact sX2_hasOpeningBrace_2 hK
  rw [if_neg q2]
  exact kv_none)
theorem uX2_hasOpeningBrace_2 {L : List (Option Value)} {st : List Value} {h : kv_H} {v : Option Value} {h' : kv_H} (hx : fX2_hasOpeningBrace_2 (kv_lim (bX2_hasOpeningBrace)) L st h v h') : kv_lim (bX2_hasOpeningBrace) 2 L st h v h' := kv_un (q := 2) (by have e : (fun K => bX2_hasOpeningBrace K 2) = fun K => fX2_hasOpeningBrace_2 K := (by funext K; rfl); rw [e]; exact nX2_hasOpeningBrace_2) (by have e : bX2_hasOpeningBrace (kv_lim (bX2_hasOpeningBrace)) 2 = fX2_hasOpeningBrace_2 (kv_lim (bX2_hasOpeningBrace)) := rfl; rw [e]; exact hx)
def mX2_hasOpeningBrace : kv_M := kv_in 1 2 (fX2_hasOpeningBrace_0 (kv_lim (bX2_hasOpeningBrace)))
theorem cX2_hasOpeningBrace_ct : kv_CT yX2_hasOpeningBrace wX2_hasOpeningBrace 0 0 mX2_hasOpeningBrace := kv_met (by decide) rfl rfl (by decide) (fun h => by cases h) (sX2_hasOpeningBrace_0 (hX2_hasOpeningBrace))
-- X2_beginsElement
def wX2_beginsElement : List Cond := Cond.code yX2_beginsElement cX2_beginsElement 1 (some .boolean) :: kv_tb
abbrev SX2_beginsElement (pc : Nat) (F : kv_D) : Prop := kv_S cX2_beginsElement 1 RX2 wX2_beginsElement (some .boolean) false 1 20 none pc F
def fX2_beginsElement_31 : kv_D := o_iret .boolean
theorem sX2_beginsElement_31 : SX2_beginsElement 31 (fX2_beginsElement_31) := k_iret dX2_beginsElement_31 rfl
def fX2_beginsElement_30 : kv_D := o_const 0 ((fX2_beginsElement_31))
theorem sX2_beginsElement_30 : SX2_beginsElement 30 (fX2_beginsElement_30) := k_iconst dX2_beginsElement_30 (by decide +kernel) ((sX2_beginsElement_31))
def fX2_beginsElement_26 : kv_D := o_const 1 ((fX2_beginsElement_31))
theorem sX2_beginsElement_26 : SX2_beginsElement 26 (fX2_beginsElement_26) := k_iconst dX2_beginsElement_26 (by decide +kernel) (k_goto dX2_beginsElement_27 rfl (sX2_beginsElement_31))
def fX2_beginsElement_20 : kv_D := o_iload 0 (o_const 91 (o_icne (fX2_beginsElement_30) (fX2_beginsElement_26)))
theorem sX2_beginsElement_20 : SX2_beginsElement 20 (fX2_beginsElement_20) := k_iload_n dX2_beginsElement_20 rfl (k_bipush dX2_beginsElement_21 (by decide +kernel) (k_icne dX2_beginsElement_23 rfl (sX2_beginsElement_30) (sX2_beginsElement_26)))
def fX2_beginsElement_14 : kv_D := o_iload 0 (o_const 46 (o_iceq (fX2_beginsElement_26) (fX2_beginsElement_20)))
theorem sX2_beginsElement_14 : SX2_beginsElement 14 (fX2_beginsElement_14) := k_iload_n dX2_beginsElement_14 rfl (k_bipush dX2_beginsElement_15 (by decide +kernel) (k_iceq dX2_beginsElement_17 rfl (sX2_beginsElement_26) (sX2_beginsElement_20)))
def fX2_beginsElement_7 : kv_D := o_iload 0 (o_callS 1 mX4_isCapital (o_ifne (fX2_beginsElement_26) (fX2_beginsElement_14)))
theorem sX2_beginsElement_7 : SX2_beginsElement 7 (fX2_beginsElement_7) := k_iload_n dX2_beginsElement_7 rfl (k_callSN dX2_beginsElement_8 cX4_isCapital_ct rfl (kv_goodC mw_188) mw_186 (List.mem_cons_of_mem _ mw_1) (List.mem_cons_of_mem _ mw_187) (by decide +kernel) (by decide) (by decide) (k_ifne dX2_beginsElement_11 rfl (sX2_beginsElement_26) (sX2_beginsElement_14)))
def fX2_beginsElement_0 : kv_D := o_iload 0 (o_callS 1 mX4_isSmall (o_ifne (fX2_beginsElement_26) (fX2_beginsElement_7)))
theorem sX2_beginsElement_0 : SX2_beginsElement 0 (fX2_beginsElement_0) := k_iload_n dX2_beginsElement_0 rfl (k_callSN dX2_beginsElement_1 cX4_isSmall_ct rfl (kv_goodC mw_207) mw_205 (List.mem_cons_of_mem _ mw_1) (List.mem_cons_of_mem _ mw_206) (by decide +kernel) (by decide) (by decide) (k_ifne dX2_beginsElement_4 rfl (sX2_beginsElement_26) (sX2_beginsElement_7)))
def mX2_beginsElement : kv_M := kv_in 1 1 (fX2_beginsElement_0)
theorem cX2_beginsElement_ct : kv_CT yX2_beginsElement wX2_beginsElement 1 20 mX2_beginsElement := kv_met (by decide) rfl rfl (by decide) (fun h => by cases h) (sX2_beginsElement_0)
-- X2_readQuantifier
def wX2_readQuantifier : List Cond := Cond.code yX2_readQuantifier cX2_readQuantifier 2 (some .char) :: kv_tb
abbrev SX2_readQuantifier (pc : Nat) (F : kv_D) : Prop := kv_S cX2_readQuantifier 2 RX2 wX2_readQuantifier (some .char) false 1 20 none pc F
def fX2_readQuantifier_35 : kv_D := o_const 0 (o_iret .char)
theorem sX2_readQuantifier_35 : SX2_readQuantifier 35 (fX2_readQuantifier_35) := k_iconst dX2_readQuantifier_35 (by decide +kernel) (k_iret dX2_readQuantifier_36 rfl)
def fX2_readQuantifier_23 : kv_D := o_aload 0 (o_dup (o_getf 2 2 (o_const 1 (o_iadd (o_putf 2 2 .int (o_iload 1 (o_iret .char)))))))
theorem sX2_readQuantifier_23 : SX2_readQuantifier 23 (fX2_readQuantifier_23) := k_aload_n dX2_readQuantifier_23 rfl (k_dup dX2_readQuantifier_24 (k_getf (C := RX2) (T := TX2) (N := 6) (ci := 2) (index := 19) (kf := 2) dX2_readQuantifier_25 rfl (fun w h => List.mem_cons_of_mem _ (inX2 w h)) (by decide) (List.mem_cons_of_mem _ mw_29) (k_iconst dX2_readQuantifier_28 (by decide +kernel) (k_iadd dX2_readQuantifier_29 (k_putf (C := RX2) (T := TX2) (N := 6) (ci := 2) (index := 19) (kf := 2) (ty := .int) dX2_readQuantifier_30 rfl (fun w h => List.mem_cons_of_mem _ (inX2 w h)) tyX2 tyX2_ok nmX2 (by decide) (List.mem_cons_of_mem _ mw_29) rfl rfl (k_iload_n dX2_readQuantifier_33 rfl (k_iret dX2_readQuantifier_34 rfl)))))))
def fX2_readQuantifier_17 : kv_D := o_iload 1 (o_const 63 (o_icne (fX2_readQuantifier_35) (fX2_readQuantifier_23)))
theorem sX2_readQuantifier_17 : SX2_readQuantifier 17 (fX2_readQuantifier_17) := k_iload_n dX2_readQuantifier_17 rfl (k_bipush dX2_readQuantifier_18 (by decide +kernel) (k_icne dX2_readQuantifier_20 rfl (sX2_readQuantifier_35) (sX2_readQuantifier_23)))
def fX2_readQuantifier_11 : kv_D := o_iload 1 (o_const 43 (o_iceq (fX2_readQuantifier_23) (fX2_readQuantifier_17)))
theorem sX2_readQuantifier_11 : SX2_readQuantifier 11 (fX2_readQuantifier_11) := k_iload_n dX2_readQuantifier_11 rfl (k_bipush dX2_readQuantifier_12 (by decide +kernel) (k_iceq dX2_readQuantifier_14 rfl (sX2_readQuantifier_23) (sX2_readQuantifier_17)))
def fX2_readQuantifier_0 : kv_D := o_aload 0 (o_callV 2 0 mX2_next (o_istore 1 (o_iload 1 (o_const 42 (o_iceq (fX2_readQuantifier_23) (fX2_readQuantifier_11))))))
theorem sX2_readQuantifier_0 : SX2_readQuantifier 0 (fX2_readQuantifier_0) := k_aload_n dX2_readQuantifier_0 rfl (k_callV (q := (RX2, TX2, 6)) dX2_readQuantifier_1 cX2_next_ct rfl (kv_goodV mw_201 mw_203 sel_X2_next mw_2 mw_204) (by decide +kernel) rfl (by decide) (by decide) (k_istore_n dX2_readQuantifier_4 rfl (by decide) (k_iload_n dX2_readQuantifier_5 rfl (k_bipush dX2_readQuantifier_6 (by decide +kernel) (k_iceq dX2_readQuantifier_8 rfl (sX2_readQuantifier_23) (sX2_readQuantifier_11))))))
def mX2_readQuantifier : kv_M := kv_in 1 2 (fX2_readQuantifier_0)
theorem cX2_readQuantifier_ct : kv_CT yX2_readQuantifier wX2_readQuantifier 1 20 mX2_readQuantifier := kv_met (by decide) rfl rfl (by decide) (fun h => by cases h) (sX2_readQuantifier_0)
