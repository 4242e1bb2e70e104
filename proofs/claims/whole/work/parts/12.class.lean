theorem dX1_addElement_120 : decode cX1_addElement 120 = .ok (.aload_n 0, 1) := by decide +kernel
theorem dX1_addElement_121 : decode cX1_addElement 121 = .ok (.dup, 1) := by decide +kernel
theorem dX1_addElement_122 : decode cX1_addElement 122 = .ok (.getfield 21, 3) := by decide +kernel
theorem dX1_addElement_125 : decode cX1_addElement 125 = .ok (.iconst 1, 1) := by decide +kernel
theorem dX1_addElement_126 : decode cX1_addElement 126 = .ok (.iadd, 1) := by decide +kernel
theorem dX1_addElement_127 : decode cX1_addElement 127 = .ok (.putfield 21, 3) := by decide +kernel
theorem dX1_addElement_130 : decode cX1_addElement 130 = .ok (.return_, 1) := by decide +kernel
theorem dX1_addElement_119 : decode cX1_addElement 119 = .ok (.iastore, 1) := by decide +kernel
theorem dX1_addElement_118 : decode cX1_addElement 118 = .ok (.iconst 1, 1) := by decide +kernel
theorem dX1_addElement_112 : decode cX1_addElement 112 = .ok (.sipush 1000, 3) := by decide +kernel
theorem dX1_addElement_115 : decode cX1_addElement 115 = .ok (.goto 4, 3) := by decide +kernel
theorem dX1_addElement_99 : decode cX1_addElement 99 = .ok (.iastore, 1) := by decide +kernel
theorem dX1_addElement_100 : decode cX1_addElement 100 = .ok (.aload_n 0, 1) := by decide +kernel
theorem dX1_addElement_101 : decode cX1_addElement 101 = .ok (.getfield 18, 3) := by decide +kernel
theorem dX1_addElement_104 : decode cX1_addElement 104 = .ok (.aload_n 0, 1) := by decide +kernel
theorem dX1_addElement_105 : decode cX1_addElement 105 = .ok (.getfield 21, 3) := by decide +kernel
theorem dX1_addElement_108 : decode cX1_addElement 108 = .ok (.iload_n 3, 1) := by decide +kernel
theorem dX1_addElement_109 : decode cX1_addElement 109 = .ok (.ifCond .eq 9, 3) := by decide +kernel
theorem dX1_addElement_98 : decode cX1_addElement 98 = .ok (.iconst 1, 1) := by decide +kernel
theorem dX1_addElement_94 : decode cX1_addElement 94 = .ok (.iconst 0, 1) := by decide +kernel
theorem dX1_addElement_95 : decode cX1_addElement 95 = .ok (.goto 4, 3) := by decide +kernel
theorem dX1_addElement_71 : decode cX1_addElement 71 = .ok (.aload_n 0, 1) := by decide +kernel
theorem dX1_addElement_72 : decode cX1_addElement 72 = .ok (.getfield 9, 3) := by decide +kernel
theorem dX1_addElement_75 : decode cX1_addElement 75 = .ok (.aload_n 0, 1) := by decide +kernel
theorem dX1_addElement_76 : decode cX1_addElement 76 = .ok (.getfield 21, 3) := by decide +kernel
theorem dX1_addElement_79 : decode cX1_addElement 79 = .ok (.iload_n 1, 1) := by decide +kernel
theorem dX1_addElement_80 : decode cX1_addElement 80 = .ok (.iastore, 1) := by decide +kernel
theorem dX1_addElement_81 : decode cX1_addElement 81 = .ok (.aload_n 0, 1) := by decide +kernel
theorem dX1_addElement_82 : decode cX1_addElement 82 = .ok (.getfield 15, 3) := by decide +kernel
theorem dX1_addElement_85 : decode cX1_addElement 85 = .ok (.aload_n 0, 1) := by decide +kernel
theorem dX1_addElement_86 : decode cX1_addElement 86 = .ok (.getfield 21, 3) := by decide +kernel
theorem dX1_addElement_89 : decode cX1_addElement 89 = .ok (.iload 4, 2) := by decide +kernel
theorem dX1_addElement_91 : decode cX1_addElement 91 = .ok (.ifCond .eq 7, 3) := by decide +kernel
theorem dX1_addElement_59 : decode cX1_addElement 59 = .ok (.putfield 31, 3) := by decide +kernel
theorem dX1_addElement_62 : decode cX1_addElement 62 = .ok (.aload_n 0, 1) := by decide +kernel
theorem dX1_addElement_63 : decode cX1_addElement 63 = .ok (.getfield 21, 3) := by decide +kernel
theorem dX1_addElement_66 : decode cX1_addElement 66 = .ok (.bipush 12, 2) := by decide +kernel
theorem dX1_addElement_68 : decode cX1_addElement 68 = .ok (.if_icmp .ge 52, 3) := by decide +kernel
theorem dX1_addElement_58 : decode cX1_addElement 58 = .ok (.iconst 0, 1) := by decide +kernel
theorem dX1_addElement_54 : decode cX1_addElement 54 = .ok (.iconst 1, 1) := by decide +kernel
theorem dX1_addElement_55 : decode cX1_addElement 55 = .ok (.goto 4, 3) := by decide +kernel
theorem dX1_addElement_49 : decode cX1_addElement 49 = .ok (.iload 4, 2) := by decide +kernel
theorem dX1_addElement_51 : decode cX1_addElement 51 = .ok (.ifCond .eq 7, 3) := by decide +kernel
theorem dX1_addElement_45 : decode cX1_addElement 45 = .ok (.iload_n 3, 1) := by decide +kernel
theorem dX1_addElement_46 : decode cX1_addElement 46 = .ok (.ifCond .ne 8, 3) := by decide +kernel
theorem dX1_addElement_35 : decode cX1_addElement 35 = .ok (.istore 4, 2) := by decide +kernel
theorem dX1_addElement_37 : decode cX1_addElement 37 = .ok (.aload_n 0, 1) := by decide +kernel
theorem dX1_addElement_38 : decode cX1_addElement 38 = .ok (.aload_n 0, 1) := by decide +kernel
theorem dX1_addElement_39 : decode cX1_addElement 39 = .ok (.getfield 31, 3) := by decide +kernel
theorem dX1_addElement_42 : decode cX1_addElement 42 = .ok (.ifCond .ne 12, 3) := by decide +kernel
theorem dX1_addElement_34 : decode cX1_addElement 34 = .ok (.iconst 0, 1) := by decide +kernel
theorem dX1_addElement_30 : decode cX1_addElement 30 = .ok (.iconst 1, 1) := by decide +kernel
theorem dX1_addElement_31 : decode cX1_addElement 31 = .ok (.goto 4, 3) := by decide +kernel
theorem dX1_addElement_24 : decode cX1_addElement 24 = .ok (.iload_n 2, 1) := by decide +kernel
theorem dX1_addElement_25 : decode cX1_addElement 25 = .ok (.bipush 63, 2) := by decide +kernel
theorem dX1_addElement_27 : decode cX1_addElement 27 = .ok (.if_icmp .ne 7, 3) := by decide +kernel
theorem dX1_addElement_17 : decode cX1_addElement 17 = .ok (.istore_n 3, 1) := by decide +kernel
theorem dX1_addElement_18 : decode cX1_addElement 18 = .ok (.iload_n 2, 1) := by decide +kernel
theorem dX1_addElement_19 : decode cX1_addElement 19 = .ok (.bipush 42, 2) := by decide +kernel
theorem dX1_addElement_21 : decode cX1_addElement 21 = .ok (.if_icmp .eq 9, 3) := by decide +kernel
theorem dX1_addElement_16 : decode cX1_addElement 16 = .ok (.iconst 0, 1) := by decide +kernel
theorem dX1_addElement_12 : decode cX1_addElement 12 = .ok (.iconst 1, 1) := by decide +kernel
theorem dX1_addElement_13 : decode cX1_addElement 13 = .ok (.goto 4, 3) := by decide +kernel
theorem dX1_addElement_6 : decode cX1_addElement 6 = .ok (.iload_n 2, 1) := by decide +kernel
theorem dX1_addElement_7 : decode cX1_addElement 7 = .ok (.bipush 43, 2) := by decide +kernel
theorem dX1_addElement_9 : decode cX1_addElement 9 = .ok (.if_icmp .ne 7, 3) := by decide +kernel
theorem dX1_addElement_0 : decode cX1_addElement 0 = .ok (.iload_n 2, 1) := by decide +kernel
theorem dX1_addElement_1 : decode cX1_addElement 1 = .ok (.bipush 42, 2) := by decide +kernel
theorem dX1_addElement_3 : decode cX1_addElement 3 = .ok (.if_icmp .eq 9, 3) := by decide +kernel
theorem dX2_readContext_47 : decode cX2_readContext 47 = .ok (.iconst 1, 1) := by decide +kernel
theorem dX2_readContext_48 : decode cX2_readContext 48 = .ok (.ireturn, 1) := by decide +kernel
theorem dX2_readContext_29 : decode cX2_readContext 29 = .ok (.aload_n 1, 1) := by decide +kernel
theorem dX2_readContext_30 : decode cX2_readContext 30 = .ok (.aload_n 0, 1) := by decide +kernel
theorem dX2_readContext_31 : decode cX2_readContext 31 = .ok (.getfield 26, 3) := by decide +kernel
theorem dX2_readContext_34 : decode cX2_readContext 34 = .ok (.aload_n 0, 1) := by decide +kernel
theorem dX2_readContext_35 : decode cX2_readContext 35 = .ok (.invokevirtual 78, 3) := by decide +kernel
theorem dX2_readContext_38 : decode cX2_readContext 38 = .ok (.invokevirtual 81, 3) := by decide +kernel
theorem dX2_readContext_41 : decode cX2_readContext 41 = .ok (.iinc 2 1, 3) := by decide +kernel
theorem dX2_readContext_44 : decode cX2_readContext 44 = .ok (.goto (-42), 3) := by decide +kernel
theorem dX2_readContext_27 : decode cX2_readContext 27 = .ok (.iconst 0, 1) := by decide +kernel
theorem dX2_readContext_28 : decode cX2_readContext 28 = .ok (.ireturn, 1) := by decide +kernel
theorem dX2_readContext_20 : decode cX2_readContext 20 = .ok (.aload_n 0, 1) := by decide +kernel
theorem dX2_readContext_21 : decode cX2_readContext 21 = .ok (.invokevirtual 40, 3) := by decide +kernel
theorem dX2_readContext_24 : decode cX2_readContext 24 = .ok (.ifCond .ne 5, 3) := by decide +kernel
theorem dX2_readContext_10 : decode cX2_readContext 10 = .ok (.aload_n 0, 1) := by decide +kernel
theorem dX2_readContext_11 : decode cX2_readContext 11 = .ok (.invokevirtual 71, 3) := by decide +kernel
theorem dX2_readContext_14 : decode cX2_readContext 14 = .ok (.invokestatic 75, 3) := by decide +kernel
theorem dX2_readContext_17 : decode cX2_readContext 17 = .ok (.ifCond .eq 30, 3) := by decide +kernel
theorem dX2_readContext_2 : decode cX2_readContext 2 = .ok (.iload_n 2, 1) := by decide +kernel
theorem dX2_readContext_3 : decode cX2_readContext 3 = .ok (.aload_n 0, 1) := by decide +kernel
theorem dX2_readContext_4 : decode cX2_readContext 4 = .ok (.getfield 15, 3) := by decide +kernel
theorem dX2_readContext_7 : decode cX2_readContext 7 = .ok (.if_icmp .ge 40, 3) := by decide +kernel
theorem dX2_readContext_0 : decode cX2_readContext 0 = .ok (.iconst 0, 1) := by decide +kernel
theorem dX2_readContext_1 : decode cX2_readContext 1 = .ok (.istore_n 2, 1) := by decide +kernel
theorem dX1_addSegment_31 : decode cX1_addSegment 31 = .ok (.aload_n 0, 1) := by decide +kernel
theorem dX1_addSegment_32 : decode cX1_addSegment 32 = .ok (.dup, 1) := by decide +kernel
theorem dX1_addSegment_33 : decode cX1_addSegment 33 = .ok (.getfield 41, 3) := by decide +kernel
theorem dX1_addSegment_36 : decode cX1_addSegment 36 = .ok (.iconst 1, 1) := by decide +kernel
theorem dX1_addSegment_37 : decode cX1_addSegment 37 = .ok (.iadd, 1) := by decide +kernel
theorem dX1_addSegment_38 : decode cX1_addSegment 38 = .ok (.putfield 41, 3) := by decide +kernel
theorem dX1_addSegment_41 : decode cX1_addSegment 41 = .ok (.return_, 1) := by decide +kernel
theorem dX1_addSegment_8 : decode cX1_addSegment 8 = .ok (.aload_n 0, 1) := by decide +kernel
theorem dX1_addSegment_9 : decode cX1_addSegment 9 = .ok (.getfield 35, 3) := by decide +kernel
theorem dX1_addSegment_12 : decode cX1_addSegment 12 = .ok (.aload_n 0, 1) := by decide +kernel
theorem dX1_addSegment_13 : decode cX1_addSegment 13 = .ok (.getfield 41, 3) := by decide +kernel
theorem dX1_addSegment_16 : decode cX1_addSegment 16 = .ok (.iload_n 1, 1) := by decide +kernel
theorem dX1_addSegment_17 : decode cX1_addSegment 17 = .ok (.iastore, 1) := by decide +kernel
theorem dX1_addSegment_18 : decode cX1_addSegment 18 = .ok (.aload_n 0, 1) := by decide +kernel
theorem dX1_addSegment_19 : decode cX1_addSegment 19 = .ok (.getfield 38, 3) := by decide +kernel
theorem dX1_addSegment_22 : decode cX1_addSegment 22 = .ok (.aload_n 0, 1) := by decide +kernel
theorem dX1_addSegment_23 : decode cX1_addSegment 23 = .ok (.getfield 41, 3) := by decide +kernel
theorem dX1_addSegment_26 : decode cX1_addSegment 26 = .ok (.aload_n 0, 1) := by decide +kernel
theorem dX1_addSegment_27 : decode cX1_addSegment 27 = .ok (.getfield 21, 3) := by decide +kernel
theorem dX1_addSegment_30 : decode cX1_addSegment 30 = .ok (.iastore, 1) := by decide +kernel
theorem dX1_addSegment_0 : decode cX1_addSegment 0 = .ok (.aload_n 0, 1) := by decide +kernel
theorem dX1_addSegment_1 : decode cX1_addSegment 1 = .ok (.getfield 41, 3) := by decide +kernel
theorem dX1_addSegment_4 : decode cX1_addSegment 4 = .ok (.iconst 3, 1) := by decide +kernel
theorem dX1_addSegment_5 : decode cX1_addSegment 5 = .ok (.if_icmp .ge 26, 3) := by decide +kernel
theorem dX2_readKey_133 : decode cX2_readKey 133 = .ok (.ireturn, 1) := by decide +kernel
theorem dX2_readKey_132 : decode cX2_readKey 132 = .ok (.iconst 0, 1) := by decide +kernel
theorem dX2_readKey_128 : decode cX2_readKey 128 = .ok (.iconst 1, 1) := by decide +kernel
theorem dX2_readKey_129 : decode cX2_readKey 129 = .ok (.goto 4, 3) := by decide +kernel
theorem dX2_readKey_117 : decode cX2_readKey 117 = .ok (.aload_n 1, 1) := by decide +kernel
theorem dX2_readKey_118 : decode cX2_readKey 118 = .ok (.getfield 54, 3) := by decide +kernel
theorem dX2_readKey_121 : decode cX2_readKey 121 = .ok (.aload_n 1, 1) := by decide +kernel
theorem dX2_readKey_122 : decode cX2_readKey 122 = .ok (.getfield 59, 3) := by decide +kernel
theorem dX2_readKey_125 : decode cX2_readKey 125 = .ok (.if_icmp .le 7, 3) := by decide +kernel
theorem dX2_readKey_113 : decode cX2_readKey 113 = .ok (.iload_n 2, 1) := by decide +kernel
theorem dX2_readKey_114 : decode cX2_readKey 114 = .ok (.ifCond .ne 18, 3) := by decide +kernel
theorem dX2_readKey_107 : decode cX2_readKey 107 = .ok (.iinc 4 1, 3) := by decide +kernel
theorem dX2_readKey_110 : decode cX2_readKey 110 = .ok (.goto (-100), 3) := by decide +kernel
theorem dX2_readKey_95 : decode cX2_readKey 95 = .ok (.aload_n 1, 1) := by decide +kernel
theorem dX2_readKey_96 : decode cX2_readKey 96 = .ok (.aload_n 0, 1) := by decide +kernel
theorem dX2_readKey_97 : decode cX2_readKey 97 = .ok (.getfield 26, 3) := by decide +kernel
theorem dX2_readKey_100 : decode cX2_readKey 100 = .ok (.aload_n 0, 1) := by decide +kernel
theorem dX2_readKey_101 : decode cX2_readKey 101 = .ok (.invokevirtual 78, 3) := by decide +kernel
theorem dX2_readKey_104 : decode cX2_readKey 104 = .ok (.invokevirtual 81, 3) := by decide +kernel
theorem dX2_readKey_93 : decode cX2_readKey 93 = .ok (.iconst 0, 1) := by decide +kernel
theorem dX2_readKey_94 : decode cX2_readKey 94 = .ok (.ireturn, 1) := by decide +kernel
theorem dX2_readKey_86 : decode cX2_readKey 86 = .ok (.aload_n 0, 1) := by decide +kernel
theorem dX2_readKey_87 : decode cX2_readKey 87 = .ok (.invokevirtual 40, 3) := by decide +kernel
theorem dX2_readKey_90 : decode cX2_readKey 90 = .ok (.ifCond .ne 5, 3) := by decide +kernel
theorem dX2_readKey_83 : decode cX2_readKey 83 = .ok (.goto 30, 3) := by decide +kernel
theorem dX2_readKey_73 : decode cX2_readKey 73 = .ok (.aload_n 0, 1) := by decide +kernel
theorem dX2_readKey_74 : decode cX2_readKey 74 = .ok (.invokevirtual 71, 3) := by decide +kernel
theorem dX2_readKey_77 : decode cX2_readKey 77 = .ok (.invokestatic 75, 3) := by decide +kernel
theorem dX2_readKey_80 : decode cX2_readKey 80 = .ok (.ifCond .ne 6, 3) := by decide +kernel
theorem dX2_readKey_63 : decode cX2_readKey 63 = .ok (.iconst 0, 1) := by decide +kernel
theorem dX2_readKey_64 : decode cX2_readKey 64 = .ok (.istore_n 2, 1) := by decide +kernel
theorem dX2_readKey_65 : decode cX2_readKey 65 = .ok (.aload_n 1, 1) := by decide +kernel
theorem dX2_readKey_66 : decode cX2_readKey 66 = .ok (.iload_n 3, 1) := by decide +kernel
theorem dX2_readKey_67 : decode cX2_readKey 67 = .ok (.invokevirtual 85, 3) := by decide +kernel
theorem dX2_readKey_70 : decode cX2_readKey 70 = .ok (.goto 37, 3) := by decide +kernel
theorem dX2_readKey_54 : decode cX2_readKey 54 = .ok (.aload_n 0, 1) := by decide +kernel
theorem dX2_readKey_55 : decode cX2_readKey 55 = .ok (.bipush 41, 2) := by decide +kernel
theorem dX2_readKey_57 : decode cX2_readKey 57 = .ok (.invokevirtual 51, 3) := by decide +kernel
theorem dX2_readKey_60 : decode cX2_readKey 60 = .ok (.ifCond .eq 13, 3) := by decide +kernel
theorem dX2_readKey_46 : decode cX2_readKey 46 = .ok (.aload_n 1, 1) := by decide +kernel
theorem dX2_readKey_47 : decode cX2_readKey 47 = .ok (.getfield 54, 3) := by decide +kernel
theorem dX2_readKey_50 : decode cX2_readKey 50 = .ok (.iload_n 3, 1) := by decide +kernel
theorem dX2_readKey_51 : decode cX2_readKey 51 = .ok (.if_icmp .le 22, 3) := by decide +kernel
theorem dX2_readKey_42 : decode cX2_readKey 42 = .ok (.iload_n 2, 1) := by decide +kernel
theorem dX2_readKey_43 : decode cX2_readKey 43 = .ok (.ifCond .eq 30, 3) := by decide +kernel
theorem dX2_readKey_32 : decode cX2_readKey 32 = .ok (.iconst 1, 1) := by decide +kernel
theorem dX2_readKey_33 : decode cX2_readKey 33 = .ok (.istore_n 2, 1) := by decide +kernel
theorem dX2_readKey_34 : decode cX2_readKey 34 = .ok (.aload_n 1, 1) := by decide +kernel
theorem dX2_readKey_35 : decode cX2_readKey 35 = .ok (.getfield 54, 3) := by decide +kernel
theorem dX2_readKey_38 : decode cX2_readKey 38 = .ok (.istore_n 3, 1) := by decide +kernel
theorem dX2_readKey_39 : decode cX2_readKey 39 = .ok (.goto 68, 3) := by decide +kernel
theorem dX2_readKey_23 : decode cX2_readKey 23 = .ok (.aload_n 0, 1) := by decide +kernel
theorem dX2_readKey_24 : decode cX2_readKey 24 = .ok (.bipush 40, 2) := by decide +kernel
theorem dX2_readKey_26 : decode cX2_readKey 26 = .ok (.invokevirtual 51, 3) := by decide +kernel
theorem dX2_readKey_29 : decode cX2_readKey 29 = .ok (.ifCond .eq 13, 3) := by decide +kernel
theorem dX2_readKey_19 : decode cX2_readKey 19 = .ok (.iload_n 2, 1) := by decide +kernel
theorem dX2_readKey_20 : decode cX2_readKey 20 = .ok (.ifCond .ne 22, 3) := by decide +kernel
theorem dX2_readKey_10 : decode cX2_readKey 10 = .ok (.iload 4, 2) := by decide +kernel
theorem dX2_readKey_12 : decode cX2_readKey 12 = .ok (.aload_n 0, 1) := by decide +kernel
theorem dX2_readKey_13 : decode cX2_readKey 13 = .ok (.getfield 15, 3) := by decide +kernel
theorem dX2_readKey_16 : decode cX2_readKey 16 = .ok (.if_icmp .ge 97, 3) := by decide +kernel
theorem dX2_readKey_0 : decode cX2_readKey 0 = .ok (.iconst 0, 1) := by decide +kernel
theorem dX2_readKey_1 : decode cX2_readKey 1 = .ok (.istore_n 2, 1) := by decide +kernel
theorem dX2_readKey_2 : decode cX2_readKey 2 = .ok (.aload_n 1, 1) := by decide +kernel
theorem dX2_readKey_3 : decode cX2_readKey 3 = .ok (.getfield 54, 3) := by decide +kernel
theorem dX2_readKey_6 : decode cX2_readKey 6 = .ok (.istore_n 3, 1) := by decide +kernel
theorem dX2_readKey_7 : decode cX2_readKey 7 = .ok (.iconst 0, 1) := by decide +kernel
theorem dX2_readKey_8 : decode cX2_readKey 8 = .ok (.istore 4, 2) := by decide +kernel
theorem dX1_addPiece_51 : decode cX1_addPiece 51 = .ok (.return_, 1) := by decide +kernel
theorem dX1_addPiece_36 : decode cX1_addPiece 36 = .ok (.aload_n 0, 1) := by decide +kernel
theorem dX1_addPiece_37 : decode cX1_addPiece 37 = .ok (.aload_n 0, 1) := by decide +kernel
theorem dX1_addPiece_38 : decode cX1_addPiece 38 = .ok (.getfield 51, 3) := by decide +kernel
theorem dX1_addPiece_41 : decode cX1_addPiece 41 = .ok (.iload_n 1, 1) := by decide +kernel
theorem dX1_addPiece_42 : decode cX1_addPiece 42 = .ok (.bipush 48, 2) := by decide +kernel
theorem dX1_addPiece_44 : decode cX1_addPiece 44 = .ok (.isub, 1) := by decide +kernel
theorem dX1_addPiece_45 : decode cX1_addPiece 45 = .ok (.invokestatic 61, 3) := by decide +kernel
theorem dX1_addPiece_48 : decode cX1_addPiece 48 = .ok (.putfield 51, 3) := by decide +kernel
theorem dX1_addPiece_19 : decode cX1_addPiece 19 = .ok (.aload_n 0, 1) := by decide +kernel
theorem dX1_addPiece_20 : decode cX1_addPiece 20 = .ok (.dup, 1) := by decide +kernel
theorem dX1_addPiece_21 : decode cX1_addPiece 21 = .ok (.getfield 48, 3) := by decide +kernel
theorem dX1_addPiece_24 : decode cX1_addPiece 24 = .ok (.iconst 1, 1) := by decide +kernel
theorem dX1_addPiece_25 : decode cX1_addPiece 25 = .ok (.iadd, 1) := by decide +kernel
theorem dX1_addPiece_26 : decode cX1_addPiece 26 = .ok (.putfield 48, 3) := by decide +kernel
theorem dX1_addPiece_29 : decode cX1_addPiece 29 = .ok (.iload_n 1, 1) := by decide +kernel
theorem dX1_addPiece_30 : decode cX1_addPiece 30 = .ok (.invokestatic 57, 3) := by decide +kernel
theorem dX1_addPiece_33 : decode cX1_addPiece 33 = .ok (.ifCond .ne 18, 3) := by decide +kernel
theorem dX1_addPiece_9 : decode cX1_addPiece 9 = .ok (.aload_n 0, 1) := by decide +kernel
theorem dX1_addPiece_10 : decode cX1_addPiece 10 = .ok (.getfield 44, 3) := by decide +kernel
theorem dX1_addPiece_13 : decode cX1_addPiece 13 = .ok (.aload_n 0, 1) := by decide +kernel
theorem dX1_addPiece_14 : decode cX1_addPiece 14 = .ok (.getfield 48, 3) := by decide +kernel
theorem dX1_addPiece_17 : decode cX1_addPiece 17 = .ok (.iload_n 1, 1) := by decide +kernel
theorem dX1_addPiece_18 : decode cX1_addPiece 18 = .ok (.castore, 1) := by decide +kernel
theorem dX1_addPiece_0 : decode cX1_addPiece 0 = .ok (.aload_n 0, 1) := by decide +kernel
theorem dX1_addPiece_1 : decode cX1_addPiece 1 = .ok (.getfield 48, 3) := by decide +kernel
theorem dX1_addPiece_4 : decode cX1_addPiece 4 = .ok (.bipush 12, 2) := by decide +kernel
theorem dX1_addPiece_6 : decode cX1_addPiece 6 = .ok (.if_icmp .ge 13, 3) := by decide +kernel
theorem dX2_readReplacement_100 : decode cX2_readReplacement 100 = .ok (.iconst 1, 1) := by decide +kernel
theorem dX2_readReplacement_101 : decode cX2_readReplacement 101 = .ok (.ireturn, 1) := by decide +kernel
theorem dX2_readReplacement_92 : decode cX2_readReplacement 92 = .ok (.aload_n 1, 1) := by decide +kernel
theorem dX2_readReplacement_93 : decode cX2_readReplacement 93 = .ok (.aload_n 1, 1) := by decide +kernel
theorem dX2_readReplacement_94 : decode cX2_readReplacement 94 = .ok (.getfield 89, 3) := by decide +kernel
theorem dX2_readReplacement_97 : decode cX2_readReplacement 97 = .ok (.putfield 92, 3) := by decide +kernel
theorem dX2_readReplacement_88 : decode cX2_readReplacement 88 = .ok (.iload_n 2, 1) := by decide +kernel
theorem dX2_readReplacement_89 : decode cX2_readReplacement 89 = .ok (.ifCond .ne 11, 3) := by decide +kernel
theorem dX2_readReplacement_75 : decode cX2_readReplacement 75 = .ok (.aload_n 0, 1) := by decide +kernel
theorem dX2_readReplacement_76 : decode cX2_readReplacement 76 = .ok (.dup, 1) := by decide +kernel
theorem dX2_readReplacement_77 : decode cX2_readReplacement 77 = .ok (.getfield 19, 3) := by decide +kernel
theorem dX2_readReplacement_80 : decode cX2_readReplacement 80 = .ok (.iconst 1, 1) := by decide +kernel
theorem dX2_readReplacement_81 : decode cX2_readReplacement 81 = .ok (.iadd, 1) := by decide +kernel
theorem dX2_readReplacement_82 : decode cX2_readReplacement 82 = .ok (.putfield 19, 3) := by decide +kernel
theorem dX2_readReplacement_85 : decode cX2_readReplacement 85 = .ok (.goto (-83), 3) := by decide +kernel
theorem dX2_readReplacement_73 : decode cX2_readReplacement 73 = .ok (.iconst 0, 1) := by decide +kernel
theorem dX2_readReplacement_74 : decode cX2_readReplacement 74 = .ok (.ireturn, 1) := by decide +kernel
theorem dX2_readReplacement_65 : decode cX2_readReplacement 65 = .ok (.aload_n 1, 1) := by decide +kernel
theorem dX2_readReplacement_66 : decode cX2_readReplacement 66 = .ok (.iload_n 3, 1) := by decide +kernel
theorem dX2_readReplacement_67 : decode cX2_readReplacement 67 = .ok (.invokevirtual 98, 3) := by decide +kernel
theorem dX2_readReplacement_70 : decode cX2_readReplacement 70 = .ok (.goto 5, 3) := by decide +kernel
theorem dX2_readReplacement_59 : decode cX2_readReplacement 59 = .ok (.iload_n 3, 1) := by decide +kernel
theorem dX2_readReplacement_60 : decode cX2_readReplacement 60 = .ok (.bipush 51, 2) := by decide +kernel
theorem dX2_readReplacement_62 : decode cX2_readReplacement 62 = .ok (.if_icmp .gt 11, 3) := by decide +kernel
theorem dX2_readReplacement_53 : decode cX2_readReplacement 53 = .ok (.iload_n 3, 1) := by decide +kernel
theorem dX2_readReplacement_54 : decode cX2_readReplacement 54 = .ok (.bipush 49, 2) := by decide +kernel
theorem dX2_readReplacement_56 : decode cX2_readReplacement 56 = .ok (.if_icmp .lt 17, 3) := by decide +kernel
theorem dX2_readReplacement_46 : decode cX2_readReplacement 46 = .ok (.iload_n 3, 1) := by decide +kernel
theorem dX2_readReplacement_47 : decode cX2_readReplacement 47 = .ok (.invokestatic 95, 3) := by decide +kernel
theorem dX2_readReplacement_50 : decode cX2_readReplacement 50 = .ok (.ifCond .ne 15, 3) := by decide +kernel
theorem dX2_readReplacement_33 : decode cX2_readReplacement 33 = .ok (.iconst 1, 1) := by decide +kernel
theorem dX2_readReplacement_34 : decode cX2_readReplacement 34 = .ok (.istore_n 2, 1) := by decide +kernel
theorem dX2_readReplacement_35 : decode cX2_readReplacement 35 = .ok (.aload_n 1, 1) := by decide +kernel
theorem dX2_readReplacement_36 : decode cX2_readReplacement 36 = .ok (.aload_n 1, 1) := by decide +kernel
theorem dX2_readReplacement_37 : decode cX2_readReplacement 37 = .ok (.getfield 89, 3) := by decide +kernel
theorem dX2_readReplacement_40 : decode cX2_readReplacement 40 = .ok (.putfield 92, 3) := by decide +kernel
theorem dX2_readReplacement_43 : decode cX2_readReplacement 43 = .ok (.goto 32, 3) := by decide +kernel
theorem dX2_readReplacement_29 : decode cX2_readReplacement 29 = .ok (.iload_n 2, 1) := by decide +kernel
theorem dX2_readReplacement_30 : decode cX2_readReplacement 30 = .ok (.ifCond .ne 16, 3) := by decide +kernel
theorem dX2_readReplacement_13 : decode cX2_readReplacement 13 = .ok (.aload_n 0, 1) := by decide +kernel
theorem dX2_readReplacement_14 : decode cX2_readReplacement 14 = .ok (.getfield 9, 3) := by decide +kernel
theorem dX2_readReplacement_17 : decode cX2_readReplacement 17 = .ok (.aload_n 0, 1) := by decide +kernel
theorem dX2_readReplacement_18 : decode cX2_readReplacement 18 = .ok (.getfield 19, 3) := by decide +kernel
theorem dX2_readReplacement_21 : decode cX2_readReplacement 21 = .ok (.caload, 1) := by decide +kernel
theorem dX2_readReplacement_22 : decode cX2_readReplacement 22 = .ok (.istore_n 3, 1) := by decide +kernel
theorem dX2_readReplacement_23 : decode cX2_readReplacement 23 = .ok (.iload_n 3, 1) := by decide +kernel
theorem dX2_readReplacement_24 : decode cX2_readReplacement 24 = .ok (.bipush 124, 2) := by decide +kernel
theorem dX2_readReplacement_26 : decode cX2_readReplacement 26 = .ok (.if_icmp .ne 20, 3) := by decide +kernel
theorem dX2_readReplacement_2 : decode cX2_readReplacement 2 = .ok (.aload_n 0, 1) := by decide +kernel
theorem dX2_readReplacement_3 : decode cX2_readReplacement 3 = .ok (.getfield 19, 3) := by decide +kernel
theorem dX2_readReplacement_6 : decode cX2_readReplacement 6 = .ok (.aload_n 0, 1) := by decide +kernel
theorem dX2_readReplacement_7 : decode cX2_readReplacement 7 = .ok (.getfield 15, 3) := by decide +kernel
theorem dX2_readReplacement_10 : decode cX2_readReplacement 10 = .ok (.if_icmp .ge 78, 3) := by decide +kernel
theorem dX2_readReplacement_0 : decode cX2_readReplacement 0 = .ok (.iconst 0, 1) := by decide +kernel
theorem dX2_readReplacement_1 : decode cX2_readReplacement 1 = .ok (.istore_n 2, 1) := by decide +kernel
-- X1_addElement
def wX1_addElement : List Cond := Cond.code yX1_addElement cX1_addElement 5 none :: kv_tb
abbrev SX1_addElement (pc : Nat) (F : kv_D) : Prop := kv_S cX1_addElement 5 RX1 wX1_addElement none false 0 0 none pc F
def fX1_addElement_120 : kv_D := o_aload 0 (o_dup (o_getf 1 3 (o_const 1 (o_iadd (o_putf 1 3 .int (o_ret))))))
theorem sX1_addElement_120 : SX1_addElement 120 (fX1_addElement_120) := k_aload_n dX1_addElement_120 rfl (k_dup dX1_addElement_121 (k_getf (C := RX1) (T := TX1) (N := 14) (ci := 1) (index := 21) (kf := 3) dX1_addElement_122 rfl (fun w h => List.mem_cons_of_mem _ (inX1 w h)) (by decide) (List.mem_cons_of_mem _ mw_62) (k_iconst dX1_addElement_125 (by decide +kernel) (k_iadd dX1_addElement_126 (k_putf (C := RX1) (T := TX1) (N := 14) (ci := 1) (index := 21) (kf := 3) (ty := .int) dX1_addElement_127 rfl (fun w h => List.mem_cons_of_mem _ (inX1 w h)) tyX1 tyX1_ok nmX1 (by decide) (List.mem_cons_of_mem _ mw_62) rfl rfl (k_ret dX1_addElement_130 rfl))))))
def fX1_addElement_119 : kv_D := o_iast 0 (fun x => x) ((fX1_addElement_120))
theorem sX1_addElement_119 : SX1_addElement 119 (fX1_addElement_119) := k_iast dX1_addElement_119 rfl ((sX1_addElement_120))
def fX1_addElement_118 : kv_D := o_const 1 ((fX1_addElement_119))
theorem sX1_addElement_118 : SX1_addElement 118 (fX1_addElement_118) := k_iconst dX1_addElement_118 (by decide +kernel) ((sX1_addElement_119))
def fX1_addElement_112 : kv_D := o_const 1000 ((fX1_addElement_119))
theorem sX1_addElement_112 : SX1_addElement 112 (fX1_addElement_112) := k_sipush dX1_addElement_112 (by decide +kernel) (k_goto dX1_addElement_115 rfl (sX1_addElement_119))
def fX1_addElement_99 : kv_D := o_iast 0 (fun x => x) (o_aload 0 (o_getf 1 2 (o_aload 0 (o_getf 1 3 (o_iload 3 (o_ifeq (fX1_addElement_118) (fX1_addElement_112)))))))
theorem sX1_addElement_99 : SX1_addElement 99 (fX1_addElement_99) := k_iast dX1_addElement_99 rfl (k_aload_n dX1_addElement_100 rfl (k_getf (C := RX1) (T := TX1) (N := 14) (ci := 1) (index := 18) (kf := 2) dX1_addElement_101 rfl (fun w h => List.mem_cons_of_mem _ (inX1 w h)) (by decide) (List.mem_cons_of_mem _ mw_60) (k_aload_n dX1_addElement_104 rfl (k_getf (C := RX1) (T := TX1) (N := 14) (ci := 1) (index := 21) (kf := 3) dX1_addElement_105 rfl (fun w h => List.mem_cons_of_mem _ (inX1 w h)) (by decide) (List.mem_cons_of_mem _ mw_62) (k_iload_n dX1_addElement_108 rfl (k_ifeq dX1_addElement_109 rfl (sX1_addElement_118) (sX1_addElement_112)))))))
def fX1_addElement_98 : kv_D := o_const 1 ((fX1_addElement_99))
theorem sX1_addElement_98 : SX1_addElement 98 (fX1_addElement_98) := k_iconst dX1_addElement_98 (by decide +kernel) ((sX1_addElement_99))
def fX1_addElement_94 : kv_D := o_const 0 ((fX1_addElement_99))
theorem sX1_addElement_94 : SX1_addElement 94 (fX1_addElement_94) := k_iconst dX1_addElement_94 (by decide +kernel) (k_goto dX1_addElement_95 rfl (sX1_addElement_99))
def fX1_addElement_71 : kv_D := o_aload 0 (o_getf 1 0 (o_aload 0 (o_getf 1 3 (o_iload 1 (o_iast 0 (fun x => x) (o_aload 0 (o_getf 1 1 (o_aload 0 (o_getf 1 3 (o_iload 4 (o_ifeq (fX1_addElement_98) (fX1_addElement_94))))))))))))
theorem sX1_addElement_71 : SX1_addElement 71 (fX1_addElement_71) := k_aload_n dX1_addElement_71 rfl (k_getf (C := RX1) (T := TX1) (N := 14) (ci := 1) (index := 9) (kf := 0) dX1_addElement_72 rfl (fun w h => List.mem_cons_of_mem _ (inX1 w h)) (by decide) (List.mem_cons_of_mem _ mw_56) (k_aload_n dX1_addElement_75 rfl (k_getf (C := RX1) (T := TX1) (N := 14) (ci := 1) (index := 21) (kf := 3) dX1_addElement_76 rfl (fun w h => List.mem_cons_of_mem _ (inX1 w h)) (by decide) (List.mem_cons_of_mem _ mw_62) (k_iload_n dX1_addElement_79 rfl (k_iast dX1_addElement_80 rfl (k_aload_n dX1_addElement_81 rfl (k_getf (C := RX1) (T := TX1) (N := 14) (ci := 1) (index := 15) (kf := 1) dX1_addElement_82 rfl (fun w h => List.mem_cons_of_mem _ (inX1 w h)) (by decide) (List.mem_cons_of_mem _ mw_58) (k_aload_n dX1_addElement_85 rfl (k_getf (C := RX1) (T := TX1) (N := 14) (ci := 1) (index := 21) (kf := 3) dX1_addElement_86 rfl (fun w h => List.mem_cons_of_mem _ (inX1 w h)) (by decide) (List.mem_cons_of_mem _ mw_62) (k_iload dX1_addElement_89 (k_ifeq dX1_addElement_91 rfl (sX1_addElement_98) (sX1_addElement_94))))))))))))
def fX1_addElement_59 : kv_D := o_putf 1 6 .boolean (o_aload 0 (o_getf 1 3 (o_const 12 (o_icge (fX1_addElement_120) (fX1_addElement_71)))))
theorem sX1_addElement_59 : SX1_addElement 59 (fX1_addElement_59) := k_putf (C := RX1) (T := TX1) (N := 14) (ci := 1) (index := 31) (kf := 6) (ty := .boolean) dX1_addElement_59 rfl (fun w h => List.mem_cons_of_mem _ (inX1 w h)) tyX1 tyX1_ok nmX1 (by decide) (List.mem_cons_of_mem _ mw_72) rfl rfl (k_aload_n dX1_addElement_62 rfl (k_getf (C := RX1) (T := TX1) (N := 14) (ci := 1) (index := 21) (kf := 3) dX1_addElement_63 rfl (fun w h => List.mem_cons_of_mem _ (inX1 w h)) (by decide) (List.mem_cons_of_mem _ mw_62) (k_bipush dX1_addElement_66 (by decide +kernel) (k_icge dX1_addElement_68 rfl (sX1_addElement_120) (sX1_addElement_71)))))
def fX1_addElement_58 : kv_D := o_const 0 ((fX1_addElement_59))
theorem sX1_addElement_58 : SX1_addElement 58 (fX1_addElement_58) := k_iconst dX1_addElement_58 (by decide +kernel) ((sX1_addElement_59))
def fX1_addElement_54 : kv_D := o_const 1 ((fX1_addElement_59))
theorem sX1_addElement_54 : SX1_addElement 54 (fX1_addElement_54) := k_iconst dX1_addElement_54 (by decide +kernel) (k_goto dX1_addElement_55 rfl (sX1_addElement_59))
def fX1_addElement_49 : kv_D := o_iload 4 (o_ifeq (fX1_addElement_58) (fX1_addElement_54))
theorem sX1_addElement_49 : SX1_addElement 49 (fX1_addElement_49) := k_iload dX1_addElement_49 (k_ifeq dX1_addElement_51 rfl (sX1_addElement_58) (sX1_addElement_54))
def fX1_addElement_45 : kv_D := o_iload 3 (o_ifne (fX1_addElement_54) (fX1_addElement_49))
theorem sX1_addElement_45 : SX1_addElement 45 (fX1_addElement_45) := k_iload_n dX1_addElement_45 rfl (k_ifne dX1_addElement_46 rfl (sX1_addElement_54) (sX1_addElement_49))
def fX1_addElement_35 : kv_D := o_istore 4 (o_aload 0 (o_aload 0 (o_getf 1 6 (o_ifne (fX1_addElement_54) (fX1_addElement_45)))))
theorem sX1_addElement_35 : SX1_addElement 35 (fX1_addElement_35) := k_istore dX1_addElement_35 (by decide) (k_aload_n dX1_addElement_37 rfl (k_aload_n dX1_addElement_38 rfl (k_getf (C := RX1) (T := TX1) (N := 14) (ci := 1) (index := 31) (kf := 6) dX1_addElement_39 rfl (fun w h => List.mem_cons_of_mem _ (inX1 w h)) (by decide) (List.mem_cons_of_mem _ mw_72) (k_ifne dX1_addElement_42 rfl (sX1_addElement_54) (sX1_addElement_45)))))
def fX1_addElement_34 : kv_D := o_const 0 ((fX1_addElement_35))
theorem sX1_addElement_34 : SX1_addElement 34 (fX1_addElement_34) := k_iconst dX1_addElement_34 (by decide +kernel) ((sX1_addElement_35))
def fX1_addElement_30 : kv_D := o_const 1 ((fX1_addElement_35))
theorem sX1_addElement_30 : SX1_addElement 30 (fX1_addElement_30) := k_iconst dX1_addElement_30 (by decide +kernel) (k_goto dX1_addElement_31 rfl (sX1_addElement_35))
def fX1_addElement_24 : kv_D := o_iload 2 (o_const 63 (o_icne (fX1_addElement_34) (fX1_addElement_30)))
theorem sX1_addElement_24 : SX1_addElement 24 (fX1_addElement_24) := k_iload_n dX1_addElement_24 rfl (k_bipush dX1_addElement_25 (by decide +kernel) (k_icne dX1_addElement_27 rfl (sX1_addElement_34) (sX1_addElement_30)))
def fX1_addElement_17 : kv_D := o_istore 3 (o_iload 2 (o_const 42 (o_iceq (fX1_addElement_30) (fX1_addElement_24))))
theorem sX1_addElement_17 : SX1_addElement 17 (fX1_addElement_17) := k_istore_n dX1_addElement_17 rfl (by decide) (k_iload_n dX1_addElement_18 rfl (k_bipush dX1_addElement_19 (by decide +kernel) (k_iceq dX1_addElement_21 rfl (sX1_addElement_30) (sX1_addElement_24))))
def fX1_addElement_16 : kv_D := o_const 0 ((fX1_addElement_17))
theorem sX1_addElement_16 : SX1_addElement 16 (fX1_addElement_16) := k_iconst dX1_addElement_16 (by decide +kernel) ((sX1_addElement_17))
def fX1_addElement_12 : kv_D := o_const 1 ((fX1_addElement_17))
theorem sX1_addElement_12 : SX1_addElement 12 (fX1_addElement_12) := k_iconst dX1_addElement_12 (by decide +kernel) (k_goto dX1_addElement_13 rfl (sX1_addElement_17))
def fX1_addElement_6 : kv_D := o_iload 2 (o_const 43 (o_icne (fX1_addElement_16) (fX1_addElement_12)))
theorem sX1_addElement_6 : SX1_addElement 6 (fX1_addElement_6) := k_iload_n dX1_addElement_6 rfl (k_bipush dX1_addElement_7 (by decide +kernel) (k_icne dX1_addElement_9 rfl (sX1_addElement_16) (sX1_addElement_12)))
def fX1_addElement_0 : kv_D := o_iload 2 (o_const 42 (o_iceq (fX1_addElement_12) (fX1_addElement_6)))
theorem sX1_addElement_0 : SX1_addElement 0 (fX1_addElement_0) := k_iload_n dX1_addElement_0 rfl (k_bipush dX1_addElement_1 (by decide +kernel) (k_iceq dX1_addElement_3 rfl (sX1_addElement_12) (sX1_addElement_6)))
def mX1_addElement : kv_M := kv_in 3 5 (fX1_addElement_0)
theorem cX1_addElement_ct : kv_CT yX1_addElement wX1_addElement 0 0 mX1_addElement := kv_met (by decide) rfl rfl (by decide) (fun h => by cases h) (sX1_addElement_0)
-- X2_readContext
def wX2_readContext : List Cond := Cond.code yX2_readContext cX2_readContext 3 (some .boolean) :: kv_tb
abbrev SX2_readContext (pc : Nat) (F : kv_D) : Prop := kv_S cX2_readContext 3 RX2 wX2_readContext (some .boolean) false 3 67 none pc F
def fX2_readContext_47 (K : Nat → kv_D) : kv_D := o_const 1 (o_iret .boolean)
theorem sX2_readContext_47 {K : Nat → kv_D} (hK : ∀ pc, SX2_readContext pc (K pc)) : SX2_readContext 47 (fX2_readContext_47 K) := k_iconst dX2_readContext_47 (by decide +kernel) (k_iret dX2_readContext_48 rfl)
theorem nX2_readContext_47 : kv_cn (fun K => fX2_readContext_47 K) := cn_const 1 (cn_c _)
def fX2_readContext_29 (K : Nat → kv_D) : kv_D := o_aload 1 (o_aload 0 (o_getf 2 4 (o_aload 0 (o_callV 2 0 mX2_readQuantifier (o_callV 1 2 mX1_addElement (o_iinc 2 1 ((K 2))))))))
theorem sX2_readContext_29 {K : Nat → kv_D} (hK : ∀ pc, SX2_readContext pc (K pc)) : SX2_readContext 29 (fX2_readContext_29 K) := k_aload_n dX2_readContext_29 rfl (k_aload_n dX2_readContext_30 rfl (k_getf (C := RX2) (T := TX2) (N := 6) (ci := 2) (index := 26) (kf := 4) dX2_readContext_31 rfl (fun w h => List.mem_cons_of_mem _ (inX2 w h)) (by decide) (List.mem_cons_of_mem _ mw_31) (k_aload_n dX2_readContext_34 rfl (k_callV (q := (RX2, TX2, 6)) dX2_readContext_35 cX2_readQuantifier_ct rfl (kv_goodV mw_247 mw_249 sel_X2_readQuantifier mw_2 mw_250) (by decide +kernel) rfl (by decide) (by decide) (k_callV (q := (RX1, TX1, 14)) dX2_readContext_38 cX1_addElement_ct rfl (kv_goodV mw_251 mw_252 mw_253 mw_3 mw_254) (by decide +kernel) rfl (by decide) (by decide) (k_iinc dX2_readContext_41 (by decide +kernel) (by decide) (k_goto dX2_readContext_44 rfl (hK 2))))))))
theorem nX2_readContext_29 : kv_cn (fun K => fX2_readContext_29 K) := cn_aload 1 (cn_aload 0 (cn_getf 2 4 (cn_aload 0 (cn_callV 2 0 mX2_readQuantifier (cn_callV 1 2 mX1_addElement (cn_iinc 2 1 ((cn_K 2))))))))
def fX2_readContext_27 (K : Nat → kv_D) : kv_D := o_const 0 (o_iret .boolean)
theorem sX2_readContext_27 {K : Nat → kv_D} (hK : ∀ pc, SX2_readContext pc (K pc)) : SX2_readContext 27 (fX2_readContext_27 K) := k_iconst dX2_readContext_27 (by decide +kernel) (k_iret dX2_readContext_28 rfl)
theorem nX2_readContext_27 : kv_cn (fun K => fX2_readContext_27 K) := cn_const 0 (cn_c _)
def fX2_readContext_20 (K : Nat → kv_D) : kv_D := o_aload 0 (o_callV 2 0 mX2_readElement (o_ifne (fX2_readContext_29 K) (fX2_readContext_27 K)))
theorem sX2_readContext_20 {K : Nat → kv_D} (hK : ∀ pc, SX2_readContext pc (K pc)) : SX2_readContext 20 (fX2_readContext_20 K) := k_aload_n dX2_readContext_20 rfl (k_callV (q := (RX2, TX2, 6)) dX2_readContext_21 cX2_readElement_ct rfl (kv_goodV mw_197 mw_199 sel_X2_readElement mw_2 mw_200) (by decide +kernel) rfl (by decide) (by decide) (k_ifne dX2_readContext_24 rfl (sX2_readContext_29 hK) (sX2_readContext_27 hK)))
theorem nX2_readContext_20 : kv_cn (fun K => fX2_readContext_20 K) := cn_aload 0 (cn_callV 2 0 mX2_readElement (cn_ifne nX2_readContext_29 nX2_readContext_27))
def fX2_readContext_10 (K : Nat → kv_D) : kv_D := o_aload 0 (o_callV 2 0 mX2_next (o_callS 1 mX2_beginsElement (o_ifeq (fX2_readContext_47 K) (fX2_readContext_20 K))))
theorem sX2_readContext_10 {K : Nat → kv_D} (hK : ∀ pc, SX2_readContext pc (K pc)) : SX2_readContext 10 (fX2_readContext_10 K) := k_aload_n dX2_readContext_10 rfl (k_callV (q := (RX2, TX2, 6)) dX2_readContext_11 cX2_next_ct rfl (kv_goodV mw_201 mw_203 sel_X2_next mw_2 mw_204) (by decide +kernel) rfl (by decide) (by decide) (k_callS dX2_readContext_14 cX2_beginsElement_ct rfl (kv_goodS mw_244 mw_245 mw_2 mw_246) (by decide +kernel) (by decide) (by decide) (k_ifeq dX2_readContext_17 rfl (sX2_readContext_47 hK) (sX2_readContext_20 hK))))
theorem nX2_readContext_10 : kv_cn (fun K => fX2_readContext_10 K) := cn_aload 0 (cn_callV 2 0 mX2_next (cn_callS 1 mX2_beginsElement (cn_ifeq nX2_readContext_47 nX2_readContext_20)))
def fX2_readContext_2 (K : Nat → kv_D) : kv_D := o_iload 2 (o_aload 0 (o_getf 2 1 (o_icge (fX2_readContext_47 K) (fX2_readContext_10 K))))
theorem sX2_readContext_2 {K : Nat → kv_D} (hK : ∀ pc, SX2_readContext pc (K pc)) : SX2_readContext 2 (fX2_readContext_2 K) := k_iload_n dX2_readContext_2 rfl (k_aload_n dX2_readContext_3 rfl (k_getf (C := RX2) (T := TX2) (N := 6) (ci := 2) (index := 15) (kf := 1) dX2_readContext_4 rfl (fun w h => List.mem_cons_of_mem _ (inX2 w h)) (by decide) (List.mem_cons_of_mem _ mw_28) (k_icge dX2_readContext_7 rfl (sX2_readContext_47 hK) (sX2_readContext_10 hK))))
theorem nX2_readContext_2 : kv_cn (fun K => fX2_readContext_2 K) := cn_iload 2 (cn_aload 0 (cn_getf 2 1 (cn_icge nX2_readContext_47 nX2_readContext_10)))
def fX2_readContext_0 (K : Nat → kv_D) : kv_D := o_const 0 (o_istore 2 ((K 2)))
theorem sX2_readContext_0 {K : Nat → kv_D} (hK : ∀ pc, SX2_readContext pc (K pc)) : SX2_readContext 0 (fX2_readContext_0 K) := k_iconst dX2_readContext_0 (by decide +kernel) (k_istore_n dX2_readContext_1 rfl (by decide) ((hK 2)))
theorem nX2_readContext_0 : kv_cn (fun K => fX2_readContext_0 K) := cn_const 0 (cn_istore 2 ((cn_K 2)))
def bX2_readContext (K : Nat → kv_D) (pc : Nat) : kv_D := if pc = 2 then fX2_readContext_2 K else fun _ _ _ _ _ => False
theorem hX2_readContext : ∀ pc, SX2_readContext pc (kv_lim (bX2_readContext) pc) := kv_lim_S (fun K hK pc => by
  unfold bX2_readContext
  by_cases q2 : pc = 2
  · rw [if_pos q2, q2]
    exact sX2_readContext_2 hK
  rw [if_neg q2]
  exact kv_none)
theorem uX2_readContext_2 {L : List (Option Value)} {st : List Value} {h : kv_H} {v : Option Value} {h' : kv_H} (hx : fX2_readContext_2 (kv_lim (bX2_readContext)) L st h v h') : kv_lim (bX2_readContext) 2 L st h v h' := kv_un (q := 2) (by have e : (fun K => bX2_readContext K 2) = fun K => fX2_readContext_2 K := (by funext K; rfl); rw [e]; exact nX2_readContext_2) (by have e : bX2_readContext (kv_lim (bX2_readContext)) 2 = fX2_readContext_2 (kv_lim (bX2_readContext)) := rfl; rw [e]; exact hx)
def mX2_readContext : kv_M := kv_in 2 3 (fX2_readContext_0 (kv_lim (bX2_readContext)))
theorem cX2_readContext_ct : kv_CT yX2_readContext wX2_readContext 3 67 mX2_readContext := kv_met (by decide) rfl rfl (by decide) (fun h => by cases h) (sX2_readContext_0 (hX2_readContext))
-- X1_addSegment
def wX1_addSegment : List Cond := Cond.code yX1_addSegment cX1_addSegment 2 none :: kv_tb
abbrev SX1_addSegment (pc : Nat) (F : kv_D) : Prop := kv_S cX1_addSegment 2 RX1 wX1_addSegment none false 0 0 none pc F
def fX1_addSegment_31 : kv_D := o_aload 0 (o_dup (o_getf 1 9 (o_const 1 (o_iadd (o_putf 1 9 .int (o_ret))))))
theorem sX1_addSegment_31 : SX1_addSegment 31 (fX1_addSegment_31) := k_aload_n dX1_addSegment_31 rfl (k_dup dX1_addSegment_32 (k_getf (C := RX1) (T := TX1) (N := 14) (ci := 1) (index := 41) (kf := 9) dX1_addSegment_33 rfl (fun w h => List.mem_cons_of_mem _ (inX1 w h)) (by decide) (List.mem_cons_of_mem _ mw_77) (k_iconst dX1_addSegment_36 (by decide +kernel) (k_iadd dX1_addSegment_37 (k_putf (C := RX1) (T := TX1) (N := 14) (ci := 1) (index := 41) (kf := 9) (ty := .int) dX1_addSegment_38 rfl (fun w h => List.mem_cons_of_mem _ (inX1 w h)) tyX1 tyX1_ok nmX1 (by decide) (List.mem_cons_of_mem _ mw_77) rfl rfl (k_ret dX1_addSegment_41 rfl))))))
def fX1_addSegment_8 : kv_D := o_aload 0 (o_getf 1 7 (o_aload 0 (o_getf 1 9 (o_iload 1 (o_iast 0 (fun x => x) (o_aload 0 (o_getf 1 8 (o_aload 0 (o_getf 1 9 (o_aload 0 (o_getf 1 3 (o_iast 0 (fun x => x) ((fX1_addSegment_31))))))))))))))
theorem sX1_addSegment_8 : SX1_addSegment 8 (fX1_addSegment_8) := k_aload_n dX1_addSegment_8 rfl (k_getf (C := RX1) (T := TX1) (N := 14) (ci := 1) (index := 35) (kf := 7) dX1_addSegment_9 rfl (fun w h => List.mem_cons_of_mem _ (inX1 w h)) (by decide) (List.mem_cons_of_mem _ mw_73) (k_aload_n dX1_addSegment_12 rfl (k_getf (C := RX1) (T := TX1) (N := 14) (ci := 1) (index := 41) (kf := 9) dX1_addSegment_13 rfl (fun w h => List.mem_cons_of_mem _ (inX1 w h)) (by decide) (List.mem_cons_of_mem _ mw_77) (k_iload_n dX1_addSegment_16 rfl (k_iast dX1_addSegment_17 rfl (k_aload_n dX1_addSegment_18 rfl (k_getf (C := RX1) (T := TX1) (N := 14) (ci := 1) (index := 38) (kf := 8) dX1_addSegment_19 rfl (fun w h => List.mem_cons_of_mem _ (inX1 w h)) (by decide) (List.mem_cons_of_mem _ mw_75) (k_aload_n dX1_addSegment_22 rfl (k_getf (C := RX1) (T := TX1) (N := 14) (ci := 1) (index := 41) (kf := 9) dX1_addSegment_23 rfl (fun w h => List.mem_cons_of_mem _ (inX1 w h)) (by decide) (List.mem_cons_of_mem _ mw_77) (k_aload_n dX1_addSegment_26 rfl (k_getf (C := RX1) (T := TX1) (N := 14) (ci := 1) (index := 21) (kf := 3) dX1_addSegment_27 rfl (fun w h => List.mem_cons_of_mem _ (inX1 w h)) (by decide) (List.mem_cons_of_mem _ mw_62) (k_iast dX1_addSegment_30 rfl ((sX1_addSegment_31))))))))))))))
def fX1_addSegment_0 : kv_D := o_aload 0 (o_getf 1 9 (o_const 3 (o_icge (fX1_addSegment_31) (fX1_addSegment_8))))
theorem sX1_addSegment_0 : SX1_addSegment 0 (fX1_addSegment_0) := k_aload_n dX1_addSegment_0 rfl (k_getf (C := RX1) (T := TX1) (N := 14) (ci := 1) (index := 41) (kf := 9) dX1_addSegment_1 rfl (fun w h => List.mem_cons_of_mem _ (inX1 w h)) (by decide) (List.mem_cons_of_mem _ mw_77) (k_iconst dX1_addSegment_4 (by decide +kernel) (k_icge dX1_addSegment_5 rfl (sX1_addSegment_31) (sX1_addSegment_8))))
def mX1_addSegment : kv_M := kv_in 2 2 (fX1_addSegment_0)
theorem cX1_addSegment_ct : kv_CT yX1_addSegment wX1_addSegment 0 0 mX1_addSegment := kv_met (by decide) rfl rfl (by decide) (fun h => by cases h) (sX1_addSegment_0)
-- X2_readKey
def wX2_readKey : List Cond := Cond.code yX2_readKey cX2_readKey 5 (some .boolean) :: kv_tb
abbrev SX2_readKey (pc : Nat) (F : kv_D) : Prop := kv_S cX2_readKey 5 RX2 wX2_readKey (some .boolean) false 3 67 none pc F
def fX2_readKey_133 (K : Nat → kv_D) : kv_D := o_iret .boolean
theorem sX2_readKey_133 {K : Nat → kv_D} (hK : ∀ pc, SX2_readKey pc (K pc)) : SX2_readKey 133 (fX2_readKey_133 K) := k_iret dX2_readKey_133 rfl
theorem nX2_readKey_133 : kv_cn (fun K => fX2_readKey_133 K) := cn_c _
def fX2_readKey_132 (K : Nat → kv_D) : kv_D := o_const 0 ((fX2_readKey_133 K))
theorem sX2_readKey_132 {K : Nat → kv_D} (hK : ∀ pc, SX2_readKey pc (K pc)) : SX2_readKey 132 (fX2_readKey_132 K) := k_iconst dX2_readKey_132 (by decide +kernel) ((sX2_readKey_133 hK))
theorem nX2_readKey_132 : kv_cn (fun K => fX2_readKey_132 K) := cn_const 0 (nX2_readKey_133)
def fX2_readKey_128 (K : Nat → kv_D) : kv_D := o_const 1 ((fX2_readKey_133 K))
theorem sX2_readKey_128 {K : Nat → kv_D} (hK : ∀ pc, SX2_readKey pc (K pc)) : SX2_readKey 128 (fX2_readKey_128 K) := k_iconst dX2_readKey_128 (by decide +kernel) (k_goto dX2_readKey_129 rfl (sX2_readKey_133 hK))
theorem nX2_readKey_128 : kv_cn (fun K => fX2_readKey_128 K) := cn_const 1 (nX2_readKey_133)
def fX2_readKey_117 (K : Nat → kv_D) : kv_D := o_aload 1 (o_getf 1 3 (o_aload 1 (o_getf 1 4 (o_icle (fX2_readKey_132 K) (fX2_readKey_128 K)))))
theorem sX2_readKey_117 {K : Nat → kv_D} (hK : ∀ pc, SX2_readKey pc (K pc)) : SX2_readKey 117 (fX2_readKey_117 K) := k_aload_n dX2_readKey_117 rfl (k_getN (C := RX1) (T := TX1) (N := 14) (ci := 1) (index := 54) (kf := 3) dX2_readKey_118 rfl (fun w h => List.mem_cons_of_mem _ (inX1 w h)) (by decide) mw_64 (k_aload_n dX2_readKey_121 rfl (k_getN (C := RX1) (T := TX1) (N := 14) (ci := 1) (index := 59) (kf := 4) dX2_readKey_122 rfl (fun w h => List.mem_cons_of_mem _ (inX1 w h)) (by decide) mw_67 (k_icle dX2_readKey_125 rfl (sX2_readKey_132 hK) (sX2_readKey_128 hK)))))
theorem nX2_readKey_117 : kv_cn (fun K => fX2_readKey_117 K) := cn_aload 1 (cn_getf 1 3 (cn_aload 1 (cn_getf 1 4 (cn_icle nX2_readKey_132 nX2_readKey_128))))
def fX2_readKey_113 (K : Nat → kv_D) : kv_D := o_iload 2 (o_ifne (fX2_readKey_132 K) (fX2_readKey_117 K))
theorem sX2_readKey_113 {K : Nat → kv_D} (hK : ∀ pc, SX2_readKey pc (K pc)) : SX2_readKey 113 (fX2_readKey_113 K) := k_iload_n dX2_readKey_113 rfl (k_ifne dX2_readKey_114 rfl (sX2_readKey_132 hK) (sX2_readKey_117 hK))
theorem nX2_readKey_113 : kv_cn (fun K => fX2_readKey_113 K) := cn_iload 2 (cn_ifne nX2_readKey_132 nX2_readKey_117)
def fX2_readKey_107 (K : Nat → kv_D) : kv_D := o_iinc 4 1 ((K 10))
theorem sX2_readKey_107 {K : Nat → kv_D} (hK : ∀ pc, SX2_readKey pc (K pc)) : SX2_readKey 107 (fX2_readKey_107 K) := k_iinc dX2_readKey_107 (by decide +kernel) (by decide) (k_goto dX2_readKey_110 rfl (hK 10))
theorem nX2_readKey_107 : kv_cn (fun K => fX2_readKey_107 K) := cn_iinc 4 1 ((cn_K 10))
def fX2_readKey_95 (K : Nat → kv_D) : kv_D := o_aload 1 (o_aload 0 (o_getf 2 4 (o_aload 0 (o_callV 2 0 mX2_readQuantifier (o_callV 1 2 mX1_addElement ((fX2_readKey_107 K)))))))
theorem sX2_readKey_95 {K : Nat → kv_D} (hK : ∀ pc, SX2_readKey pc (K pc)) : SX2_readKey 95 (fX2_readKey_95 K) := k_aload_n dX2_readKey_95 rfl (k_aload_n dX2_readKey_96 rfl (k_getf (C := RX2) (T := TX2) (N := 6) (ci := 2) (index := 26) (kf := 4) dX2_readKey_97 rfl (fun w h => List.mem_cons_of_mem _ (inX2 w h)) (by decide) (List.mem_cons_of_mem _ mw_31) (k_aload_n dX2_readKey_100 rfl (k_callV (q := (RX2, TX2, 6)) dX2_readKey_101 cX2_readQuantifier_ct rfl (kv_goodV mw_247 mw_249 sel_X2_readQuantifier mw_2 mw_250) (by decide +kernel) rfl (by decide) (by decide) (k_callV (q := (RX1, TX1, 14)) dX2_readKey_104 cX1_addElement_ct rfl (kv_goodV mw_251 mw_252 mw_253 mw_3 mw_254) (by decide +kernel) rfl (by decide) (by decide) ((sX2_readKey_107 hK)))))))
theorem nX2_readKey_95 : kv_cn (fun K => fX2_readKey_95 K) := cn_aload 1 (cn_aload 0 (cn_getf 2 4 (cn_aload 0 (cn_callV 2 0 mX2_readQuantifier (cn_callV 1 2 mX1_addElement (nX2_readKey_107))))))
def fX2_readKey_93 (K : Nat → kv_D) : kv_D := o_const 0 (o_iret .boolean)
theorem sX2_readKey_93 {K : Nat → kv_D} (hK : ∀ pc, SX2_readKey pc (K pc)) : SX2_readKey 93 (fX2_readKey_93 K) := k_iconst dX2_readKey_93 (by decide +kernel) (k_iret dX2_readKey_94 rfl)
theorem nX2_readKey_93 : kv_cn (fun K => fX2_readKey_93 K) := cn_const 0 (cn_c _)
def fX2_readKey_86 (K : Nat → kv_D) : kv_D := o_aload 0 (o_callV 2 0 mX2_readElement (o_ifne (fX2_readKey_95 K) (fX2_readKey_93 K)))
theorem sX2_readKey_86 {K : Nat → kv_D} (hK : ∀ pc, SX2_readKey pc (K pc)) : SX2_readKey 86 (fX2_readKey_86 K) := k_aload_n dX2_readKey_86 rfl (k_callV (q := (RX2, TX2, 6)) dX2_readKey_87 cX2_readElement_ct rfl (kv_goodV mw_197 mw_199 sel_X2_readElement mw_2 mw_200) (by decide +kernel) rfl (by decide) (by decide) (k_ifne dX2_readKey_90 rfl (sX2_readKey_95 hK) (sX2_readKey_93 hK)))
theorem nX2_readKey_86 : kv_cn (fun K => fX2_readKey_86 K) := cn_aload 0 (cn_callV 2 0 mX2_readElement (cn_ifne nX2_readKey_95 nX2_readKey_93))
def fX2_readKey_83 (K : Nat → kv_D) : kv_D := (fX2_readKey_113 K)
theorem sX2_readKey_83 {K : Nat → kv_D} (hK : ∀ pc, SX2_readKey pc (K pc)) : SX2_readKey 83 (fX2_readKey_83 K) := k_goto dX2_readKey_83 rfl (sX2_readKey_113 hK)
theorem nX2_readKey_83 : kv_cn (fun K => fX2_readKey_83 K) := nX2_readKey_113
def fX2_readKey_73 (K : Nat → kv_D) : kv_D := o_aload 0 (o_callV 2 0 mX2_next (o_callS 1 mX2_beginsElement (o_ifne (fX2_readKey_86 K) (fX2_readKey_83 K))))
theorem sX2_readKey_73 {K : Nat → kv_D} (hK : ∀ pc, SX2_readKey pc (K pc)) : SX2_readKey 73 (fX2_readKey_73 K) := k_aload_n dX2_readKey_73 rfl (k_callV (q := (RX2, TX2, 6)) dX2_readKey_74 cX2_next_ct rfl (kv_goodV mw_201 mw_203 sel_X2_next mw_2 mw_204) (by decide +kernel) rfl (by decide) (by decide) (k_callS dX2_readKey_77 cX2_beginsElement_ct rfl (kv_goodS mw_244 mw_245 mw_2 mw_246) (by decide +kernel) (by decide) (by decide) (k_ifne dX2_readKey_80 rfl (sX2_readKey_86 hK) (sX2_readKey_83 hK))))
theorem nX2_readKey_73 : kv_cn (fun K => fX2_readKey_73 K) := cn_aload 0 (cn_callV 2 0 mX2_next (cn_callS 1 mX2_beginsElement (cn_ifne nX2_readKey_86 nX2_readKey_83)))
def fX2_readKey_63 (K : Nat → kv_D) : kv_D := o_const 0 (o_istore 2 (o_aload 1 (o_iload 3 (o_callV 1 1 mX1_addSegment ((fX2_readKey_107 K))))))
theorem sX2_readKey_63 {K : Nat → kv_D} (hK : ∀ pc, SX2_readKey pc (K pc)) : SX2_readKey 63 (fX2_readKey_63 K) := k_iconst dX2_readKey_63 (by decide +kernel) (k_istore_n dX2_readKey_64 rfl (by decide) (k_aload_n dX2_readKey_65 rfl (k_iload_n dX2_readKey_66 rfl (k_callV (q := (RX1, TX1, 14)) dX2_readKey_67 cX1_addSegment_ct rfl (kv_goodV mw_259 mw_260 mw_261 mw_3 mw_262) (by decide +kernel) rfl (by decide) (by decide) (k_goto dX2_readKey_70 rfl (sX2_readKey_107 hK))))))
theorem nX2_readKey_63 : kv_cn (fun K => fX2_readKey_63 K) := cn_const 0 (cn_istore 2 (cn_aload 1 (cn_iload 3 (cn_callV 1 1 mX1_addSegment (nX2_readKey_107)))))
def fX2_readKey_54 (K : Nat → kv_D) : kv_D := o_aload 0 (o_const 41 (o_callV 2 1 mX2_skip (o_ifeq (fX2_readKey_73 K) (fX2_readKey_63 K))))
theorem sX2_readKey_54 {K : Nat → kv_D} (hK : ∀ pc, SX2_readKey pc (K pc)) : SX2_readKey 54 (fX2_readKey_54 K) := k_aload_n dX2_readKey_54 rfl (k_bipush dX2_readKey_55 (by decide +kernel) (k_callV (q := (RX2, TX2, 6)) dX2_readKey_57 cX2_skip_ct rfl (kv_goodV mw_216 mw_218 sel_X2_skip mw_2 mw_219) (by decide +kernel) rfl (by decide) (by decide) (k_ifeq dX2_readKey_60 rfl (sX2_readKey_73 hK) (sX2_readKey_63 hK))))
theorem nX2_readKey_54 : kv_cn (fun K => fX2_readKey_54 K) := cn_aload 0 (cn_const 41 (cn_callV 2 1 mX2_skip (cn_ifeq nX2_readKey_73 nX2_readKey_63)))
def fX2_readKey_46 (K : Nat → kv_D) : kv_D := o_aload 1 (o_getf 1 3 (o_iload 3 (o_icle (fX2_readKey_73 K) (fX2_readKey_54 K))))
theorem sX2_readKey_46 {K : Nat → kv_D} (hK : ∀ pc, SX2_readKey pc (K pc)) : SX2_readKey 46 (fX2_readKey_46 K) := k_aload_n dX2_readKey_46 rfl (k_getN (C := RX1) (T := TX1) (N := 14) (ci := 1) (index := 54) (kf := 3) dX2_readKey_47 rfl (fun w h => List.mem_cons_of_mem _ (inX1 w h)) (by decide) mw_64 (k_iload_n dX2_readKey_50 rfl (k_icle dX2_readKey_51 rfl (sX2_readKey_73 hK) (sX2_readKey_54 hK))))
theorem nX2_readKey_46 : kv_cn (fun K => fX2_readKey_46 K) := cn_aload 1 (cn_getf 1 3 (cn_iload 3 (cn_icle nX2_readKey_73 nX2_readKey_54)))
def fX2_readKey_42 (K : Nat → kv_D) : kv_D := o_iload 2 (o_ifeq (fX2_readKey_73 K) (fX2_readKey_46 K))
theorem sX2_readKey_42 {K : Nat → kv_D} (hK : ∀ pc, SX2_readKey pc (K pc)) : SX2_readKey 42 (fX2_readKey_42 K) := k_iload_n dX2_readKey_42 rfl (k_ifeq dX2_readKey_43 rfl (sX2_readKey_73 hK) (sX2_readKey_46 hK))
theorem nX2_readKey_42 : kv_cn (fun K => fX2_readKey_42 K) := cn_iload 2 (cn_ifeq nX2_readKey_73 nX2_readKey_46)
def fX2_readKey_32 (K : Nat → kv_D) : kv_D := o_const 1 (o_istore 2 (o_aload 1 (o_getf 1 3 (o_istore 3 ((fX2_readKey_107 K))))))
theorem sX2_readKey_32 {K : Nat → kv_D} (hK : ∀ pc, SX2_readKey pc (K pc)) : SX2_readKey 32 (fX2_readKey_32 K) := k_iconst dX2_readKey_32 (by decide +kernel) (k_istore_n dX2_readKey_33 rfl (by decide) (k_aload_n dX2_readKey_34 rfl (k_getN (C := RX1) (T := TX1) (N := 14) (ci := 1) (index := 54) (kf := 3) dX2_readKey_35 rfl (fun w h => List.mem_cons_of_mem _ (inX1 w h)) (by decide) mw_64 (k_istore_n dX2_readKey_38 rfl (by decide) (k_goto dX2_readKey_39 rfl (sX2_readKey_107 hK))))))
theorem nX2_readKey_32 : kv_cn (fun K => fX2_readKey_32 K) := cn_const 1 (cn_istore 2 (cn_aload 1 (cn_getf 1 3 (cn_istore 3 (nX2_readKey_107)))))
def fX2_readKey_23 (K : Nat → kv_D) : kv_D := o_aload 0 (o_const 40 (o_callV 2 1 mX2_skip (o_ifeq (fX2_readKey_42 K) (fX2_readKey_32 K))))
theorem sX2_readKey_23 {K : Nat → kv_D} (hK : ∀ pc, SX2_readKey pc (K pc)) : SX2_readKey 23 (fX2_readKey_23 K) := k_aload_n dX2_readKey_23 rfl (k_bipush dX2_readKey_24 (by decide +kernel) (k_callV (q := (RX2, TX2, 6)) dX2_readKey_26 cX2_skip_ct rfl (kv_goodV mw_216 mw_218 sel_X2_skip mw_2 mw_219) (by decide +kernel) rfl (by decide) (by decide) (k_ifeq dX2_readKey_29 rfl (sX2_readKey_42 hK) (sX2_readKey_32 hK))))
theorem nX2_readKey_23 : kv_cn (fun K => fX2_readKey_23 K) := cn_aload 0 (cn_const 40 (cn_callV 2 1 mX2_skip (cn_ifeq nX2_readKey_42 nX2_readKey_32)))
def fX2_readKey_19 (K : Nat → kv_D) : kv_D := o_iload 2 (o_ifne (fX2_readKey_42 K) (fX2_readKey_23 K))
theorem sX2_readKey_19 {K : Nat → kv_D} (hK : ∀ pc, SX2_readKey pc (K pc)) : SX2_readKey 19 (fX2_readKey_19 K) := k_iload_n dX2_readKey_19 rfl (k_ifne dX2_readKey_20 rfl (sX2_readKey_42 hK) (sX2_readKey_23 hK))
theorem nX2_readKey_19 : kv_cn (fun K => fX2_readKey_19 K) := cn_iload 2 (cn_ifne nX2_readKey_42 nX2_readKey_23)
def fX2_readKey_10 (K : Nat → kv_D) : kv_D := o_iload 4 (o_aload 0 (o_getf 2 1 (o_icge (fX2_readKey_113 K) (fX2_readKey_19 K))))
theorem sX2_readKey_10 {K : Nat → kv_D} (hK : ∀ pc, SX2_readKey pc (K pc)) : SX2_readKey 10 (fX2_readKey_10 K) := k_iload dX2_readKey_10 (k_aload_n dX2_readKey_12 rfl (k_getf (C := RX2) (T := TX2) (N := 6) (ci := 2) (index := 15) (kf := 1) dX2_readKey_13 rfl (fun w h => List.mem_cons_of_mem _ (inX2 w h)) (by decide) (List.mem_cons_of_mem _ mw_28) (k_icge dX2_readKey_16 rfl (sX2_readKey_113 hK) (sX2_readKey_19 hK))))
theorem nX2_readKey_10 : kv_cn (fun K => fX2_readKey_10 K) := cn_iload 4 (cn_aload 0 (cn_getf 2 1 (cn_icge nX2_readKey_113 nX2_readKey_19)))
def fX2_readKey_0 (K : Nat → kv_D) : kv_D := o_const 0 (o_istore 2 (o_aload 1 (o_getf 1 3 (o_istore 3 (o_const 0 (o_istore 4 ((K 10))))))))
theorem sX2_readKey_0 {K : Nat → kv_D} (hK : ∀ pc, SX2_readKey pc (K pc)) : SX2_readKey 0 (fX2_readKey_0 K) := k_iconst dX2_readKey_0 (by decide +kernel) (k_istore_n dX2_readKey_1 rfl (by decide) (k_aload_n dX2_readKey_2 rfl (k_getN (C := RX1) (T := TX1) (N := 14) (ci := 1) (index := 54) (kf := 3) dX2_readKey_3 rfl (fun w h => List.mem_cons_of_mem _ (inX1 w h)) (by decide) mw_64 (k_istore_n dX2_readKey_6 rfl (by decide) (k_iconst dX2_readKey_7 (by decide +kernel) (k_istore dX2_readKey_8 (by decide) ((hK 10))))))))
theorem nX2_readKey_0 : kv_cn (fun K => fX2_readKey_0 K) := cn_const 0 (cn_istore 2 (cn_aload 1 (cn_getf 1 3 (cn_istore 3 (cn_const 0 (cn_istore 4 ((cn_K 10))))))))
def bX2_readKey (K : Nat → kv_D) (pc : Nat) : kv_D := if pc = 10 then fX2_readKey_10 K else fun _ _ _ _ _ => False
theorem hX2_readKey : ∀ pc, SX2_readKey pc (kv_lim (bX2_readKey) pc) := kv_lim_S (fun K hK pc => by
  unfold bX2_readKey
  by_cases q10 : pc = 10
  · rw [if_pos q10, q10]
    exact sX2_readKey_10 hK
  rw [if_neg q10]
  exact kv_none)
theorem uX2_readKey_10 {L : List (Option Value)} {st : List Value} {h : kv_H} {v : Option Value} {h' : kv_H} (hx : fX2_readKey_10 (kv_lim (bX2_readKey)) L st h v h') : kv_lim (bX2_readKey) 10 L st h v h' := kv_un (q := 10) (by have e : (fun K => bX2_readKey K 10) = fun K => fX2_readKey_10 K := (by funext K; rfl); rw [e]; exact nX2_readKey_10) (by have e : bX2_readKey (kv_lim (bX2_readKey)) 10 = fX2_readKey_10 (kv_lim (bX2_readKey)) := rfl; rw [e]; exact hx)
def mX2_readKey : kv_M := kv_in 2 5 (fX2_readKey_0 (kv_lim (bX2_readKey)))
theorem cX2_readKey_ct : kv_CT yX2_readKey wX2_readKey 3 67 mX2_readKey := kv_met (by decide) rfl rfl (by decide) (fun h => by cases h) (sX2_readKey_0 (hX2_readKey))
-- X1_addPiece
def wX1_addPiece : List Cond := Cond.code yX1_addPiece cX1_addPiece 2 none :: kv_tb
abbrev SX1_addPiece (pc : Nat) (F : kv_D) : Prop := kv_S cX1_addPiece 2 RX1 wX1_addPiece none false 1 21 none pc F
def fX1_addPiece_51 : kv_D := o_ret
theorem sX1_addPiece_51 : SX1_addPiece 51 (fX1_addPiece_51) := k_ret dX1_addPiece_51 rfl
def fX1_addPiece_36 : kv_D := o_aload 0 (o_aload 0 (o_getf 1 12 (o_iload 1 (o_const 48 (o_isub (o_max (o_putf 1 12 .int ((fX1_addPiece_51)))))))))
theorem sX1_addPiece_36 : SX1_addPiece 36 (fX1_addPiece_36) := k_aload_n dX1_addPiece_36 rfl (k_aload_n dX1_addPiece_37 rfl (k_getf (C := RX1) (T := TX1) (N := 14) (ci := 1) (index := 51) (kf := 12) dX1_addPiece_38 rfl (fun w h => List.mem_cons_of_mem _ (inX1 w h)) (by decide) (List.mem_cons_of_mem _ mw_84) (k_iload_n dX1_addPiece_41 rfl (k_bipush dX1_addPiece_42 (by decide +kernel) (k_isub dX1_addPiece_44 (k_max dX1_addPiece_45 (List.mem_cons_of_mem _ mw_272) (List.mem_cons_of_mem _ mw_273) (List.mem_cons_of_mem _ mw_7) (List.mem_cons_of_mem _ mw_274) (by decide) (by decide) (k_putf (C := RX1) (T := TX1) (N := 14) (ci := 1) (index := 51) (kf := 12) (ty := .int) dX1_addPiece_48 rfl (fun w h => List.mem_cons_of_mem _ (inX1 w h)) tyX1 tyX1_ok nmX1 (by decide) (List.mem_cons_of_mem _ mw_84) rfl rfl ((sX1_addPiece_51)))))))))
def fX1_addPiece_19 : kv_D := o_aload 0 (o_dup (o_getf 1 11 (o_const 1 (o_iadd (o_putf 1 11 .int (o_iload 1 (o_callS 1 mX4_isSmall (o_ifne (fX1_addPiece_51) (fX1_addPiece_36)))))))))
theorem sX1_addPiece_19 : SX1_addPiece 19 (fX1_addPiece_19) := k_aload_n dX1_addPiece_19 rfl (k_dup dX1_addPiece_20 (k_getf (C := RX1) (T := TX1) (N := 14) (ci := 1) (index := 48) (kf := 11) dX1_addPiece_21 rfl (fun w h => List.mem_cons_of_mem _ (inX1 w h)) (by decide) (List.mem_cons_of_mem _ mw_81) (k_iconst dX1_addPiece_24 (by decide +kernel) (k_iadd dX1_addPiece_25 (k_putf (C := RX1) (T := TX1) (N := 14) (ci := 1) (index := 48) (kf := 11) (ty := .int) dX1_addPiece_26 rfl (fun w h => List.mem_cons_of_mem _ (inX1 w h)) tyX1 tyX1_ok nmX1 (by decide) (List.mem_cons_of_mem _ mw_81) rfl rfl (k_iload_n dX1_addPiece_29 rfl (k_callSN dX1_addPiece_30 cX4_isSmall_ct rfl (kv_goodC mw_207) mw_271 (List.mem_cons_of_mem _ mw_1) (List.mem_cons_of_mem _ mw_206) (by decide +kernel) (by decide) (by decide) (k_ifne dX1_addPiece_33 rfl (sX1_addPiece_51) (sX1_addPiece_36)))))))))
def fX1_addPiece_9 : kv_D := o_aload 0 (o_getf 1 10 (o_aload 0 (o_getf 1 11 (o_iload 1 (o_iast 1 (vp_nar .char) ((fX1_addPiece_19)))))))
theorem sX1_addPiece_9 : SX1_addPiece 9 (fX1_addPiece_9) := k_aload_n dX1_addPiece_9 rfl (k_getf (C := RX1) (T := TX1) (N := 14) (ci := 1) (index := 44) (kf := 10) dX1_addPiece_10 rfl (fun w h => List.mem_cons_of_mem _ (inX1 w h)) (by decide) (List.mem_cons_of_mem _ mw_79) (k_aload_n dX1_addPiece_13 rfl (k_getf (C := RX1) (T := TX1) (N := 14) (ci := 1) (index := 48) (kf := 11) dX1_addPiece_14 rfl (fun w h => List.mem_cons_of_mem _ (inX1 w h)) (by decide) (List.mem_cons_of_mem _ mw_81) (k_iload_n dX1_addPiece_17 rfl (k_cast dX1_addPiece_18 rfl ((sX1_addPiece_19)))))))
def fX1_addPiece_0 : kv_D := o_aload 0 (o_getf 1 11 (o_const 12 (o_icge (fX1_addPiece_19) (fX1_addPiece_9))))
theorem sX1_addPiece_0 : SX1_addPiece 0 (fX1_addPiece_0) := k_aload_n dX1_addPiece_0 rfl (k_getf (C := RX1) (T := TX1) (N := 14) (ci := 1) (index := 48) (kf := 11) dX1_addPiece_1 rfl (fun w h => List.mem_cons_of_mem _ (inX1 w h)) (by decide) (List.mem_cons_of_mem _ mw_81) (k_bipush dX1_addPiece_4 (by decide +kernel) (k_icge dX1_addPiece_6 rfl (sX1_addPiece_19) (sX1_addPiece_9))))
def mX1_addPiece : kv_M := kv_in 2 2 (fX1_addPiece_0)
theorem cX1_addPiece_ct : kv_CT yX1_addPiece wX1_addPiece 1 21 mX1_addPiece := kv_met (by decide) rfl rfl (by decide) (fun h => by cases h) (sX1_addPiece_0)
-- X2_readReplacement
def wX2_readReplacement : List Cond := Cond.code yX2_readReplacement cX2_readReplacement 4 (some .boolean) :: kv_tb
abbrev SX2_readReplacement (pc : Nat) (F : kv_D) : Prop := kv_S cX2_readReplacement 4 RX2 wX2_readReplacement (some .boolean) false 2 42 none pc F
def fX2_readReplacement_100 (K : Nat → kv_D) : kv_D := o_const 1 (o_iret .boolean)
theorem sX2_readReplacement_100 {K : Nat → kv_D} (hK : ∀ pc, SX2_readReplacement pc (K pc)) : SX2_readReplacement 100 (fX2_readReplacement_100 K) := k_iconst dX2_readReplacement_100 (by decide +kernel) (k_iret dX2_readReplacement_101 rfl)
theorem nX2_readReplacement_100 : kv_cn (fun K => fX2_readReplacement_100 K) := cn_const 1 (cn_c _)
def fX2_readReplacement_92 (K : Nat → kv_D) : kv_D := o_aload 1 (o_aload 1 (o_getf 1 11 (o_putf 1 13 .int ((fX2_readReplacement_100 K)))))
theorem sX2_readReplacement_92 {K : Nat → kv_D} (hK : ∀ pc, SX2_readReplacement pc (K pc)) : SX2_readReplacement 92 (fX2_readReplacement_92 K) := k_aload_n dX2_readReplacement_92 rfl (k_aload_n dX2_readReplacement_93 rfl (k_getN (C := RX1) (T := TX1) (N := 14) (ci := 1) (index := 89) (kf := 11) dX2_readReplacement_94 rfl (fun w h => List.mem_cons_of_mem _ (inX1 w h)) (by decide) mw_83 (k_putN (C := RX1) (T := TX1) (N := 14) (ci := 1) (index := 92) (kf := 13) (ty := .int) dX2_readReplacement_97 rfl (fun w h => List.mem_cons_of_mem _ (inX1 w h)) tyX1 tyX1_ok nmX1 (by decide) mw_88 rfl rfl ((sX2_readReplacement_100 hK)))))
theorem nX2_readReplacement_92 : kv_cn (fun K => fX2_readReplacement_92 K) := cn_aload 1 (cn_aload 1 (cn_getf 1 11 (cn_putf 1 13 .int (nX2_readReplacement_100))))
def fX2_readReplacement_88 (K : Nat → kv_D) : kv_D := o_iload 2 (o_ifne (fX2_readReplacement_100 K) (fX2_readReplacement_92 K))
theorem sX2_readReplacement_88 {K : Nat → kv_D} (hK : ∀ pc, SX2_readReplacement pc (K pc)) : SX2_readReplacement 88 (fX2_readReplacement_88 K) := k_iload_n dX2_readReplacement_88 rfl (k_ifne dX2_readReplacement_89 rfl (sX2_readReplacement_100 hK) (sX2_readReplacement_92 hK))
theorem nX2_readReplacement_88 : kv_cn (fun K => fX2_readReplacement_88 K) := cn_iload 2 (cn_ifne nX2_readReplacement_100 nX2_readReplacement_92)
def fX2_readReplacement_75 (K : Nat → kv_D) : kv_D := o_aload 0 (o_dup (o_getf 2 2 (o_const 1 (o_iadd (o_putf 2 2 .int ((K 2)))))))
theorem sX2_readReplacement_75 {K : Nat → kv_D} (hK : ∀ pc, SX2_readReplacement pc (K pc)) : SX2_readReplacement 75 (fX2_readReplacement_75 K) := k_aload_n dX2_readReplacement_75 rfl (k_dup dX2_readReplacement_76 (k_getf (C := RX2) (T := TX2) (N := 6) (ci := 2) (index := 19) (kf := 2) dX2_readReplacement_77 rfl (fun w h => List.mem_cons_of_mem _ (inX2 w h)) (by decide) (List.mem_cons_of_mem _ mw_29) (k_iconst dX2_readReplacement_80 (by decide +kernel) (k_iadd dX2_readReplacement_81 (k_putf (C := RX2) (T := TX2) (N := 6) (ci := 2) (index := 19) (kf := 2) (ty := .int) dX2_readReplacement_82 rfl (fun w h => List.mem_cons_of_mem _ (inX2 w h)) tyX2 tyX2_ok nmX2 (by decide) (List.mem_cons_of_mem _ mw_29) rfl rfl (k_goto dX2_readReplacement_85 rfl (hK 2)))))))
theorem nX2_readReplacement_75 : kv_cn (fun K => fX2_readReplacement_75 K) := cn_aload 0 (cn_dup (cn_getf 2 2 (cn_const 1 (cn_iadd (cn_putf 2 2 .int ((cn_K 2)))))))
def fX2_readReplacement_73 (K : Nat → kv_D) : kv_D := o_const 0 (o_iret .boolean)
theorem sX2_readReplacement_73 {K : Nat → kv_D} (hK : ∀ pc, SX2_readReplacement pc (K pc)) : SX2_readReplacement 73 (fX2_readReplacement_73 K) := k_iconst dX2_readReplacement_73 (by decide +kernel) (k_iret dX2_readReplacement_74 rfl)
theorem nX2_readReplacement_73 : kv_cn (fun K => fX2_readReplacement_73 K) := cn_const 0 (cn_c _)
def fX2_readReplacement_65 (K : Nat → kv_D) : kv_D := o_aload 1 (o_iload 3 (o_callV 1 1 mX1_addPiece ((fX2_readReplacement_75 K))))
theorem sX2_readReplacement_65 {K : Nat → kv_D} (hK : ∀ pc, SX2_readReplacement pc (K pc)) : SX2_readReplacement 65 (fX2_readReplacement_65 K) := k_aload_n dX2_readReplacement_65 rfl (k_iload_n dX2_readReplacement_66 rfl (k_callV (q := (RX1, TX1, 14)) dX2_readReplacement_67 cX1_addPiece_ct rfl (kv_goodV mw_267 mw_268 mw_269 mw_3 mw_270) (by decide +kernel) rfl (by decide) (by decide) (k_goto dX2_readReplacement_70 rfl (sX2_readReplacement_75 hK))))
theorem nX2_readReplacement_65 : kv_cn (fun K => fX2_readReplacement_65 K) := cn_aload 1 (cn_iload 3 (cn_callV 1 1 mX1_addPiece (nX2_readReplacement_75)))
def fX2_readReplacement_59 (K : Nat → kv_D) : kv_D := o_iload 3 (o_const 51 (o_icgt (fX2_readReplacement_73 K) (fX2_readReplacement_65 K)))
theorem sX2_readReplacement_59 {K : Nat → kv_D} (hK : ∀ pc, SX2_readReplacement pc (K pc)) : SX2_readReplacement 59 (fX2_readReplacement_59 K) := k_iload_n dX2_readReplacement_59 rfl (k_bipush dX2_readReplacement_60 (by decide +kernel) (k_icgt dX2_readReplacement_62 rfl (sX2_readReplacement_73 hK) (sX2_readReplacement_65 hK)))
theorem nX2_readReplacement_59 : kv_cn (fun K => fX2_readReplacement_59 K) := cn_iload 3 (cn_const 51 (cn_icgt nX2_readReplacement_73 nX2_readReplacement_65))
def fX2_readReplacement_53 (K : Nat → kv_D) : kv_D := o_iload 3 (o_const 49 (o_iclt (fX2_readReplacement_73 K) (fX2_readReplacement_59 K)))
theorem sX2_readReplacement_53 {K : Nat → kv_D} (hK : ∀ pc, SX2_readReplacement pc (K pc)) : SX2_readReplacement 53 (fX2_readReplacement_53 K) := k_iload_n dX2_readReplacement_53 rfl (k_bipush dX2_readReplacement_54 (by decide +kernel) (k_iclt dX2_readReplacement_56 rfl (sX2_readReplacement_73 hK) (sX2_readReplacement_59 hK)))
theorem nX2_readReplacement_53 : kv_cn (fun K => fX2_readReplacement_53 K) := cn_iload 3 (cn_const 49 (cn_iclt nX2_readReplacement_73 nX2_readReplacement_59))
def fX2_readReplacement_46 (K : Nat → kv_D) : kv_D := o_iload 3 (o_callS 1 mX4_isSmall (o_ifne (fX2_readReplacement_65 K) (fX2_readReplacement_53 K)))
theorem sX2_readReplacement_46 {K : Nat → kv_D} (hK : ∀ pc, SX2_readReplacement pc (K pc)) : SX2_readReplacement 46 (fX2_readReplacement_46 K) := k_iload_n dX2_readReplacement_46 rfl (k_callSN dX2_readReplacement_47 cX4_isSmall_ct rfl (kv_goodC mw_207) mw_205 (List.mem_cons_of_mem _ mw_1) (List.mem_cons_of_mem _ mw_206) (by decide +kernel) (by decide) (by decide) (k_ifne dX2_readReplacement_50 rfl (sX2_readReplacement_65 hK) (sX2_readReplacement_53 hK)))
theorem nX2_readReplacement_46 : kv_cn (fun K => fX2_readReplacement_46 K) := cn_iload 3 (cn_callS 1 mX4_isSmall (cn_ifne nX2_readReplacement_65 nX2_readReplacement_53))
def fX2_readReplacement_33 (K : Nat → kv_D) : kv_D := o_const 1 (o_istore 2 (o_aload 1 (o_aload 1 (o_getf 1 11 (o_putf 1 13 .int ((fX2_readReplacement_75 K)))))))
theorem sX2_readReplacement_33 {K : Nat → kv_D} (hK : ∀ pc, SX2_readReplacement pc (K pc)) : SX2_readReplacement 33 (fX2_readReplacement_33 K) := k_iconst dX2_readReplacement_33 (by decide +kernel) (k_istore_n dX2_readReplacement_34 rfl (by decide) (k_aload_n dX2_readReplacement_35 rfl (k_aload_n dX2_readReplacement_36 rfl (k_getN (C := RX1) (T := TX1) (N := 14) (ci := 1) (index := 89) (kf := 11) dX2_readReplacement_37 rfl (fun w h => List.mem_cons_of_mem _ (inX1 w h)) (by decide) mw_83 (k_putN (C := RX1) (T := TX1) (N := 14) (ci := 1) (index := 92) (kf := 13) (ty := .int) dX2_readReplacement_40 rfl (fun w h => List.mem_cons_of_mem _ (inX1 w h)) tyX1 tyX1_ok nmX1 (by decide) mw_88 rfl rfl (k_goto dX2_readReplacement_43 rfl (sX2_readReplacement_75 hK)))))))
theorem nX2_readReplacement_33 : kv_cn (fun K => fX2_readReplacement_33 K) := cn_const 1 (cn_istore 2 (cn_aload 1 (cn_aload 1 (cn_getf 1 11 (cn_putf 1 13 .int (nX2_readReplacement_75))))))
def fX2_readReplacement_29 (K : Nat → kv_D) : kv_D := o_iload 2 (o_ifne (fX2_readReplacement_46 K) (fX2_readReplacement_33 K))
theorem sX2_readReplacement_29 {K : Nat → kv_D} (hK : ∀ pc, SX2_readReplacement pc (K pc)) : SX2_readReplacement 29 (fX2_readReplacement_29 K) := k_iload_n dX2_readReplacement_29 rfl (k_ifne dX2_readReplacement_30 rfl (sX2_readReplacement_46 hK) (sX2_readReplacement_33 hK))
theorem nX2_readReplacement_29 : kv_cn (fun K => fX2_readReplacement_29 K) := cn_iload 2 (cn_ifne nX2_readReplacement_46 nX2_readReplacement_33)
def fX2_readReplacement_13 (K : Nat → kv_D) : kv_D := o_aload 0 (o_getf 2 0 (o_aload 0 (o_getf 2 2 (o_iald 1 (o_istore 3 (o_iload 3 (o_const 124 (o_icne (fX2_readReplacement_46 K) (fX2_readReplacement_29 K)))))))))
theorem sX2_readReplacement_13 {K : Nat → kv_D} (hK : ∀ pc, SX2_readReplacement pc (K pc)) : SX2_readReplacement 13 (fX2_readReplacement_13 K) := k_aload_n dX2_readReplacement_13 rfl (k_getf (C := RX2) (T := TX2) (N := 6) (ci := 2) (index := 9) (kf := 0) dX2_readReplacement_14 rfl (fun w h => List.mem_cons_of_mem _ (inX2 w h)) (by decide) (List.mem_cons_of_mem _ mw_27) (k_aload_n dX2_readReplacement_17 rfl (k_getf (C := RX2) (T := TX2) (N := 6) (ci := 2) (index := 19) (kf := 2) dX2_readReplacement_18 rfl (fun w h => List.mem_cons_of_mem _ (inX2 w h)) (by decide) (List.mem_cons_of_mem _ mw_29) (k_cald dX2_readReplacement_21 rfl (k_istore_n dX2_readReplacement_22 rfl (by decide) (k_iload_n dX2_readReplacement_23 rfl (k_bipush dX2_readReplacement_24 (by decide +kernel) (k_icne dX2_readReplacement_26 rfl (sX2_readReplacement_46 hK) (sX2_readReplacement_29 hK)))))))))
theorem nX2_readReplacement_13 : kv_cn (fun K => fX2_readReplacement_13 K) := cn_aload 0 (cn_getf 2 0 (cn_aload 0 (cn_getf 2 2 (cn_iald 1 (cn_istore 3 (cn_iload 3 (cn_const 124 (cn_icne nX2_readReplacement_46 nX2_readReplacement_29))))))))
def fX2_readReplacement_2 (K : Nat → kv_D) : kv_D := o_aload 0 (o_getf 2 2 (o_aload 0 (o_getf 2 1 (o_icge (fX2_readReplacement_88 K) (fX2_readReplacement_13 K)))))
theorem sX2_readReplacement_2 {K : Nat → kv_D} (hK : ∀ pc, SX2_readReplacement pc (K pc)) : SX2_readReplacement 2 (fX2_readReplacement_2 K) := k_aload_n dX2_readReplacement_2 rfl (k_getf (C := RX2) (T := TX2) (N := 6) (ci := 2) (index := 19) (kf := 2) dX2_readReplacement_3 rfl (fun w h => List.mem_cons_of_mem _ (inX2 w h)) (by decide) (List.mem_cons_of_mem _ mw_29) (k_aload_n dX2_readReplacement_6 rfl (k_getf (C := RX2) (T := TX2) (N := 6) (ci := 2) (index := 15) (kf := 1) dX2_readReplacement_7 rfl (fun w h => List.mem_cons_of_mem _ (inX2 w h)) (by decide) (List.mem_cons_of_mem _ mw_28) (k_icge dX2_readReplacement_10 rfl (sX2_readReplacement_88 hK) (sX2_readReplacement_13 hK)))))
theorem nX2_readReplacement_2 : kv_cn (fun K => fX2_readReplacement_2 K) := cn_aload 0 (cn_getf 2 2 (cn_aload 0 (cn_getf 2 1 (cn_icge nX2_readReplacement_88 nX2_readReplacement_13))))
def fX2_readReplacement_0 (K : Nat → kv_D) : kv_D := o_const 0 (o_istore 2 ((K 2)))
theorem sX2_readReplacement_0 {K : Nat → kv_D} (hK : ∀ pc, SX2_readReplacement pc (K pc)) : SX2_readReplacement 0 (fX2_readReplacement_0 K) := k_iconst dX2_readReplacement_0 (by decide +kernel) (k_istore_n dX2_readReplacement_1 rfl (by decide) ((hK 2)))
theorem nX2_readReplacement_0 : kv_cn (fun K => fX2_readReplacement_0 K) := cn_const 0 (cn_istore 2 ((cn_K 2)))
def bX2_readReplacement (K : Nat → kv_D) (pc : Nat) : kv_D := if pc = 2 then fX2_readReplacement_2 K else fun _ _ _ _ _ => False
theorem hX2_readReplacement : ∀ pc, SX2_readReplacement pc (kv_lim (bX2_readReplacement) pc) := kv_lim_S (fun K hK pc => by
  unfold bX2_readReplacement
  by_cases q2 : pc = 2
  · rw [if_pos q2, q2]
    exact sX2_readReplacement_2 hK
  rw [if_neg q2]
  exact kv_none)
theorem uX2_readReplacement_2 {L : List (Option Value)} {st : List Value} {h : kv_H} {v : Option Value} {h' : kv_H} (hx : fX2_readReplacement_2 (kv_lim (bX2_readReplacement)) L st h v h') : kv_lim (bX2_readReplacement) 2 L st h v h' := kv_un (q := 2) (by have e : (fun K => bX2_readReplacement K 2) = fun K => fX2_readReplacement_2 K := (by funext K; rfl); rw [e]; exact nX2_readReplacement_2) (by have e : bX2_readReplacement (kv_lim (bX2_readReplacement)) 2 = fX2_readReplacement_2 (kv_lim (bX2_readReplacement)) := rfl; rw [e]; exact hx)
def mX2_readReplacement : kv_M := kv_in 2 4 (fX2_readReplacement_0 (kv_lim (bX2_readReplacement)))
theorem cX2_readReplacement_ct : kv_CT yX2_readReplacement wX2_readReplacement 2 42 mX2_readReplacement := kv_met (by decide) rfl rfl (by decide) (fun h => by cases h) (sX2_readReplacement_0 (hX2_readReplacement))
