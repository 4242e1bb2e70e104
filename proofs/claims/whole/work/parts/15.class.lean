theorem dX3_putPiece_30 : decode cX3_putPiece 30 = .ok (.aload_n 2, 1) := by decide +kernel
theorem dX3_putPiece_31 : decode cX3_putPiece 31 = .ok (.aload_n 1, 1) := by decide +kernel
theorem dX3_putPiece_32 : decode cX3_putPiece 32 = .ok (.iload 5, 2) := by decide +kernel
theorem dX3_putPiece_34 : decode cX3_putPiece 34 = .ok (.invokevirtual 63, 3) := by decide +kernel
theorem dX3_putPiece_37 : decode cX3_putPiece 37 = .ok (.istore 6, 2) := by decide +kernel
theorem dX3_putPiece_39 : decode cX3_putPiece 39 = .ok (.aload_n 0, 1) := by decide +kernel
theorem dX3_putPiece_40 : decode cX3_putPiece 40 = .ok (.getfield 9, 3) := by decide +kernel
theorem dX3_putPiece_43 : decode cX3_putPiece 43 = .ok (.aload_n 2, 1) := by decide +kernel
theorem dX3_putPiece_44 : decode cX3_putPiece 44 = .ok (.aload_n 1, 1) := by decide +kernel
theorem dX3_putPiece_45 : decode cX3_putPiece 45 = .ok (.iload 5, 2) := by decide +kernel
theorem dX3_putPiece_47 : decode cX3_putPiece 47 = .ok (.invokevirtual 67, 3) := by decide +kernel
theorem dX3_putPiece_50 : decode cX3_putPiece 50 = .ok (.aload_n 0, 1) := by decide +kernel
theorem dX3_putPiece_51 : decode cX3_putPiece 51 = .ok (.getfield 15, 3) := by decide +kernel
theorem dX3_putPiece_54 : decode cX3_putPiece 54 = .ok (.iload 4, 2) := by decide +kernel
theorem dX3_putPiece_56 : decode cX3_putPiece 56 = .ok (.iload 6, 2) := by decide +kernel
theorem dX3_putPiece_58 : decode cX3_putPiece 58 = .ok (.invokestatic 43, 3) := by decide +kernel
theorem dX3_putPiece_61 : decode cX3_putPiece 61 = .ok (.iload 4, 2) := by decide +kernel
theorem dX3_putPiece_63 : decode cX3_putPiece 63 = .ok (.iload 6, 2) := by decide +kernel
theorem dX3_putPiece_65 : decode cX3_putPiece 65 = .ok (.iadd, 1) := by decide +kernel
theorem dX3_putPiece_66 : decode cX3_putPiece 66 = .ok (.ireturn, 1) := by decide +kernel
theorem dX3_putPiece_16 : decode cX3_putPiece 16 = .ok (.aload_n 0, 1) := by decide +kernel
theorem dX3_putPiece_17 : decode cX3_putPiece 17 = .ok (.getfield 15, 3) := by decide +kernel
theorem dX3_putPiece_20 : decode cX3_putPiece 20 = .ok (.iload 4, 2) := by decide +kernel
theorem dX3_putPiece_22 : decode cX3_putPiece 22 = .ok (.iload 5, 2) := by decide +kernel
theorem dX3_putPiece_24 : decode cX3_putPiece 24 = .ok (.castore, 1) := by decide +kernel
theorem dX3_putPiece_25 : decode cX3_putPiece 25 = .ok (.iload 4, 2) := by decide +kernel
theorem dX3_putPiece_27 : decode cX3_putPiece 27 = .ok (.iconst 1, 1) := by decide +kernel
theorem dX3_putPiece_28 : decode cX3_putPiece 28 = .ok (.iadd, 1) := by decide +kernel
theorem dX3_putPiece_29 : decode cX3_putPiece 29 = .ok (.ireturn, 1) := by decide +kernel
theorem dX3_putPiece_0 : decode cX3_putPiece 0 = .ok (.aload_n 1, 1) := by decide +kernel
theorem dX3_putPiece_1 : decode cX3_putPiece 1 = .ok (.getfield 56, 3) := by decide +kernel
theorem dX3_putPiece_4 : decode cX3_putPiece 4 = .ok (.iload_n 3, 1) := by decide +kernel
theorem dX3_putPiece_5 : decode cX3_putPiece 5 = .ok (.caload, 1) := by decide +kernel
theorem dX3_putPiece_6 : decode cX3_putPiece 6 = .ok (.istore 5, 2) := by decide +kernel
theorem dX3_putPiece_8 : decode cX3_putPiece 8 = .ok (.iload 5, 2) := by decide +kernel
theorem dX3_putPiece_10 : decode cX3_putPiece 10 = .ok (.invokestatic 59, 3) := by decide +kernel
theorem dX3_putPiece_13 : decode cX3_putPiece 13 = .ok (.ifCond .eq 17, 3) := by decide +kernel
theorem dX3_replace_50 : decode cX3_replace 50 = .ok (.aload_n 2, 1) := by decide +kernel
theorem dX3_replace_51 : decode cX3_replace 51 = .ok (.getfield 25, 3) := by decide +kernel
theorem dX3_replace_54 : decode cX3_replace 54 = .ok (.aload_n 1, 1) := by decide +kernel
theorem dX3_replace_55 : decode cX3_replace 55 = .ok (.getfield 31, 3) := by decide +kernel
theorem dX3_replace_58 : decode cX3_replace 58 = .ok (.iaload, 1) := by decide +kernel
theorem dX3_replace_59 : decode cX3_replace 59 = .ok (.istore 4, 2) := by decide +kernel
theorem dX3_replace_61 : decode cX3_replace 61 = .ok (.aload_n 0, 1) := by decide +kernel
theorem dX3_replace_62 : decode cX3_replace 62 = .ok (.getfield 9, 3) := by decide +kernel
theorem dX3_replace_65 : decode cX3_replace 65 = .ok (.iload 4, 2) := by decide +kernel
theorem dX3_replace_67 : decode cX3_replace 67 = .ok (.aload_n 0, 1) := by decide +kernel
theorem dX3_replace_68 : decode cX3_replace 68 = .ok (.getfield 15, 3) := by decide +kernel
theorem dX3_replace_71 : decode cX3_replace 71 = .ok (.iload_n 3, 1) := by decide +kernel
theorem dX3_replace_72 : decode cX3_replace 72 = .ok (.aload_n 0, 1) := by decide +kernel
theorem dX3_replace_73 : decode cX3_replace 73 = .ok (.getfield 18, 3) := by decide +kernel
theorem dX3_replace_76 : decode cX3_replace 76 = .ok (.iload 4, 2) := by decide +kernel
theorem dX3_replace_78 : decode cX3_replace 78 = .ok (.isub, 1) := by decide +kernel
theorem dX3_replace_79 : decode cX3_replace 79 = .ok (.invokestatic 43, 3) := by decide +kernel
theorem dX3_replace_82 : decode cX3_replace 82 = .ok (.aload_n 0, 1) := by decide +kernel
theorem dX3_replace_83 : decode cX3_replace 83 = .ok (.dup, 1) := by decide +kernel
theorem dX3_replace_84 : decode cX3_replace 84 = .ok (.getfield 22, 3) := by decide +kernel
theorem dX3_replace_87 : decode cX3_replace 87 = .ok (.aload_n 1, 1) := by decide +kernel
theorem dX3_replace_88 : decode cX3_replace 88 = .ok (.aload_n 2, 1) := by decide +kernel
theorem dX3_replace_89 : decode cX3_replace 89 = .ok (.aload_n 1, 1) := by decide +kernel
theorem dX3_replace_90 : decode cX3_replace 90 = .ok (.getfield 53, 3) := by decide +kernel
theorem dX3_replace_93 : decode cX3_replace 93 = .ok (.invokestatic 39, 3) := by decide +kernel
theorem dX3_replace_96 : decode cX3_replace 96 = .ok (.iadd, 1) := by decide +kernel
theorem dX3_replace_97 : decode cX3_replace 97 = .ok (.putfield 22, 3) := by decide +kernel
theorem dX3_replace_100 : decode cX3_replace 100 = .ok (.aload_n 0, 1) := by decide +kernel
theorem dX3_replace_101 : decode cX3_replace 101 = .ok (.iload_n 3, 1) := by decide +kernel
theorem dX3_replace_102 : decode cX3_replace 102 = .ok (.aload_n 0, 1) := by decide +kernel
theorem dX3_replace_103 : decode cX3_replace 103 = .ok (.getfield 18, 3) := by decide +kernel
theorem dX3_replace_106 : decode cX3_replace 106 = .ok (.iadd, 1) := by decide +kernel
theorem dX3_replace_107 : decode cX3_replace 107 = .ok (.iload 4, 2) := by decide +kernel
theorem dX3_replace_109 : decode cX3_replace 109 = .ok (.isub, 1) := by decide +kernel
theorem dX3_replace_110 : decode cX3_replace 110 = .ok (.putfield 18, 3) := by decide +kernel
theorem dX3_replace_113 : decode cX3_replace 113 = .ok (.aload_n 0, 1) := by decide +kernel
theorem dX3_replace_114 : decode cX3_replace 114 = .ok (.getfield 9, 3) := by decide +kernel
theorem dX3_replace_117 : decode cX3_replace 117 = .ok (.astore 5, 2) := by decide +kernel
theorem dX3_replace_119 : decode cX3_replace 119 = .ok (.aload_n 0, 1) := by decide +kernel
theorem dX3_replace_120 : decode cX3_replace 120 = .ok (.aload_n 0, 1) := by decide +kernel
theorem dX3_replace_121 : decode cX3_replace 121 = .ok (.getfield 15, 3) := by decide +kernel
theorem dX3_replace_124 : decode cX3_replace 124 = .ok (.putfield 9, 3) := by decide +kernel
theorem dX3_replace_127 : decode cX3_replace 127 = .ok (.aload_n 0, 1) := by decide +kernel
theorem dX3_replace_128 : decode cX3_replace 128 = .ok (.aload 5, 2) := by decide +kernel
theorem dX3_replace_130 : decode cX3_replace 130 = .ok (.putfield 15, 3) := by decide +kernel
theorem dX3_replace_133 : decode cX3_replace 133 = .ok (.return_, 1) := by decide +kernel
theorem dX3_replace_34 : decode cX3_replace 34 = .ok (.aload_n 0, 1) := by decide +kernel
theorem dX3_replace_35 : decode cX3_replace 35 = .ok (.aload_n 1, 1) := by decide +kernel
theorem dX3_replace_36 : decode cX3_replace 36 = .ok (.aload_n 2, 1) := by decide +kernel
theorem dX3_replace_37 : decode cX3_replace 37 = .ok (.iload 4, 2) := by decide +kernel
theorem dX3_replace_39 : decode cX3_replace 39 = .ok (.iload_n 3, 1) := by decide +kernel
theorem dX3_replace_40 : decode cX3_replace 40 = .ok (.invokevirtual 49, 3) := by decide +kernel
theorem dX3_replace_43 : decode cX3_replace 43 = .ok (.istore_n 3, 1) := by decide +kernel
theorem dX3_replace_44 : decode cX3_replace 44 = .ok (.iinc 4 1, 3) := by decide +kernel
theorem dX3_replace_47 : decode cX3_replace 47 = .ok (.goto (-22), 3) := by decide +kernel
theorem dX3_replace_25 : decode cX3_replace 25 = .ok (.iload 4, 2) := by decide +kernel
theorem dX3_replace_27 : decode cX3_replace 27 = .ok (.aload_n 1, 1) := by decide +kernel
theorem dX3_replace_28 : decode cX3_replace 28 = .ok (.getfield 36, 3) := by decide +kernel
theorem dX3_replace_31 : decode cX3_replace 31 = .ok (.if_icmp .ge 19, 3) := by decide +kernel
theorem dX3_replace_0 : decode cX3_replace 0 = .ok (.aload_n 0, 1) := by decide +kernel
theorem dX3_replace_1 : decode cX3_replace 1 = .ok (.getfield 9, 3) := by decide +kernel
theorem dX3_replace_4 : decode cX3_replace 4 = .ok (.iconst 0, 1) := by decide +kernel
theorem dX3_replace_5 : decode cX3_replace 5 = .ok (.aload_n 0, 1) := by decide +kernel
theorem dX3_replace_6 : decode cX3_replace 6 = .ok (.getfield 15, 3) := by decide +kernel
theorem dX3_replace_9 : decode cX3_replace 9 = .ok (.iconst 0, 1) := by decide +kernel
theorem dX3_replace_10 : decode cX3_replace 10 = .ok (.aload_n 0, 1) := by decide +kernel
theorem dX3_replace_11 : decode cX3_replace 11 = .ok (.getfield 22, 3) := by decide +kernel
theorem dX3_replace_14 : decode cX3_replace 14 = .ok (.invokestatic 43, 3) := by decide +kernel
theorem dX3_replace_17 : decode cX3_replace 17 = .ok (.aload_n 0, 1) := by decide +kernel
theorem dX3_replace_18 : decode cX3_replace 18 = .ok (.getfield 22, 3) := by decide +kernel
theorem dX3_replace_21 : decode cX3_replace 21 = .ok (.istore_n 3, 1) := by decide +kernel
theorem dX3_replace_22 : decode cX3_replace 22 = .ok (.iconst 0, 1) := by decide +kernel
theorem dX3_replace_23 : decode cX3_replace 23 = .ok (.istore 4, 2) := by decide +kernel
theorem dX4_apply_40 : decode cX4_apply 40 = .ok (.aload_n 0, 1) := by decide +kernel
theorem dX4_apply_41 : decode cX4_apply 41 = .ok (.getfield 30, 3) := by decide +kernel
theorem dX4_apply_44 : decode cX4_apply 44 = .ok (.aload_n 2, 1) := by decide +kernel
theorem dX4_apply_45 : decode cX4_apply 45 = .ok (.aload_n 0, 1) := by decide +kernel
theorem dX4_apply_46 : decode cX4_apply 46 = .ok (.getfield 37, 3) := by decide +kernel
theorem dX4_apply_49 : decode cX4_apply 49 = .ok (.invokevirtual 141, 3) := by decide +kernel
theorem dX4_apply_52 : decode cX4_apply 52 = .ok (.aload_n 0, 1) := by decide +kernel
theorem dX4_apply_53 : decode cX4_apply 53 = .ok (.dup, 1) := by decide +kernel
theorem dX4_apply_54 : decode cX4_apply 54 = .ok (.getfield 41, 3) := by decide +kernel
theorem dX4_apply_57 : decode cX4_apply 57 = .ok (.iconst 1, 1) := by decide +kernel
theorem dX4_apply_58 : decode cX4_apply 58 = .ok (.iadd, 1) := by decide +kernel
theorem dX4_apply_59 : decode cX4_apply 59 = .ok (.putfield 41, 3) := by decide +kernel
theorem dX4_apply_62 : decode cX4_apply 62 = .ok (.aload_n 0, 1) := by decide +kernel
theorem dX4_apply_63 : decode cX4_apply 63 = .ok (.iload_n 1, 1) := by decide +kernel
theorem dX4_apply_64 : decode cX4_apply 64 = .ok (.putfield 44, 3) := by decide +kernel
theorem dX4_apply_67 : decode cX4_apply 67 = .ok (.iconst 1, 1) := by decide +kernel
theorem dX4_apply_68 : decode cX4_apply 68 = .ok (.ireturn, 1) := by decide +kernel
theorem dX4_apply_33 : decode cX4_apply 33 = .ok (.aload_n 0, 1) := by decide +kernel
theorem dX4_apply_34 : decode cX4_apply 34 = .ok (.iconst 1, 1) := by decide +kernel
theorem dX4_apply_35 : decode cX4_apply 35 = .ok (.putfield 47, 3) := by decide +kernel
theorem dX4_apply_38 : decode cX4_apply 38 = .ok (.iconst 0, 1) := by decide +kernel
theorem dX4_apply_39 : decode cX4_apply 39 = .ok (.ireturn, 1) := by decide +kernel
theorem dX4_apply_16 : decode cX4_apply 16 = .ok (.aload_n 0, 1) := by decide +kernel
theorem dX4_apply_17 : decode cX4_apply 17 = .ok (.getfield 30, 3) := by decide +kernel
theorem dX4_apply_20 : decode cX4_apply 20 = .ok (.aload_n 2, 1) := by decide +kernel
theorem dX4_apply_21 : decode cX4_apply 21 = .ok (.aload_n 0, 1) := by decide +kernel
theorem dX4_apply_22 : decode cX4_apply 22 = .ok (.getfield 37, 3) := by decide +kernel
theorem dX4_apply_25 : decode cX4_apply 25 = .ok (.invokevirtual 137, 3) := by decide +kernel
theorem dX4_apply_28 : decode cX4_apply 28 = .ok (.bipush 60, 2) := by decide +kernel
theorem dX4_apply_30 : decode cX4_apply 30 = .ok (.if_icmp .le 10, 3) := by decide +kernel
theorem dX4_apply_0 : decode cX4_apply 0 = .ok (.aload_n 0, 1) := by decide +kernel
theorem dX4_apply_1 : decode cX4_apply 1 = .ok (.getfield 18, 3) := by decide +kernel
theorem dX4_apply_4 : decode cX4_apply 4 = .ok (.iload_n 1, 1) := by decide +kernel
theorem dX4_apply_5 : decode cX4_apply 5 = .ok (.aaload, 1) := by decide +kernel
theorem dX4_apply_6 : decode cX4_apply 6 = .ok (.astore_n 2, 1) := by decide +kernel
theorem dX4_apply_7 : decode cX4_apply 7 = .ok (.aload_n 0, 1) := by decide +kernel
theorem dX4_apply_8 : decode cX4_apply 8 = .ok (.getfield 41, 3) := by decide +kernel
theorem dX4_apply_11 : decode cX4_apply 11 = .ok (.bipush 100, 2) := by decide +kernel
theorem dX4_apply_13 : decode cX4_apply 13 = .ok (.if_icmp .ge 20, 3) := by decide +kernel
theorem dX4_doAtCursor_53 : decode cX4_doAtCursor 53 = .ok (.aload_n 0, 1) := by decide +kernel
theorem dX4_doAtCursor_54 : decode cX4_doAtCursor 54 = .ok (.getfield 30, 3) := by decide +kernel
theorem dX4_doAtCursor_57 : decode cX4_doAtCursor 57 = .ok (.dup, 1) := by decide +kernel
theorem dX4_doAtCursor_58 : decode cX4_doAtCursor 58 = .ok (.getfield 93, 3) := by decide +kernel
theorem dX4_doAtCursor_61 : decode cX4_doAtCursor 61 = .ok (.iconst 1, 1) := by decide +kernel
theorem dX4_doAtCursor_62 : decode cX4_doAtCursor 62 = .ok (.iadd, 1) := by decide +kernel
theorem dX4_doAtCursor_63 : decode cX4_doAtCursor 63 = .ok (.putfield 93, 3) := by decide +kernel
theorem dX4_doAtCursor_66 : decode cX4_doAtCursor 66 = .ok (.iconst 1, 1) := by decide +kernel
theorem dX4_doAtCursor_67 : decode cX4_doAtCursor 67 = .ok (.ireturn, 1) := by decide +kernel
theorem dX4_doAtCursor_47 : decode cX4_doAtCursor 47 = .ok (.iinc 2 1, 3) := by decide +kernel
theorem dX4_doAtCursor_50 : decode cX4_doAtCursor 50 = .ok (.goto (-48), 3) := by decide +kernel
theorem dX4_doAtCursor_41 : decode cX4_doAtCursor 41 = .ok (.aload_n 0, 1) := by decide +kernel
theorem dX4_doAtCursor_42 : decode cX4_doAtCursor 42 = .ok (.iload_n 2, 1) := by decide +kernel
theorem dX4_doAtCursor_43 : decode cX4_doAtCursor 43 = .ok (.invokevirtual 133, 3) := by decide +kernel
theorem dX4_doAtCursor_46 : decode cX4_doAtCursor 46 = .ok (.ireturn, 1) := by decide +kernel
theorem dX4_doAtCursor_36 : decode cX4_doAtCursor 36 = .ok (.iload_n 3, 1) := by decide +kernel
theorem dX4_doAtCursor_37 : decode cX4_doAtCursor 37 = .ok (.iconst 1, 1) := by decide +kernel
theorem dX4_doAtCursor_38 : decode cX4_doAtCursor 38 = .ok (.if_icmp .ne 9, 3) := by decide +kernel
theorem dX4_doAtCursor_34 : decode cX4_doAtCursor 34 = .ok (.iconst 0, 1) := by decide +kernel
theorem dX4_doAtCursor_35 : decode cX4_doAtCursor 35 = .ok (.ireturn, 1) := by decide +kernel
theorem dX4_doAtCursor_10 : decode cX4_doAtCursor 10 = .ok (.aload_n 0, 1) := by decide +kernel
theorem dX4_doAtCursor_11 : decode cX4_doAtCursor 11 = .ok (.getfield 37, 3) := by decide +kernel
theorem dX4_doAtCursor_14 : decode cX4_doAtCursor 14 = .ok (.aload_n 0, 1) := by decide +kernel
theorem dX4_doAtCursor_15 : decode cX4_doAtCursor 15 = .ok (.getfield 18, 3) := by decide +kernel
theorem dX4_doAtCursor_18 : decode cX4_doAtCursor 18 = .ok (.iload_n 2, 1) := by decide +kernel
theorem dX4_doAtCursor_19 : decode cX4_doAtCursor 19 = .ok (.aaload, 1) := by decide +kernel
theorem dX4_doAtCursor_20 : decode cX4_doAtCursor 20 = .ok (.aload_n 0, 1) := by decide +kernel
theorem dX4_doAtCursor_21 : decode cX4_doAtCursor 21 = .ok (.getfield 30, 3) := by decide +kernel
theorem dX4_doAtCursor_24 : decode cX4_doAtCursor 24 = .ok (.iload_n 1, 1) := by decide +kernel
theorem dX4_doAtCursor_25 : decode cX4_doAtCursor 25 = .ok (.invokevirtual 96, 3) := by decide +kernel
theorem dX4_doAtCursor_28 : decode cX4_doAtCursor 28 = .ok (.istore_n 3, 1) := by decide +kernel
theorem dX4_doAtCursor_29 : decode cX4_doAtCursor 29 = .ok (.iload_n 3, 1) := by decide +kernel
theorem dX4_doAtCursor_30 : decode cX4_doAtCursor 30 = .ok (.iconst 2, 1) := by decide +kernel
theorem dX4_doAtCursor_31 : decode cX4_doAtCursor 31 = .ok (.if_icmp .ne 5, 3) := by decide +kernel
theorem dX4_doAtCursor_2 : decode cX4_doAtCursor 2 = .ok (.iload_n 2, 1) := by decide +kernel
theorem dX4_doAtCursor_3 : decode cX4_doAtCursor 3 = .ok (.aload_n 0, 1) := by decide +kernel
theorem dX4_doAtCursor_4 : decode cX4_doAtCursor 4 = .ok (.getfield 23, 3) := by decide +kernel
theorem dX4_doAtCursor_7 : decode cX4_doAtCursor 7 = .ok (.if_icmp .ge 46, 3) := by decide +kernel
theorem dX4_doAtCursor_0 : decode cX4_doAtCursor 0 = .ok (.iconst 0, 1) := by decide +kernel
theorem dX4_doAtCursor_1 : decode cX4_doAtCursor 1 = .ok (.istore_n 2, 1) := by decide +kernel
theorem dX4_rewrite_62 : decode cX4_rewrite 62 = .ok (.aload_n 0, 1) := by decide +kernel
theorem dX4_rewrite_63 : decode cX4_rewrite 63 = .ok (.getfield 41, 3) := by decide +kernel
theorem dX4_rewrite_66 : decode cX4_rewrite 66 = .ok (.iload_n 2, 1) := by decide +kernel
theorem dX4_rewrite_67 : decode cX4_rewrite 67 = .ok (.isub, 1) := by decide +kernel
theorem dX4_rewrite_68 : decode cX4_rewrite 68 = .ok (.ireturn, 1) := by decide +kernel
theorem dX4_rewrite_50 : decode cX4_rewrite 50 = .ok (.aload_n 0, 1) := by decide +kernel
theorem dX4_rewrite_51 : decode cX4_rewrite 51 = .ok (.iload_n 1, 1) := by decide +kernel
theorem dX4_rewrite_52 : decode cX4_rewrite 52 = .ok (.invokevirtual 129, 3) := by decide +kernel
theorem dX4_rewrite_55 : decode cX4_rewrite 55 = .ok (.istore_n 3, 1) := by decide +kernel
theorem dX4_rewrite_56 : decode cX4_rewrite 56 = .ok (.iinc 4 1, 3) := by decide +kernel
theorem dX4_rewrite_59 : decode cX4_rewrite 59 = .ok (.goto (-38), 3) := by decide +kernel
theorem dX4_rewrite_33 : decode cX4_rewrite 33 = .ok (.aload_n 0, 1) := by decide +kernel
theorem dX4_rewrite_34 : decode cX4_rewrite 34 = .ok (.getfield 30, 3) := by decide +kernel
theorem dX4_rewrite_37 : decode cX4_rewrite 37 = .ok (.getfield 93, 3) := by decide +kernel
theorem dX4_rewrite_40 : decode cX4_rewrite 40 = .ok (.aload_n 0, 1) := by decide +kernel
theorem dX4_rewrite_41 : decode cX4_rewrite 41 = .ok (.getfield 30, 3) := by decide +kernel
theorem dX4_rewrite_44 : decode cX4_rewrite 44 = .ok (.getfield 86, 3) := by decide +kernel
theorem dX4_rewrite_47 : decode cX4_rewrite 47 = .ok (.if_icmp .ge 15, 3) := by decide +kernel
theorem dX4_rewrite_29 : decode cX4_rewrite 29 = .ok (.iload_n 3, 1) := by decide +kernel
theorem dX4_rewrite_30 : decode cX4_rewrite 30 = .ok (.ifCond .eq 32, 3) := by decide +kernel
theorem dX4_rewrite_21 : decode cX4_rewrite 21 = .ok (.iload 4, 2) := by decide +kernel
theorem dX4_rewrite_23 : decode cX4_rewrite 23 = .ok (.sipush 161, 3) := by decide +kernel
theorem dX4_rewrite_26 : decode cX4_rewrite 26 = .ok (.if_icmp .ge 36, 3) := by decide +kernel
theorem dX4_rewrite_17 : decode cX4_rewrite 17 = .ok (.istore_n 3, 1) := by decide +kernel
theorem dX4_rewrite_18 : decode cX4_rewrite 18 = .ok (.iconst 0, 1) := by decide +kernel
theorem dX4_rewrite_19 : decode cX4_rewrite 19 = .ok (.istore 4, 2) := by decide +kernel
theorem dX4_rewrite_16 : decode cX4_rewrite 16 = .ok (.iconst 0, 1) := by decide +kernel
theorem dX4_rewrite_12 : decode cX4_rewrite 12 = .ok (.iconst 1, 1) := by decide +kernel
theorem dX4_rewrite_13 : decode cX4_rewrite 13 = .ok (.goto 4, 3) := by decide +kernel
theorem dX4_rewrite_0 : decode cX4_rewrite 0 = .ok (.aload_n 0, 1) := by decide +kernel
theorem dX4_rewrite_1 : decode cX4_rewrite 1 = .ok (.getfield 41, 3) := by decide +kernel
theorem dX4_rewrite_4 : decode cX4_rewrite 4 = .ok (.istore_n 2, 1) := by decide +kernel
theorem dX4_rewrite_5 : decode cX4_rewrite 5 = .ok (.aload_n 0, 1) := by decide +kernel
theorem dX4_rewrite_6 : decode cX4_rewrite 6 = .ok (.getfield 47, 3) := by decide +kernel
theorem dX4_rewrite_9 : decode cX4_rewrite 9 = .ok (.ifCond .ne 7, 3) := by decide +kernel
theorem dX4_settle_0 : decode cX4_settle 0 = .ok (.aload_n 0, 1) := by decide +kernel
theorem dX4_settle_1 : decode cX4_settle 1 = .ok (.iconst 0, 1) := by decide +kernel
theorem dX4_settle_2 : decode cX4_settle 2 = .ok (.invokevirtual 82, 3) := by decide +kernel
theorem dX4_settle_5 : decode cX4_settle 5 = .ok (.ireturn, 1) := by decide +kernel
theorem dX4_finish_0 : decode cX4_finish 0 = .ok (.aload_n 0, 1) := by decide +kernel
theorem dX4_finish_1 : decode cX4_finish 1 = .ok (.iconst 1, 1) := by decide +kernel
theorem dX4_finish_2 : decode cX4_finish 2 = .ok (.invokevirtual 82, 3) := by decide +kernel
theorem dX4_finish_5 : decode cX4_finish 5 = .ok (.ireturn, 1) := by decide +kernel
theorem dX4_length_0 : decode cX4_length 0 = .ok (.aload_n 0, 1) := by decide +kernel
theorem dX4_length_1 : decode cX4_length 1 = .ok (.getfield 30, 3) := by decide +kernel
theorem dX4_length_4 : decode cX4_length 4 = .ok (.getfield 86, 3) := by decide +kernel
theorem dX4_length_7 : decode cX4_length 7 = .ok (.ireturn, 1) := by decide +kernel
theorem dX4_letter_28 : decode cX4_letter 28 = .ok (.ireturn, 1) := by decide +kernel
theorem dX4_letter_27 : decode cX4_letter 27 = .ok (.iconst 0, 1) := by decide +kernel
theorem dX4_letter_15 : decode cX4_letter 15 = .ok (.aload_n 0, 1) := by decide +kernel
theorem dX4_letter_16 : decode cX4_letter 16 = .ok (.getfield 30, 3) := by decide +kernel
theorem dX4_letter_19 : decode cX4_letter 19 = .ok (.getfield 89, 3) := by decide +kernel
theorem dX4_letter_22 : decode cX4_letter 22 = .ok (.iload_n 1, 1) := by decide +kernel
theorem dX4_letter_23 : decode cX4_letter 23 = .ok (.caload, 1) := by decide +kernel
theorem dX4_letter_24 : decode cX4_letter 24 = .ok (.goto 4, 3) := by decide +kernel
theorem dX4_letter_4 : decode cX4_letter 4 = .ok (.iload_n 1, 1) := by decide +kernel
theorem dX4_letter_5 : decode cX4_letter 5 = .ok (.aload_n 0, 1) := by decide +kernel
theorem dX4_letter_6 : decode cX4_letter 6 = .ok (.getfield 30, 3) := by decide +kernel
theorem dX4_letter_9 : decode cX4_letter 9 = .ok (.getfield 86, 3) := by decide +kernel
theorem dX4_letter_12 : decode cX4_letter 12 = .ok (.if_icmp .ge 15, 3) := by decide +kernel
theorem dX4_letter_0 : decode cX4_letter 0 = .ok (.iload_n 1, 1) := by decide +kernel
theorem dX4_letter_1 : decode cX4_letter 1 = .ok (.ifCond .lt 26, 3) := by decide +kernel
theorem dX4_cursor_0 : decode cX4_cursor 0 = .ok (.aload_n 0, 1) := by decide +kernel
theorem dX4_cursor_1 : decode cX4_cursor 1 = .ok (.getfield 30, 3) := by decide +kernel
theorem dX4_cursor_4 : decode cX4_cursor 4 = .ok (.getfield 93, 3) := by decide +kernel
theorem dX4_cursor_7 : decode cX4_cursor 7 = .ok (.ireturn, 1) := by decide +kernel
theorem dX4_applied_0 : decode cX4_applied 0 = .ok (.aload_n 0, 1) := by decide +kernel
theorem dX4_applied_1 : decode cX4_applied 1 = .ok (.getfield 41, 3) := by decide +kernel
theorem dX4_applied_4 : decode cX4_applied 4 = .ok (.ireturn, 1) := by decide +kernel
theorem dX4_latest_0 : decode cX4_latest 0 = .ok (.aload_n 0, 1) := by decide +kernel
theorem dX4_latest_1 : decode cX4_latest 1 = .ok (.getfield 44, 3) := by decide +kernel
theorem dX4_latest_4 : decode cX4_latest 4 = .ok (.ireturn, 1) := by decide +kernel
theorem dX4_stuck_0 : decode cX4_stuck 0 = .ok (.aload_n 0, 1) := by decide +kernel
theorem dX4_stuck_1 : decode cX4_stuck 1 = .ok (.getfield 47, 3) := by decide +kernel
theorem dX4_stuck_4 : decode cX4_stuck 4 = .ok (.ireturn, 1) := by decide +kernel
theorem dX4_probe_14 : decode cX4_probe 14 = .ok (.aload_n 0, 1) := by decide +kernel
theorem dX4_probe_15 : decode cX4_probe 15 = .ok (.getfield 37, 3) := by decide +kernel
theorem dX4_probe_18 : decode cX4_probe 18 = .ok (.aload_n 0, 1) := by decide +kernel
theorem dX4_probe_19 : decode cX4_probe 19 = .ok (.getfield 18, 3) := by decide +kernel
theorem dX4_probe_22 : decode cX4_probe 22 = .ok (.iload_n 1, 1) := by decide +kernel
theorem dX4_probe_23 : decode cX4_probe 23 = .ok (.aaload, 1) := by decide +kernel
theorem dX4_probe_24 : decode cX4_probe 24 = .ok (.aload_n 0, 1) := by decide +kernel
theorem dX4_probe_25 : decode cX4_probe 25 = .ok (.getfield 30, 3) := by decide +kernel
theorem dX4_probe_28 : decode cX4_probe 28 = .ok (.iload_n 2, 1) := by decide +kernel
theorem dX4_probe_29 : decode cX4_probe 29 = .ok (.invokevirtual 96, 3) := by decide +kernel
theorem dX4_probe_32 : decode cX4_probe 32 = .ok (.ireturn, 1) := by decide +kernel
theorem dX4_probe_12 : decode cX4_probe 12 = .ok (.iconst (-1), 1) := by decide +kernel
theorem dX4_probe_13 : decode cX4_probe 13 = .ok (.ireturn, 1) := by decide +kernel
theorem dX4_probe_4 : decode cX4_probe 4 = .ok (.iload_n 1, 1) := by decide +kernel
theorem dX4_probe_5 : decode cX4_probe 5 = .ok (.aload_n 0, 1) := by decide +kernel
theorem dX4_probe_6 : decode cX4_probe 6 = .ok (.getfield 23, 3) := by decide +kernel
theorem dX4_probe_9 : decode cX4_probe 9 = .ok (.if_icmp .lt 5, 3) := by decide +kernel
theorem dX4_probe_0 : decode cX4_probe 0 = .ok (.iload_n 1, 1) := by decide +kernel
theorem dX4_probe_1 : decode cX4_probe 1 = .ok (.ifCond .lt 11, 3) := by decide +kernel
-- X3_putPiece
def wX3_putPiece : List Cond := Cond.code yX3_putPiece cX3_putPiece 7 (some .int) :: kv_tb
abbrev SX3_putPiece (pc : Nat) (F : kv_D) : Prop := kv_S cX3_putPiece 7 RX3 wX3_putPiece (some .int) false 1 26 none pc F
def fX3_putPiece_30 : kv_D := o_aload 2 (o_aload 1 (o_iload 5 (o_callV 0 2 mX0_segmentWidth (o_istore 6 (o_aload 0 (o_getf 3 0 (o_aload 2 (o_aload 1 (o_iload 5 (o_callV 0 2 mX0_segmentBegin (o_aload 0 (o_getf 3 1 (o_iload 4 (o_iload 6 (o_copy 1 .char (o_iload 4 (o_iload 6 (o_iadd (o_iret .int)))))))))))))))))))
theorem sX3_putPiece_30 : SX3_putPiece 30 (fX3_putPiece_30) := k_aload_n dX3_putPiece_30 rfl (k_aload_n dX3_putPiece_31 rfl (k_iload dX3_putPiece_32 (k_callV (q := (RX0, TX0, 1)) dX3_putPiece_34 cX0_segmentWidth_ct rfl (kv_goodV mw_362 mw_363 mw_364 mw_5 mw_365) (by decide +kernel) rfl (by decide) (by decide) (k_istore dX3_putPiece_37 (by decide) (k_aload_n dX3_putPiece_39 rfl (k_getf (C := RX3) (T := TX3) (N := 4) (ci := 3) (index := 9) (kf := 0) dX3_putPiece_40 rfl (fun w h => List.mem_cons_of_mem _ (inX3 w h)) (by decide) (List.mem_cons_of_mem _ mw_124) (k_aload_n dX3_putPiece_43 rfl (k_aload_n dX3_putPiece_44 rfl (k_iload dX3_putPiece_45 (k_callV (q := (RX0, TX0, 1)) dX3_putPiece_47 cX0_segmentBegin_ct rfl (kv_goodV mw_377 mw_378 mw_379 mw_5 mw_380) (by decide +kernel) rfl (by decide) (by decide) (k_aload_n dX3_putPiece_50 rfl (k_getf (C := RX3) (T := TX3) (N := 4) (ci := 3) (index := 15) (kf := 1) dX3_putPiece_51 rfl (fun w h => List.mem_cons_of_mem _ (inX3 w h)) (by decide) (List.mem_cons_of_mem _ mw_126) (k_iload dX3_putPiece_54 (k_iload dX3_putPiece_56 (k_copy dX3_putPiece_58 rfl rfl (List.mem_cons_of_mem _ mw_370) (List.mem_cons_of_mem _ mw_372) (List.mem_cons_of_mem _ mw_371) (List.mem_cons_of_mem _ mw_8) (by decide) (by decide) (k_iload dX3_putPiece_61 (k_iload dX3_putPiece_63 (k_iadd dX3_putPiece_65 (k_iret dX3_putPiece_66 rfl)))))))))))))))))))
def fX3_putPiece_16 : kv_D := o_aload 0 (o_getf 3 1 (o_iload 4 (o_iload 5 (o_iast 1 (vp_nar .char) (o_iload 4 (o_const 1 (o_iadd (o_iret .int))))))))
theorem sX3_putPiece_16 : SX3_putPiece 16 (fX3_putPiece_16) := k_aload_n dX3_putPiece_16 rfl (k_getf (C := RX3) (T := TX3) (N := 4) (ci := 3) (index := 15) (kf := 1) dX3_putPiece_17 rfl (fun w h => List.mem_cons_of_mem _ (inX3 w h)) (by decide) (List.mem_cons_of_mem _ mw_126) (k_iload dX3_putPiece_20 (k_iload dX3_putPiece_22 (k_cast dX3_putPiece_24 rfl (k_iload dX3_putPiece_25 (k_iconst dX3_putPiece_27 (by decide +kernel) (k_iadd dX3_putPiece_28 (k_iret dX3_putPiece_29 rfl))))))))
def fX3_putPiece_0 : kv_D := o_aload 1 (o_getf 1 10 (o_iload 3 (o_iald 1 (o_istore 5 (o_iload 5 (o_callS 1 mX4_isSmall (o_ifeq (fX3_putPiece_30) (fX3_putPiece_16))))))))
theorem sX3_putPiece_0 : SX3_putPiece 0 (fX3_putPiece_0) := k_aload_n dX3_putPiece_0 rfl (k_getN (C := RX1) (T := TX1) (N := 14) (ci := 1) (index := 56) (kf := 10) dX3_putPiece_1 rfl (fun w h => List.mem_cons_of_mem _ (inX1 w h)) (by decide) mw_80 (k_iload_n dX3_putPiece_4 rfl (k_cald dX3_putPiece_5 rfl (k_istore dX3_putPiece_6 (by decide) (k_iload dX3_putPiece_8 (k_callSN dX3_putPiece_10 cX4_isSmall_ct rfl (kv_goodC mw_207) mw_361 (List.mem_cons_of_mem _ mw_1) (List.mem_cons_of_mem _ mw_206) (by decide +kernel) (by decide) (by decide) (k_ifeq dX3_putPiece_13 rfl (sX3_putPiece_30) (sX3_putPiece_16))))))))
def mX3_putPiece : kv_M := kv_in 5 7 (fX3_putPiece_0)
theorem cX3_putPiece_ct : kv_CT yX3_putPiece wX3_putPiece 1 26 mX3_putPiece := kv_met (by decide) rfl rfl (by decide) (fun h => by cases h) (sX3_putPiece_0)
-- X3_replace
def wX3_replace : List Cond := Cond.code yX3_replace cX3_replace 6 none :: kv_tb
abbrev SX3_replace (pc : Nat) (F : kv_D) : Prop := kv_S cX3_replace 6 RX3 wX3_replace none false 2 52 none pc F
def fX3_replace_50 (K : Nat → kv_D) : kv_D := o_aload 2 (o_getf 0 0 (o_aload 1 (o_getf 1 5 (o_iald 0 (o_istore 4 (o_aload 0 (o_getf 3 0 (o_iload 4 (o_aload 0 (o_getf 3 1 (o_iload 3 (o_aload 0 (o_getf 3 2 (o_iload 4 (o_isub (o_copy 1 .char (o_aload 0 (o_dup (o_getf 3 3 (o_aload 1 (o_aload 2 (o_aload 1 (o_getf 1 13 (o_callS 3 mX3_widthOf (o_iadd (o_putf 3 3 .int (o_aload 0 (o_iload 3 (o_aload 0 (o_getf 3 2 (o_iadd (o_iload 4 (o_isub (o_putf 3 2 .int (o_aload 0 (o_getf 3 0 (o_astore 5 (o_aload 0 (o_aload 0 (o_getf 3 1 (o_putf 3 0 (.array .char) (o_aload 0 (o_aload 5 (o_putf 3 1 (.array .char) (o_ret)))))))))))))))))))))))))))))))))))))))))))))
theorem sX3_replace_50 {K : Nat → kv_D} (hK : ∀ pc, SX3_replace pc (K pc)) : SX3_replace 50 (fX3_replace_50 K) := k_aload_n dX3_replace_50 rfl (k_getN (C := RX0) (T := TX0) (N := 1) (ci := 0) (index := 25) (kf := 0) dX3_replace_51 rfl (fun w h => List.mem_cons_of_mem _ (inX0 w h)) (by decide) mw_149 (k_aload_n dX3_replace_54 rfl (k_getN (C := RX1) (T := TX1) (N := 14) (ci := 1) (index := 31) (kf := 5) dX3_replace_55 rfl (fun w h => List.mem_cons_of_mem _ (inX1 w h)) (by decide) mw_70 (k_iald dX3_replace_58 rfl (k_istore dX3_replace_59 (by decide) (k_aload_n dX3_replace_61 rfl (k_getf (C := RX3) (T := TX3) (N := 4) (ci := 3) (index := 9) (kf := 0) dX3_replace_62 rfl (fun w h => List.mem_cons_of_mem _ (inX3 w h)) (by decide) (List.mem_cons_of_mem _ mw_124) (k_iload dX3_replace_65 (k_aload_n dX3_replace_67 rfl (k_getf (C := RX3) (T := TX3) (N := 4) (ci := 3) (index := 15) (kf := 1) dX3_replace_68 rfl (fun w h => List.mem_cons_of_mem _ (inX3 w h)) (by decide) (List.mem_cons_of_mem _ mw_126) (k_iload_n dX3_replace_71 rfl (k_aload_n dX3_replace_72 rfl (k_getf (C := RX3) (T := TX3) (N := 4) (ci := 3) (index := 18) (kf := 2) dX3_replace_73 rfl (fun w h => List.mem_cons_of_mem _ (inX3 w h)) (by decide) (List.mem_cons_of_mem _ mw_127) (k_iload dX3_replace_76 (k_isub dX3_replace_78 (k_copy dX3_replace_79 rfl rfl (List.mem_cons_of_mem _ mw_370) (List.mem_cons_of_mem _ mw_372) (List.mem_cons_of_mem _ mw_371) (List.mem_cons_of_mem _ mw_8) (by decide) (by decide) (k_aload_n dX3_replace_82 rfl (k_dup dX3_replace_83 (k_getf (C := RX3) (T := TX3) (N := 4) (ci := 3) (index := 22) (kf := 3) dX3_replace_84 rfl (fun w h => List.mem_cons_of_mem _ (inX3 w h)) (by decide) (List.mem_cons_of_mem _ mw_130) (k_aload_n dX3_replace_87 rfl (k_aload_n dX3_replace_88 rfl (k_aload_n dX3_replace_89 rfl (k_getN (C := RX1) (T := TX1) (N := 14) (ci := 1) (index := 53) (kf := 13) dX3_replace_90 rfl (fun w h => List.mem_cons_of_mem _ (inX1 w h)) (by decide) mw_87 (k_callS dX3_replace_93 cX3_widthOf_ct rfl (kv_goodS mw_358 mw_359 mw_4 mw_360) (by decide +kernel) (by decide) (by decide) (k_iadd dX3_replace_96 (k_putf (C := RX3) (T := TX3) (N := 4) (ci := 3) (index := 22) (kf := 3) (ty := .int) dX3_replace_97 rfl (fun w h => List.mem_cons_of_mem _ (inX3 w h)) tyX3 tyX3_ok nmX3 (by decide) (List.mem_cons_of_mem _ mw_130) rfl rfl (k_aload_n dX3_replace_100 rfl (k_iload_n dX3_replace_101 rfl (k_aload_n dX3_replace_102 rfl (k_getf (C := RX3) (T := TX3) (N := 4) (ci := 3) (index := 18) (kf := 2) dX3_replace_103 rfl (fun w h => List.mem_cons_of_mem _ (inX3 w h)) (by decide) (List.mem_cons_of_mem _ mw_127) (k_iadd dX3_replace_106 (k_iload dX3_replace_107 (k_isub dX3_replace_109 (k_putf (C := RX3) (T := TX3) (N := 4) (ci := 3) (index := 18) (kf := 2) (ty := .int) dX3_replace_110 rfl (fun w h => List.mem_cons_of_mem _ (inX3 w h)) tyX3 tyX3_ok nmX3 (by decide) (List.mem_cons_of_mem _ mw_127) rfl rfl (k_aload_n dX3_replace_113 rfl (k_getf (C := RX3) (T := TX3) (N := 4) (ci := 3) (index := 9) (kf := 0) dX3_replace_114 rfl (fun w h => List.mem_cons_of_mem _ (inX3 w h)) (by decide) (List.mem_cons_of_mem _ mw_124) (k_astore dX3_replace_117 (by decide) (k_aload_n dX3_replace_119 rfl (k_aload_n dX3_replace_120 rfl (k_getf (C := RX3) (T := TX3) (N := 4) (ci := 3) (index := 15) (kf := 1) dX3_replace_121 rfl (fun w h => List.mem_cons_of_mem _ (inX3 w h)) (by decide) (List.mem_cons_of_mem _ mw_126) (k_putf (C := RX3) (T := TX3) (N := 4) (ci := 3) (index := 9) (kf := 0) (ty := (.array .char)) dX3_replace_124 rfl (fun w h => List.mem_cons_of_mem _ (inX3 w h)) tyX3 tyX3_ok nmX3 (by decide) (List.mem_cons_of_mem _ mw_124) rfl rfl (k_aload_n dX3_replace_127 rfl (k_aload dX3_replace_128 (k_putf (C := RX3) (T := TX3) (N := 4) (ci := 3) (index := 15) (kf := 1) (ty := (.array .char)) dX3_replace_130 rfl (fun w h => List.mem_cons_of_mem _ (inX3 w h)) tyX3 tyX3_ok nmX3 (by decide) (List.mem_cons_of_mem _ mw_126) rfl rfl (k_ret dX3_replace_133 rfl)))))))))))))))))))))))))))))))))))))))))))))
theorem nX3_replace_50 : kv_cn (fun K => fX3_replace_50 K) := cn_aload 2 (cn_getf 0 0 (cn_aload 1 (cn_getf 1 5 (cn_iald 0 (cn_istore 4 (cn_aload 0 (cn_getf 3 0 (cn_iload 4 (cn_aload 0 (cn_getf 3 1 (cn_iload 3 (cn_aload 0 (cn_getf 3 2 (cn_iload 4 (cn_isub (cn_copy 1 .char (cn_aload 0 (cn_dup (cn_getf 3 3 (cn_aload 1 (cn_aload 2 (cn_aload 1 (cn_getf 1 13 (cn_callS 3 mX3_widthOf (cn_iadd (cn_putf 3 3 .int (cn_aload 0 (cn_iload 3 (cn_aload 0 (cn_getf 3 2 (cn_iadd (cn_iload 4 (cn_isub (cn_putf 3 2 .int (cn_aload 0 (cn_getf 3 0 (cn_astore 5 (cn_aload 0 (cn_aload 0 (cn_getf 3 1 (cn_putf 3 0 (.array .char) (cn_aload 0 (cn_aload 5 (cn_putf 3 1 (.array .char) (cn_c _)))))))))))))))))))))))))))))))))))))))))))))
def fX3_replace_34 (K : Nat → kv_D) : kv_D := o_aload 0 (o_aload 1 (o_aload 2 (o_iload 4 (o_iload 3 (o_callV 3 4 mX3_putPiece (o_istore 3 (o_iinc 4 1 ((K 25)))))))))
theorem sX3_replace_34 {K : Nat → kv_D} (hK : ∀ pc, SX3_replace pc (K pc)) : SX3_replace 34 (fX3_replace_34 K) := k_aload_n dX3_replace_34 rfl (k_aload_n dX3_replace_35 rfl (k_aload_n dX3_replace_36 rfl (k_iload dX3_replace_37 (k_iload_n dX3_replace_39 rfl (k_callV (q := (RX3, TX3, 4)) dX3_replace_40 cX3_putPiece_ct rfl (kv_goodV mw_373 mw_375 sel_X3_putPiece mw_4 mw_376) (by decide +kernel) rfl (by decide) (by decide) (k_istore_n dX3_replace_43 rfl (by decide) (k_iinc dX3_replace_44 (by decide +kernel) (by decide) (k_goto dX3_replace_47 rfl (hK 25)))))))))
theorem nX3_replace_34 : kv_cn (fun K => fX3_replace_34 K) := cn_aload 0 (cn_aload 1 (cn_aload 2 (cn_iload 4 (cn_iload 3 (cn_callV 3 4 mX3_putPiece (cn_istore 3 (cn_iinc 4 1 ((cn_K 25)))))))))
def fX3_replace_25 (K : Nat → kv_D) : kv_D := o_iload 4 (o_aload 1 (o_getf 1 11 (o_icge (fX3_replace_50 K) (fX3_replace_34 K))))
theorem sX3_replace_25 {K : Nat → kv_D} (hK : ∀ pc, SX3_replace pc (K pc)) : SX3_replace 25 (fX3_replace_25 K) := k_iload dX3_replace_25 (k_aload_n dX3_replace_27 rfl (k_getN (C := RX1) (T := TX1) (N := 14) (ci := 1) (index := 36) (kf := 11) dX3_replace_28 rfl (fun w h => List.mem_cons_of_mem _ (inX1 w h)) (by decide) mw_82 (k_icge dX3_replace_31 rfl (sX3_replace_50 hK) (sX3_replace_34 hK))))
theorem nX3_replace_25 : kv_cn (fun K => fX3_replace_25 K) := cn_iload 4 (cn_aload 1 (cn_getf 1 11 (cn_icge nX3_replace_50 nX3_replace_34)))
def fX3_replace_0 (K : Nat → kv_D) : kv_D := o_aload 0 (o_getf 3 0 (o_const 0 (o_aload 0 (o_getf 3 1 (o_const 0 (o_aload 0 (o_getf 3 3 (o_copy 1 .char (o_aload 0 (o_getf 3 3 (o_istore 3 (o_const 0 (o_istore 4 ((K 25)))))))))))))))
theorem sX3_replace_0 {K : Nat → kv_D} (hK : ∀ pc, SX3_replace pc (K pc)) : SX3_replace 0 (fX3_replace_0 K) := k_aload_n dX3_replace_0 rfl (k_getf (C := RX3) (T := TX3) (N := 4) (ci := 3) (index := 9) (kf := 0) dX3_replace_1 rfl (fun w h => List.mem_cons_of_mem _ (inX3 w h)) (by decide) (List.mem_cons_of_mem _ mw_124) (k_iconst dX3_replace_4 (by decide +kernel) (k_aload_n dX3_replace_5 rfl (k_getf (C := RX3) (T := TX3) (N := 4) (ci := 3) (index := 15) (kf := 1) dX3_replace_6 rfl (fun w h => List.mem_cons_of_mem _ (inX3 w h)) (by decide) (List.mem_cons_of_mem _ mw_126) (k_iconst dX3_replace_9 (by decide +kernel) (k_aload_n dX3_replace_10 rfl (k_getf (C := RX3) (T := TX3) (N := 4) (ci := 3) (index := 22) (kf := 3) dX3_replace_11 rfl (fun w h => List.mem_cons_of_mem _ (inX3 w h)) (by decide) (List.mem_cons_of_mem _ mw_130) (k_copy dX3_replace_14 rfl rfl (List.mem_cons_of_mem _ mw_370) (List.mem_cons_of_mem _ mw_372) (List.mem_cons_of_mem _ mw_371) (List.mem_cons_of_mem _ mw_8) (by decide) (by decide) (k_aload_n dX3_replace_17 rfl (k_getf (C := RX3) (T := TX3) (N := 4) (ci := 3) (index := 22) (kf := 3) dX3_replace_18 rfl (fun w h => List.mem_cons_of_mem _ (inX3 w h)) (by decide) (List.mem_cons_of_mem _ mw_130) (k_istore_n dX3_replace_21 rfl (by decide) (k_iconst dX3_replace_22 (by decide +kernel) (k_istore dX3_replace_23 (by decide) ((hK 25)))))))))))))))
theorem nX3_replace_0 : kv_cn (fun K => fX3_replace_0 K) := cn_aload 0 (cn_getf 3 0 (cn_const 0 (cn_aload 0 (cn_getf 3 1 (cn_const 0 (cn_aload 0 (cn_getf 3 3 (cn_copy 1 .char (cn_aload 0 (cn_getf 3 3 (cn_istore 3 (cn_const 0 (cn_istore 4 ((cn_K 25)))))))))))))))
def bX3_replace (K : Nat → kv_D) (pc : Nat) : kv_D := if pc = 25 then fX3_replace_25 K else fun _ _ _ _ _ => False
theorem hX3_replace : ∀ pc, SX3_replace pc (kv_lim (bX3_replace) pc) := kv_lim_S (fun K hK pc => by
  unfold bX3_replace
  by_cases q25 : pc = 25
  · rw [if_pos q25, q25]
    exact sX3_replace_25 hK
  rw [if_neg q25]
  exact kv_none)
theorem uX3_replace_25 {L : List (Option Value)} {st : List Value} {h : kv_H} {v : Option Value} {h' : kv_H} (hx : fX3_replace_25 (kv_lim (bX3_replace)) L st h v h') : kv_lim (bX3_replace) 25 L st h v h' := kv_un (q := 25) (by have e : (fun K => bX3_replace K 25) = fun K => fX3_replace_25 K := (by funext K; rfl); rw [e]; exact nX3_replace_25) (by have e : bX3_replace (kv_lim (bX3_replace)) 25 = fX3_replace_25 (kv_lim (bX3_replace)) := rfl; rw [e]; exact hx)
def mX3_replace : kv_M := kv_in 3 6 (fX3_replace_0 (kv_lim (bX3_replace)))
theorem cX3_replace_ct : kv_CT yX3_replace wX3_replace 2 52 mX3_replace := kv_met (by decide) rfl rfl (by decide) (fun h => by cases h) (sX3_replace_0 (hX3_replace))
-- X4_apply
def wX4_apply : List Cond := Cond.code yX4_apply cX4_apply 3 (some .boolean) :: kv_tb
abbrev SX4_apply (pc : Nat) (F : kv_D) : Prop := kv_S cX4_apply 3 RX4 wX4_apply (some .boolean) false 3 77 none pc F
def fX4_apply_40 : kv_D := o_aload 0 (o_getf 4 3 (o_aload 2 (o_aload 0 (o_getf 4 4 (o_callV 3 2 mX3_replace (o_aload 0 (o_dup (o_getf 4 5 (o_const 1 (o_iadd (o_putf 4 5 .int (o_aload 0 (o_iload 1 (o_putf 4 6 .int (o_const 1 (o_iret .boolean))))))))))))))))
theorem sX4_apply_40 : SX4_apply 40 (fX4_apply_40) := k_aload_n dX4_apply_40 rfl (k_getf (C := RX4) (T := TX4) (N := 8) (ci := 4) (index := 30) (kf := 3) dX4_apply_41 rfl (fun w h => List.mem_cons_of_mem _ (inX4 w h)) (by decide) (List.mem_cons_of_mem _ mw_156) (k_aload_n dX4_apply_44 rfl (k_aload_n dX4_apply_45 rfl (k_getf (C := RX4) (T := TX4) (N := 8) (ci := 4) (index := 37) (kf := 4) dX4_apply_46 rfl (fun w h => List.mem_cons_of_mem _ (inX4 w h)) (by decide) (List.mem_cons_of_mem _ mw_157) (k_callV (q := (RX3, TX3, 4)) dX4_apply_49 cX3_replace_ct rfl (kv_goodV mw_366 mw_367 mw_368 mw_4 mw_369) (by decide +kernel) rfl (by decide) (by decide) (k_aload_n dX4_apply_52 rfl (k_dup dX4_apply_53 (k_getf (C := RX4) (T := TX4) (N := 8) (ci := 4) (index := 41) (kf := 5) dX4_apply_54 rfl (fun w h => List.mem_cons_of_mem _ (inX4 w h)) (by decide) (List.mem_cons_of_mem _ mw_158) (k_iconst dX4_apply_57 (by decide +kernel) (k_iadd dX4_apply_58 (k_putf (C := RX4) (T := TX4) (N := 8) (ci := 4) (index := 41) (kf := 5) (ty := .int) dX4_apply_59 rfl (fun w h => List.mem_cons_of_mem _ (inX4 w h)) tyX4 tyX4_ok nmX4 (by decide) (List.mem_cons_of_mem _ mw_158) rfl rfl (k_aload_n dX4_apply_62 rfl (k_iload_n dX4_apply_63 rfl (k_putf (C := RX4) (T := TX4) (N := 8) (ci := 4) (index := 44) (kf := 6) (ty := .int) dX4_apply_64 rfl (fun w h => List.mem_cons_of_mem _ (inX4 w h)) tyX4 tyX4_ok nmX4 (by decide) (List.mem_cons_of_mem _ mw_159) rfl rfl (k_iconst dX4_apply_67 (by decide +kernel) (k_iret dX4_apply_68 rfl))))))))))))))))
def fX4_apply_33 : kv_D := o_aload 0 (o_const 1 (o_putf 4 7 .boolean (o_const 0 (o_iret .boolean))))
theorem sX4_apply_33 : SX4_apply 33 (fX4_apply_33) := k_aload_n dX4_apply_33 rfl (k_iconst dX4_apply_34 (by decide +kernel) (k_putf (C := RX4) (T := TX4) (N := 8) (ci := 4) (index := 47) (kf := 7) (ty := .boolean) dX4_apply_35 rfl (fun w h => List.mem_cons_of_mem _ (inX4 w h)) tyX4 tyX4_ok nmX4 (by decide) (List.mem_cons_of_mem _ mw_160) rfl rfl (k_iconst dX4_apply_38 (by decide +kernel) (k_iret dX4_apply_39 rfl))))
def fX4_apply_16 : kv_D := o_aload 0 (o_getf 4 3 (o_aload 2 (o_aload 0 (o_getf 4 4 (o_callV 3 2 mX3_sizeAfter (o_const 60 (o_icle (fX4_apply_40) (fX4_apply_33))))))))
theorem sX4_apply_16 : SX4_apply 16 (fX4_apply_16) := k_aload_n dX4_apply_16 rfl (k_getf (C := RX4) (T := TX4) (N := 8) (ci := 4) (index := 30) (kf := 3) dX4_apply_17 rfl (fun w h => List.mem_cons_of_mem _ (inX4 w h)) (by decide) (List.mem_cons_of_mem _ mw_156) (k_aload_n dX4_apply_20 rfl (k_aload_n dX4_apply_21 rfl (k_getf (C := RX4) (T := TX4) (N := 8) (ci := 4) (index := 37) (kf := 4) dX4_apply_22 rfl (fun w h => List.mem_cons_of_mem _ (inX4 w h)) (by decide) (List.mem_cons_of_mem _ mw_157) (k_callV (q := (RX3, TX3, 4)) dX4_apply_25 cX3_sizeAfter_ct rfl (kv_goodV mw_354 mw_355 mw_356 mw_4 mw_357) (by decide +kernel) rfl (by decide) (by decide) (k_bipush dX4_apply_28 (by decide +kernel) (k_icle dX4_apply_30 rfl (sX4_apply_40) (sX4_apply_33))))))))
def fX4_apply_0 : kv_D := o_aload 0 (o_getf 4 1 (o_iload 1 (o_aald 2 (o_astore 2 (o_aload 0 (o_getf 4 5 (o_const 100 (o_icge (fX4_apply_33) (fX4_apply_16)))))))))
theorem sX4_apply_0 : SX4_apply 0 (fX4_apply_0) := k_aload_n dX4_apply_0 rfl (k_getf (C := RX4) (T := TX4) (N := 8) (ci := 4) (index := 18) (kf := 1) dX4_apply_1 rfl (fun w h => List.mem_cons_of_mem _ (inX4 w h)) (by decide) (List.mem_cons_of_mem _ mw_154) (k_iload_n dX4_apply_4 rfl (k_aald dX4_apply_5 rfl (k_astore_n dX4_apply_6 rfl (by decide) (k_aload_n dX4_apply_7 rfl (k_getf (C := RX4) (T := TX4) (N := 8) (ci := 4) (index := 41) (kf := 5) dX4_apply_8 rfl (fun w h => List.mem_cons_of_mem _ (inX4 w h)) (by decide) (List.mem_cons_of_mem _ mw_158) (k_bipush dX4_apply_11 (by decide +kernel) (k_icge dX4_apply_13 rfl (sX4_apply_33) (sX4_apply_16)))))))))
def mX4_apply : kv_M := kv_in 2 3 (fX4_apply_0)
theorem cX4_apply_ct : kv_CT yX4_apply wX4_apply 3 77 mX4_apply := kv_met (by decide) rfl rfl (by decide) (fun h => by cases h) (sX4_apply_0)
-- X4_doAtCursor
def wX4_doAtCursor : List Cond := Cond.code yX4_doAtCursor cX4_doAtCursor 4 (some .boolean) :: kv_tb
abbrev SX4_doAtCursor (pc : Nat) (F : kv_D) : Prop := kv_S cX4_doAtCursor 4 RX4 wX4_doAtCursor (some .boolean) false 4 99 none pc F
def fX4_doAtCursor_53 (K : Nat → kv_D) : kv_D := o_aload 0 (o_getf 4 3 (o_dup (o_getf 3 3 (o_const 1 (o_iadd (o_putf 3 3 .int (o_const 1 (o_iret .boolean))))))))
theorem sX4_doAtCursor_53 {K : Nat → kv_D} (hK : ∀ pc, SX4_doAtCursor pc (K pc)) : SX4_doAtCursor 53 (fX4_doAtCursor_53 K) := k_aload_n dX4_doAtCursor_53 rfl (k_getf (C := RX4) (T := TX4) (N := 8) (ci := 4) (index := 30) (kf := 3) dX4_doAtCursor_54 rfl (fun w h => List.mem_cons_of_mem _ (inX4 w h)) (by decide) (List.mem_cons_of_mem _ mw_156) (k_dup dX4_doAtCursor_57 (k_getN (C := RX3) (T := TX3) (N := 4) (ci := 3) (index := 93) (kf := 3) dX4_doAtCursor_58 rfl (fun w h => List.mem_cons_of_mem _ (inX3 w h)) (by decide) mw_132 (k_iconst dX4_doAtCursor_61 (by decide +kernel) (k_iadd dX4_doAtCursor_62 (k_putN (C := RX3) (T := TX3) (N := 4) (ci := 3) (index := 93) (kf := 3) (ty := .int) dX4_doAtCursor_63 rfl (fun w h => List.mem_cons_of_mem _ (inX3 w h)) tyX3 tyX3_ok nmX3 (by decide) mw_132 rfl rfl (k_iconst dX4_doAtCursor_66 (by decide +kernel) (k_iret dX4_doAtCursor_67 rfl))))))))
theorem nX4_doAtCursor_53 : kv_cn (fun K => fX4_doAtCursor_53 K) := cn_aload 0 (cn_getf 4 3 (cn_dup (cn_getf 3 3 (cn_const 1 (cn_iadd (cn_putf 3 3 .int (cn_const 1 (cn_c _))))))))
def fX4_doAtCursor_47 (K : Nat → kv_D) : kv_D := o_iinc 2 1 ((K 2))
theorem sX4_doAtCursor_47 {K : Nat → kv_D} (hK : ∀ pc, SX4_doAtCursor pc (K pc)) : SX4_doAtCursor 47 (fX4_doAtCursor_47 K) := k_iinc dX4_doAtCursor_47 (by decide +kernel) (by decide) (k_goto dX4_doAtCursor_50 rfl (hK 2))
theorem nX4_doAtCursor_47 : kv_cn (fun K => fX4_doAtCursor_47 K) := cn_iinc 2 1 ((cn_K 2))
def fX4_doAtCursor_41 (K : Nat → kv_D) : kv_D := o_aload 0 (o_iload 2 (o_callV 4 1 mX4_apply (o_iret .boolean)))
theorem sX4_doAtCursor_41 {K : Nat → kv_D} (hK : ∀ pc, SX4_doAtCursor pc (K pc)) : SX4_doAtCursor 41 (fX4_doAtCursor_41 K) := k_aload_n dX4_doAtCursor_41 rfl (k_iload_n dX4_doAtCursor_42 rfl (k_callV (q := (RX4, TX4, 8)) dX4_doAtCursor_43 cX4_apply_ct rfl (kv_goodV mw_350 mw_352 sel_X4_apply mw_1 mw_353) (by decide +kernel) rfl (by decide) (by decide) (k_iret dX4_doAtCursor_46 rfl)))
theorem nX4_doAtCursor_41 : kv_cn (fun K => fX4_doAtCursor_41 K) := cn_aload 0 (cn_iload 2 (cn_callV 4 1 mX4_apply (cn_c _)))
def fX4_doAtCursor_36 (K : Nat → kv_D) : kv_D := o_iload 3 (o_const 1 (o_icne (fX4_doAtCursor_47 K) (fX4_doAtCursor_41 K)))
theorem sX4_doAtCursor_36 {K : Nat → kv_D} (hK : ∀ pc, SX4_doAtCursor pc (K pc)) : SX4_doAtCursor 36 (fX4_doAtCursor_36 K) := k_iload_n dX4_doAtCursor_36 rfl (k_iconst dX4_doAtCursor_37 (by decide +kernel) (k_icne dX4_doAtCursor_38 rfl (sX4_doAtCursor_47 hK) (sX4_doAtCursor_41 hK)))
theorem nX4_doAtCursor_36 : kv_cn (fun K => fX4_doAtCursor_36 K) := cn_iload 3 (cn_const 1 (cn_icne nX4_doAtCursor_47 nX4_doAtCursor_41))
def fX4_doAtCursor_34 (K : Nat → kv_D) : kv_D := o_const 0 (o_iret .boolean)
theorem sX4_doAtCursor_34 {K : Nat → kv_D} (hK : ∀ pc, SX4_doAtCursor pc (K pc)) : SX4_doAtCursor 34 (fX4_doAtCursor_34 K) := k_iconst dX4_doAtCursor_34 (by decide +kernel) (k_iret dX4_doAtCursor_35 rfl)
theorem nX4_doAtCursor_34 : kv_cn (fun K => fX4_doAtCursor_34 K) := cn_const 0 (cn_c _)
def fX4_doAtCursor_10 (K : Nat → kv_D) : kv_D := o_aload 0 (o_getf 4 4 (o_aload 0 (o_getf 4 1 (o_iload 2 (o_aald 2 (o_aload 0 (o_getf 4 3 (o_iload 1 (o_callV 0 3 mX0_run (o_istore 3 (o_iload 3 (o_const 2 (o_icne (fX4_doAtCursor_36 K) (fX4_doAtCursor_34 K))))))))))))))
theorem sX4_doAtCursor_10 {K : Nat → kv_D} (hK : ∀ pc, SX4_doAtCursor pc (K pc)) : SX4_doAtCursor 10 (fX4_doAtCursor_10 K) := k_aload_n dX4_doAtCursor_10 rfl (k_getf (C := RX4) (T := TX4) (N := 8) (ci := 4) (index := 37) (kf := 4) dX4_doAtCursor_11 rfl (fun w h => List.mem_cons_of_mem _ (inX4 w h)) (by decide) (List.mem_cons_of_mem _ mw_157) (k_aload_n dX4_doAtCursor_14 rfl (k_getf (C := RX4) (T := TX4) (N := 8) (ci := 4) (index := 18) (kf := 1) dX4_doAtCursor_15 rfl (fun w h => List.mem_cons_of_mem _ (inX4 w h)) (by decide) (List.mem_cons_of_mem _ mw_154) (k_iload_n dX4_doAtCursor_18 rfl (k_aald dX4_doAtCursor_19 rfl (k_aload_n dX4_doAtCursor_20 rfl (k_getf (C := RX4) (T := TX4) (N := 8) (ci := 4) (index := 30) (kf := 3) dX4_doAtCursor_21 rfl (fun w h => List.mem_cons_of_mem _ (inX4 w h)) (by decide) (List.mem_cons_of_mem _ mw_156) (k_iload_n dX4_doAtCursor_24 rfl (k_callV (q := (RX0, TX0, 1)) dX4_doAtCursor_25 cX0_run_ct rfl (kv_goodV mw_334 mw_335 mw_336 mw_5 mw_337) (by decide +kernel) rfl (by decide) (by decide) (k_istore_n dX4_doAtCursor_28 rfl (by decide) (k_iload_n dX4_doAtCursor_29 rfl (k_iconst dX4_doAtCursor_30 (by decide +kernel) (k_icne dX4_doAtCursor_31 rfl (sX4_doAtCursor_36 hK) (sX4_doAtCursor_34 hK))))))))))))))
theorem nX4_doAtCursor_10 : kv_cn (fun K => fX4_doAtCursor_10 K) := cn_aload 0 (cn_getf 4 4 (cn_aload 0 (cn_getf 4 1 (cn_iload 2 (cn_aald 2 (cn_aload 0 (cn_getf 4 3 (cn_iload 1 (cn_callV 0 3 mX0_run (cn_istore 3 (cn_iload 3 (cn_const 2 (cn_icne nX4_doAtCursor_36 nX4_doAtCursor_34)))))))))))))
def fX4_doAtCursor_2 (K : Nat → kv_D) : kv_D := o_iload 2 (o_aload 0 (o_getf 4 2 (o_icge (fX4_doAtCursor_53 K) (fX4_doAtCursor_10 K))))
theorem sX4_doAtCursor_2 {K : Nat → kv_D} (hK : ∀ pc, SX4_doAtCursor pc (K pc)) : SX4_doAtCursor 2 (fX4_doAtCursor_2 K) := k_iload_n dX4_doAtCursor_2 rfl (k_aload_n dX4_doAtCursor_3 rfl (k_getf (C := RX4) (T := TX4) (N := 8) (ci := 4) (index := 23) (kf := 2) dX4_doAtCursor_4 rfl (fun w h => List.mem_cons_of_mem _ (inX4 w h)) (by decide) (List.mem_cons_of_mem _ mw_155) (k_icge dX4_doAtCursor_7 rfl (sX4_doAtCursor_53 hK) (sX4_doAtCursor_10 hK))))
theorem nX4_doAtCursor_2 : kv_cn (fun K => fX4_doAtCursor_2 K) := cn_iload 2 (cn_aload 0 (cn_getf 4 2 (cn_icge nX4_doAtCursor_53 nX4_doAtCursor_10)))
def fX4_doAtCursor_0 (K : Nat → kv_D) : kv_D := o_const 0 (o_istore 2 ((K 2)))
theorem sX4_doAtCursor_0 {K : Nat → kv_D} (hK : ∀ pc, SX4_doAtCursor pc (K pc)) : SX4_doAtCursor 0 (fX4_doAtCursor_0 K) := k_iconst dX4_doAtCursor_0 (by decide +kernel) (k_istore_n dX4_doAtCursor_1 rfl (by decide) ((hK 2)))
theorem nX4_doAtCursor_0 : kv_cn (fun K => fX4_doAtCursor_0 K) := cn_const 0 (cn_istore 2 ((cn_K 2)))
def bX4_doAtCursor (K : Nat → kv_D) (pc : Nat) : kv_D := if pc = 2 then fX4_doAtCursor_2 K else fun _ _ _ _ _ => False
theorem hX4_doAtCursor : ∀ pc, SX4_doAtCursor pc (kv_lim (bX4_doAtCursor) pc) := kv_lim_S (fun K hK pc => by
  unfold bX4_doAtCursor
  by_cases q2 : pc = 2
  · rw [if_pos q2, q2]
    exact sX4_doAtCursor_2 hK
  rw [if_neg q2]
  exact kv_none)
theorem uX4_doAtCursor_2 {L : List (Option Value)} {st : List Value} {h : kv_H} {v : Option Value} {h' : kv_H} (hx : fX4_doAtCursor_2 (kv_lim (bX4_doAtCursor)) L st h v h') : kv_lim (bX4_doAtCursor) 2 L st h v h' := kv_un (q := 2) (by have e : (fun K => bX4_doAtCursor K 2) = fun K => fX4_doAtCursor_2 K := (by funext K; rfl); rw [e]; exact nX4_doAtCursor_2) (by have e : bX4_doAtCursor (kv_lim (bX4_doAtCursor)) 2 = fX4_doAtCursor_2 (kv_lim (bX4_doAtCursor)) := rfl; rw [e]; exact hx)
def mX4_doAtCursor : kv_M := kv_in 2 4 (fX4_doAtCursor_0 (kv_lim (bX4_doAtCursor)))
theorem cX4_doAtCursor_ct : kv_CT yX4_doAtCursor wX4_doAtCursor 4 99 mX4_doAtCursor := kv_met (by decide) rfl rfl (by decide) (fun h => by cases h) (sX4_doAtCursor_0 (hX4_doAtCursor))
-- X4_rewrite
def wX4_rewrite : List Cond := Cond.code yX4_rewrite cX4_rewrite 5 (some .int) :: kv_tb
abbrev SX4_rewrite (pc : Nat) (F : kv_D) : Prop := kv_S cX4_rewrite 5 RX4 wX4_rewrite (some .int) false 5 122 none pc F
def fX4_rewrite_62 (K : Nat → kv_D) : kv_D := o_aload 0 (o_getf 4 5 (o_iload 2 (o_isub (o_iret .int))))
theorem sX4_rewrite_62 {K : Nat → kv_D} (hK : ∀ pc, SX4_rewrite pc (K pc)) : SX4_rewrite 62 (fX4_rewrite_62 K) := k_aload_n dX4_rewrite_62 rfl (k_getf (C := RX4) (T := TX4) (N := 8) (ci := 4) (index := 41) (kf := 5) dX4_rewrite_63 rfl (fun w h => List.mem_cons_of_mem _ (inX4 w h)) (by decide) (List.mem_cons_of_mem _ mw_158) (k_iload_n dX4_rewrite_66 rfl (k_isub dX4_rewrite_67 (k_iret dX4_rewrite_68 rfl))))
theorem nX4_rewrite_62 : kv_cn (fun K => fX4_rewrite_62 K) := cn_aload 0 (cn_getf 4 5 (cn_iload 2 (cn_isub (cn_c _))))
def fX4_rewrite_50 (K : Nat → kv_D) : kv_D := o_aload 0 (o_iload 1 (o_callV 4 1 mX4_doAtCursor (o_istore 3 (o_iinc 4 1 ((K 21))))))
theorem sX4_rewrite_50 {K : Nat → kv_D} (hK : ∀ pc, SX4_rewrite pc (K pc)) : SX4_rewrite 50 (fX4_rewrite_50 K) := k_aload_n dX4_rewrite_50 rfl (k_iload_n dX4_rewrite_51 rfl (k_callV (q := (RX4, TX4, 8)) dX4_rewrite_52 cX4_doAtCursor_ct rfl (kv_goodV mw_330 mw_332 sel_X4_doAtCursor mw_1 mw_333) (by decide +kernel) rfl (by decide) (by decide) (k_istore_n dX4_rewrite_55 rfl (by decide) (k_iinc dX4_rewrite_56 (by decide +kernel) (by decide) (k_goto dX4_rewrite_59 rfl (hK 21))))))
theorem nX4_rewrite_50 : kv_cn (fun K => fX4_rewrite_50 K) := cn_aload 0 (cn_iload 1 (cn_callV 4 1 mX4_doAtCursor (cn_istore 3 (cn_iinc 4 1 ((cn_K 21))))))
def fX4_rewrite_33 (K : Nat → kv_D) : kv_D := o_aload 0 (o_getf 4 3 (o_getf 3 3 (o_aload 0 (o_getf 4 3 (o_getf 3 2 (o_icge (fX4_rewrite_62 K) (fX4_rewrite_50 K)))))))
theorem sX4_rewrite_33 {K : Nat → kv_D} (hK : ∀ pc, SX4_rewrite pc (K pc)) : SX4_rewrite 33 (fX4_rewrite_33 K) := k_aload_n dX4_rewrite_33 rfl (k_getf (C := RX4) (T := TX4) (N := 8) (ci := 4) (index := 30) (kf := 3) dX4_rewrite_34 rfl (fun w h => List.mem_cons_of_mem _ (inX4 w h)) (by decide) (List.mem_cons_of_mem _ mw_156) (k_getN (C := RX3) (T := TX3) (N := 4) (ci := 3) (index := 93) (kf := 3) dX4_rewrite_37 rfl (fun w h => List.mem_cons_of_mem _ (inX3 w h)) (by decide) mw_132 (k_aload_n dX4_rewrite_40 rfl (k_getf (C := RX4) (T := TX4) (N := 8) (ci := 4) (index := 30) (kf := 3) dX4_rewrite_41 rfl (fun w h => List.mem_cons_of_mem _ (inX4 w h)) (by decide) (List.mem_cons_of_mem _ mw_156) (k_getN (C := RX3) (T := TX3) (N := 4) (ci := 3) (index := 86) (kf := 2) dX4_rewrite_44 rfl (fun w h => List.mem_cons_of_mem _ (inX3 w h)) (by decide) mw_129 (k_icge dX4_rewrite_47 rfl (sX4_rewrite_62 hK) (sX4_rewrite_50 hK)))))))
theorem nX4_rewrite_33 : kv_cn (fun K => fX4_rewrite_33 K) := cn_aload 0 (cn_getf 4 3 (cn_getf 3 3 (cn_aload 0 (cn_getf 4 3 (cn_getf 3 2 (cn_icge nX4_rewrite_62 nX4_rewrite_50))))))
def fX4_rewrite_29 (K : Nat → kv_D) : kv_D := o_iload 3 (o_ifeq (fX4_rewrite_62 K) (fX4_rewrite_33 K))
theorem sX4_rewrite_29 {K : Nat → kv_D} (hK : ∀ pc, SX4_rewrite pc (K pc)) : SX4_rewrite 29 (fX4_rewrite_29 K) := k_iload_n dX4_rewrite_29 rfl (k_ifeq dX4_rewrite_30 rfl (sX4_rewrite_62 hK) (sX4_rewrite_33 hK))
theorem nX4_rewrite_29 : kv_cn (fun K => fX4_rewrite_29 K) := cn_iload 3 (cn_ifeq nX4_rewrite_62 nX4_rewrite_33)
def fX4_rewrite_21 (K : Nat → kv_D) : kv_D := o_iload 4 (o_const 161 (o_icge (fX4_rewrite_62 K) (fX4_rewrite_29 K)))
theorem sX4_rewrite_21 {K : Nat → kv_D} (hK : ∀ pc, SX4_rewrite pc (K pc)) : SX4_rewrite 21 (fX4_rewrite_21 K) := k_iload dX4_rewrite_21 (k_sipush dX4_rewrite_23 (by decide +kernel) (k_icge dX4_rewrite_26 rfl (sX4_rewrite_62 hK) (sX4_rewrite_29 hK)))
theorem nX4_rewrite_21 : kv_cn (fun K => fX4_rewrite_21 K) := cn_iload 4 (cn_const 161 (cn_icge nX4_rewrite_62 nX4_rewrite_29))
def fX4_rewrite_17 (K : Nat → kv_D) : kv_D := o_istore 3 (o_const 0 (o_istore 4 ((K 21))))
theorem sX4_rewrite_17 {K : Nat → kv_D} (hK : ∀ pc, SX4_rewrite pc (K pc)) : SX4_rewrite 17 (fX4_rewrite_17 K) := k_istore_n dX4_rewrite_17 rfl (by decide) (k_iconst dX4_rewrite_18 (by decide +kernel) (k_istore dX4_rewrite_19 (by decide) ((hK 21))))
theorem nX4_rewrite_17 : kv_cn (fun K => fX4_rewrite_17 K) := cn_istore 3 (cn_const 0 (cn_istore 4 ((cn_K 21))))
def fX4_rewrite_16 (K : Nat → kv_D) : kv_D := o_const 0 ((fX4_rewrite_17 K))
theorem sX4_rewrite_16 {K : Nat → kv_D} (hK : ∀ pc, SX4_rewrite pc (K pc)) : SX4_rewrite 16 (fX4_rewrite_16 K) := k_iconst dX4_rewrite_16 (by decide +kernel) ((sX4_rewrite_17 hK))
theorem nX4_rewrite_16 : kv_cn (fun K => fX4_rewrite_16 K) := cn_const 0 (nX4_rewrite_17)
def fX4_rewrite_12 (K : Nat → kv_D) : kv_D := o_const 1 ((fX4_rewrite_17 K))
theorem sX4_rewrite_12 {K : Nat → kv_D} (hK : ∀ pc, SX4_rewrite pc (K pc)) : SX4_rewrite 12 (fX4_rewrite_12 K) := k_iconst dX4_rewrite_12 (by decide +kernel) (k_goto dX4_rewrite_13 rfl (sX4_rewrite_17 hK))
theorem nX4_rewrite_12 : kv_cn (fun K => fX4_rewrite_12 K) := cn_const 1 (nX4_rewrite_17)
def fX4_rewrite_0 (K : Nat → kv_D) : kv_D := o_aload 0 (o_getf 4 5 (o_istore 2 (o_aload 0 (o_getf 4 7 (o_ifne (fX4_rewrite_16 K) (fX4_rewrite_12 K))))))
theorem sX4_rewrite_0 {K : Nat → kv_D} (hK : ∀ pc, SX4_rewrite pc (K pc)) : SX4_rewrite 0 (fX4_rewrite_0 K) := k_aload_n dX4_rewrite_0 rfl (k_getf (C := RX4) (T := TX4) (N := 8) (ci := 4) (index := 41) (kf := 5) dX4_rewrite_1 rfl (fun w h => List.mem_cons_of_mem _ (inX4 w h)) (by decide) (List.mem_cons_of_mem _ mw_158) (k_istore_n dX4_rewrite_4 rfl (by decide) (k_aload_n dX4_rewrite_5 rfl (k_getf (C := RX4) (T := TX4) (N := 8) (ci := 4) (index := 47) (kf := 7) dX4_rewrite_6 rfl (fun w h => List.mem_cons_of_mem _ (inX4 w h)) (by decide) (List.mem_cons_of_mem _ mw_160) (k_ifne dX4_rewrite_9 rfl (sX4_rewrite_16 hK) (sX4_rewrite_12 hK))))))
theorem nX4_rewrite_0 : kv_cn (fun K => fX4_rewrite_0 K) := cn_aload 0 (cn_getf 4 5 (cn_istore 2 (cn_aload 0 (cn_getf 4 7 (cn_ifne nX4_rewrite_16 nX4_rewrite_12)))))
def bX4_rewrite (K : Nat → kv_D) (pc : Nat) : kv_D := if pc = 21 then fX4_rewrite_21 K else fun _ _ _ _ _ => False
theorem hX4_rewrite : ∀ pc, SX4_rewrite pc (kv_lim (bX4_rewrite) pc) := kv_lim_S (fun K hK pc => by
  unfold bX4_rewrite
  by_cases q21 : pc = 21
  · rw [if_pos q21, q21]
    exact sX4_rewrite_21 hK
  rw [if_neg q21]
  exact kv_none)
theorem uX4_rewrite_21 {L : List (Option Value)} {st : List Value} {h : kv_H} {v : Option Value} {h' : kv_H} (hx : fX4_rewrite_21 (kv_lim (bX4_rewrite)) L st h v h') : kv_lim (bX4_rewrite) 21 L st h v h' := kv_un (q := 21) (by have e : (fun K => bX4_rewrite K 21) = fun K => fX4_rewrite_21 K := (by funext K; rfl); rw [e]; exact nX4_rewrite_21) (by have e : bX4_rewrite (kv_lim (bX4_rewrite)) 21 = fX4_rewrite_21 (kv_lim (bX4_rewrite)) := rfl; rw [e]; exact hx)
def mX4_rewrite : kv_M := kv_in 2 5 (fX4_rewrite_0 (kv_lim (bX4_rewrite)))
theorem cX4_rewrite_ct : kv_CT yX4_rewrite wX4_rewrite 5 122 mX4_rewrite := kv_met (by decide) rfl rfl (by decide) (fun h => by cases h) (sX4_rewrite_0 (hX4_rewrite))
-- X4_settle
def wX4_settle : List Cond := Cond.code yX4_settle cX4_settle 1 (some .int) :: kv_tb
abbrev SX4_settle (pc : Nat) (F : kv_D) : Prop := kv_S cX4_settle 1 RX4 wX4_settle (some .int) false 6 146 none pc F
def fX4_settle_0 : kv_D := o_aload 0 (o_const 0 (o_callV 4 1 mX4_rewrite (o_iret .int)))
theorem sX4_settle_0 : SX4_settle 0 (fX4_settle_0) := k_aload_n dX4_settle_0 rfl (k_iconst dX4_settle_1 (by decide +kernel) (k_callV (q := (RX4, TX4, 8)) dX4_settle_2 cX4_rewrite_ct rfl (kv_goodV mw_326 mw_328 sel_X4_rewrite mw_1 mw_329) (by decide +kernel) rfl (by decide) (by decide) (k_iret dX4_settle_5 rfl)))
def mX4_settle : kv_M := kv_in 1 1 (fX4_settle_0)
theorem cX4_settle_ct : kv_CT yX4_settle wX4_settle 6 146 mX4_settle := kv_met (by decide) rfl rfl (by decide) (fun h => by cases h) (sX4_settle_0)
-- X4_finish
def wX4_finish : List Cond := Cond.code yX4_finish cX4_finish 1 (some .int) :: kv_tb
abbrev SX4_finish (pc : Nat) (F : kv_D) : Prop := kv_S cX4_finish 1 RX4 wX4_finish (some .int) false 6 146 none pc F
def fX4_finish_0 : kv_D := o_aload 0 (o_const 1 (o_callV 4 1 mX4_rewrite (o_iret .int)))
theorem sX4_finish_0 : SX4_finish 0 (fX4_finish_0) := k_aload_n dX4_finish_0 rfl (k_iconst dX4_finish_1 (by decide +kernel) (k_callV (q := (RX4, TX4, 8)) dX4_finish_2 cX4_rewrite_ct rfl (kv_goodV mw_326 mw_328 sel_X4_rewrite mw_1 mw_329) (by decide +kernel) rfl (by decide) (by decide) (k_iret dX4_finish_5 rfl)))
def mX4_finish : kv_M := kv_in 1 1 (fX4_finish_0)
theorem cX4_finish_ct : kv_CT yX4_finish wX4_finish 6 146 mX4_finish := kv_met (by decide) rfl rfl (by decide) (fun h => by cases h) (sX4_finish_0)
-- X4_length
def wX4_length : List Cond := Cond.code yX4_length cX4_length 1 (some .int) :: kv_tb
abbrev SX4_length (pc : Nat) (F : kv_D) : Prop := kv_S cX4_length 1 RX4 wX4_length (some .int) false 0 0 none pc F
def fX4_length_0 : kv_D := o_aload 0 (o_getf 4 3 (o_getf 3 2 (o_iret .int)))
theorem sX4_length_0 : SX4_length 0 (fX4_length_0) := k_aload_n dX4_length_0 rfl (k_getf (C := RX4) (T := TX4) (N := 8) (ci := 4) (index := 30) (kf := 3) dX4_length_1 rfl (fun w h => List.mem_cons_of_mem _ (inX4 w h)) (by decide) (List.mem_cons_of_mem _ mw_156) (k_getN (C := RX3) (T := TX3) (N := 4) (ci := 3) (index := 86) (kf := 2) dX4_length_4 rfl (fun w h => List.mem_cons_of_mem _ (inX3 w h)) (by decide) mw_129 (k_iret dX4_length_7 rfl)))
def mX4_length : kv_M := kv_in 1 1 (fX4_length_0)
theorem cX4_length_ct : kv_CT yX4_length wX4_length 0 0 mX4_length := kv_met (by decide) rfl rfl (by decide) (fun h => by cases h) (sX4_length_0)
-- X4_letter
def wX4_letter : List Cond := Cond.code yX4_letter cX4_letter 2 (some .int) :: kv_tb
abbrev SX4_letter (pc : Nat) (F : kv_D) : Prop := kv_S cX4_letter 2 RX4 wX4_letter (some .int) false 0 0 none pc F
def fX4_letter_28 : kv_D := o_iret .int
theorem sX4_letter_28 : SX4_letter 28 (fX4_letter_28) := k_iret dX4_letter_28 rfl
def fX4_letter_27 : kv_D := o_const 0 ((fX4_letter_28))
theorem sX4_letter_27 : SX4_letter 27 (fX4_letter_27) := k_iconst dX4_letter_27 (by decide +kernel) ((sX4_letter_28))
def fX4_letter_15 : kv_D := o_aload 0 (o_getf 4 3 (o_getf 3 0 (o_iload 1 (o_iald 1 ((fX4_letter_28))))))
theorem sX4_letter_15 : SX4_letter 15 (fX4_letter_15) := k_aload_n dX4_letter_15 rfl (k_getf (C := RX4) (T := TX4) (N := 8) (ci := 4) (index := 30) (kf := 3) dX4_letter_16 rfl (fun w h => List.mem_cons_of_mem _ (inX4 w h)) (by decide) (List.mem_cons_of_mem _ mw_156) (k_getN (C := RX3) (T := TX3) (N := 4) (ci := 3) (index := 89) (kf := 0) dX4_letter_19 rfl (fun w h => List.mem_cons_of_mem _ (inX3 w h)) (by decide) mw_125 (k_iload_n dX4_letter_22 rfl (k_cald dX4_letter_23 rfl (k_goto dX4_letter_24 rfl (sX4_letter_28))))))
def fX4_letter_4 : kv_D := o_iload 1 (o_aload 0 (o_getf 4 3 (o_getf 3 2 (o_icge (fX4_letter_27) (fX4_letter_15)))))
theorem sX4_letter_4 : SX4_letter 4 (fX4_letter_4) := k_iload_n dX4_letter_4 rfl (k_aload_n dX4_letter_5 rfl (k_getf (C := RX4) (T := TX4) (N := 8) (ci := 4) (index := 30) (kf := 3) dX4_letter_6 rfl (fun w h => List.mem_cons_of_mem _ (inX4 w h)) (by decide) (List.mem_cons_of_mem _ mw_156) (k_getN (C := RX3) (T := TX3) (N := 4) (ci := 3) (index := 86) (kf := 2) dX4_letter_9 rfl (fun w h => List.mem_cons_of_mem _ (inX3 w h)) (by decide) mw_129 (k_icge dX4_letter_12 rfl (sX4_letter_27) (sX4_letter_15)))))
def fX4_letter_0 : kv_D := o_iload 1 (o_iflt (fX4_letter_27) (fX4_letter_4))
theorem sX4_letter_0 : SX4_letter 0 (fX4_letter_0) := k_iload_n dX4_letter_0 rfl (k_iflt dX4_letter_1 rfl (sX4_letter_27) (sX4_letter_4))
def mX4_letter : kv_M := kv_in 2 2 (fX4_letter_0)
theorem cX4_letter_ct : kv_CT yX4_letter wX4_letter 0 0 mX4_letter := kv_met (by decide) rfl rfl (by decide) (fun h => by cases h) (sX4_letter_0)
-- X4_cursor
def wX4_cursor : List Cond := Cond.code yX4_cursor cX4_cursor 1 (some .int) :: kv_tb
abbrev SX4_cursor (pc : Nat) (F : kv_D) : Prop := kv_S cX4_cursor 1 RX4 wX4_cursor (some .int) false 0 0 none pc F
def fX4_cursor_0 : kv_D := o_aload 0 (o_getf 4 3 (o_getf 3 3 (o_iret .int)))
theorem sX4_cursor_0 : SX4_cursor 0 (fX4_cursor_0) := k_aload_n dX4_cursor_0 rfl (k_getf (C := RX4) (T := TX4) (N := 8) (ci := 4) (index := 30) (kf := 3) dX4_cursor_1 rfl (fun w h => List.mem_cons_of_mem _ (inX4 w h)) (by decide) (List.mem_cons_of_mem _ mw_156) (k_getN (C := RX3) (T := TX3) (N := 4) (ci := 3) (index := 93) (kf := 3) dX4_cursor_4 rfl (fun w h => List.mem_cons_of_mem _ (inX3 w h)) (by decide) mw_132 (k_iret dX4_cursor_7 rfl)))
def mX4_cursor : kv_M := kv_in 1 1 (fX4_cursor_0)
theorem cX4_cursor_ct : kv_CT yX4_cursor wX4_cursor 0 0 mX4_cursor := kv_met (by decide) rfl rfl (by decide) (fun h => by cases h) (sX4_cursor_0)
-- X4_applied
def wX4_applied : List Cond := Cond.code yX4_applied cX4_applied 1 (some .int) :: kv_tb
abbrev SX4_applied (pc : Nat) (F : kv_D) : Prop := kv_S cX4_applied 1 RX4 wX4_applied (some .int) false 0 0 none pc F
def fX4_applied_0 : kv_D := o_aload 0 (o_getf 4 5 (o_iret .int))
theorem sX4_applied_0 : SX4_applied 0 (fX4_applied_0) := k_aload_n dX4_applied_0 rfl (k_getf (C := RX4) (T := TX4) (N := 8) (ci := 4) (index := 41) (kf := 5) dX4_applied_1 rfl (fun w h => List.mem_cons_of_mem _ (inX4 w h)) (by decide) (List.mem_cons_of_mem _ mw_158) (k_iret dX4_applied_4 rfl))
def mX4_applied : kv_M := kv_in 1 1 (fX4_applied_0)
theorem cX4_applied_ct : kv_CT yX4_applied wX4_applied 0 0 mX4_applied := kv_met (by decide) rfl rfl (by decide) (fun h => by cases h) (sX4_applied_0)
-- X4_latest
def wX4_latest : List Cond := Cond.code yX4_latest cX4_latest 1 (some .int) :: kv_tb
abbrev SX4_latest (pc : Nat) (F : kv_D) : Prop := kv_S cX4_latest 1 RX4 wX4_latest (some .int) false 0 0 none pc F
def fX4_latest_0 : kv_D := o_aload 0 (o_getf 4 6 (o_iret .int))
theorem sX4_latest_0 : SX4_latest 0 (fX4_latest_0) := k_aload_n dX4_latest_0 rfl (k_getf (C := RX4) (T := TX4) (N := 8) (ci := 4) (index := 44) (kf := 6) dX4_latest_1 rfl (fun w h => List.mem_cons_of_mem _ (inX4 w h)) (by decide) (List.mem_cons_of_mem _ mw_159) (k_iret dX4_latest_4 rfl))
def mX4_latest : kv_M := kv_in 1 1 (fX4_latest_0)
theorem cX4_latest_ct : kv_CT yX4_latest wX4_latest 0 0 mX4_latest := kv_met (by decide) rfl rfl (by decide) (fun h => by cases h) (sX4_latest_0)
-- X4_stuck
def wX4_stuck : List Cond := Cond.code yX4_stuck cX4_stuck 1 (some .boolean) :: kv_tb
abbrev SX4_stuck (pc : Nat) (F : kv_D) : Prop := kv_S cX4_stuck 1 RX4 wX4_stuck (some .boolean) false 0 0 none pc F
def fX4_stuck_0 : kv_D := o_aload 0 (o_getf 4 7 (o_iret .boolean))
theorem sX4_stuck_0 : SX4_stuck 0 (fX4_stuck_0) := k_aload_n dX4_stuck_0 rfl (k_getf (C := RX4) (T := TX4) (N := 8) (ci := 4) (index := 47) (kf := 7) dX4_stuck_1 rfl (fun w h => List.mem_cons_of_mem _ (inX4 w h)) (by decide) (List.mem_cons_of_mem _ mw_160) (k_iret dX4_stuck_4 rfl))
def mX4_stuck : kv_M := kv_in 1 1 (fX4_stuck_0)
theorem cX4_stuck_ct : kv_CT yX4_stuck wX4_stuck 0 0 mX4_stuck := kv_met (by decide) rfl rfl (by decide) (fun h => by cases h) (sX4_stuck_0)
-- X4_probe
def wX4_probe : List Cond := Cond.code yX4_probe cX4_probe 3 (some .int) :: kv_tb
abbrev SX4_probe (pc : Nat) (F : kv_D) : Prop := kv_S cX4_probe 3 RX4 wX4_probe (some .int) false 3 74 none pc F
def fX4_probe_14 : kv_D := o_aload 0 (o_getf 4 4 (o_aload 0 (o_getf 4 1 (o_iload 1 (o_aald 2 (o_aload 0 (o_getf 4 3 (o_iload 2 (o_callV 0 3 mX0_run (o_iret .int))))))))))
theorem sX4_probe_14 : SX4_probe 14 (fX4_probe_14) := k_aload_n dX4_probe_14 rfl (k_getf (C := RX4) (T := TX4) (N := 8) (ci := 4) (index := 37) (kf := 4) dX4_probe_15 rfl (fun w h => List.mem_cons_of_mem _ (inX4 w h)) (by decide) (List.mem_cons_of_mem _ mw_157) (k_aload_n dX4_probe_18 rfl (k_getf (C := RX4) (T := TX4) (N := 8) (ci := 4) (index := 18) (kf := 1) dX4_probe_19 rfl (fun w h => List.mem_cons_of_mem _ (inX4 w h)) (by decide) (List.mem_cons_of_mem _ mw_154) (k_iload_n dX4_probe_22 rfl (k_aald dX4_probe_23 rfl (k_aload_n dX4_probe_24 rfl (k_getf (C := RX4) (T := TX4) (N := 8) (ci := 4) (index := 30) (kf := 3) dX4_probe_25 rfl (fun w h => List.mem_cons_of_mem _ (inX4 w h)) (by decide) (List.mem_cons_of_mem _ mw_156) (k_iload_n dX4_probe_28 rfl (k_callV (q := (RX0, TX0, 1)) dX4_probe_29 cX0_run_ct rfl (kv_goodV mw_334 mw_335 mw_336 mw_5 mw_337) (by decide +kernel) rfl (by decide) (by decide) (k_iret dX4_probe_32 rfl))))))))))
def fX4_probe_12 : kv_D := o_const (-1) (o_iret .int)
theorem sX4_probe_12 : SX4_probe 12 (fX4_probe_12) := k_iconst dX4_probe_12 (by decide +kernel) (k_iret dX4_probe_13 rfl)
def fX4_probe_4 : kv_D := o_iload 1 (o_aload 0 (o_getf 4 2 (o_iclt (fX4_probe_14) (fX4_probe_12))))
theorem sX4_probe_4 : SX4_probe 4 (fX4_probe_4) := k_iload_n dX4_probe_4 rfl (k_aload_n dX4_probe_5 rfl (k_getf (C := RX4) (T := TX4) (N := 8) (ci := 4) (index := 23) (kf := 2) dX4_probe_6 rfl (fun w h => List.mem_cons_of_mem _ (inX4 w h)) (by decide) (List.mem_cons_of_mem _ mw_155) (k_iclt dX4_probe_9 rfl (sX4_probe_14) (sX4_probe_12))))
def fX4_probe_0 : kv_D := o_iload 1 (o_iflt (fX4_probe_12) (fX4_probe_4))
theorem sX4_probe_0 : SX4_probe 0 (fX4_probe_0) := k_iload_n dX4_probe_0 rfl (k_iflt dX4_probe_1 rfl (sX4_probe_12) (sX4_probe_4))
def mX4_probe : kv_M := kv_in 3 3 (fX4_probe_0)
theorem cX4_probe_ct : kv_CT yX4_probe wX4_probe 3 74 mX4_probe := kv_met (by decide) rfl rfl (by decide) (fun h => by cases h) (sX4_probe_0)
