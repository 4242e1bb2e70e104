theorem dX5_row_207 : decode cX5_row 207 = .ok (.ireturn, 1) := by decide +kernel
theorem dX5_row_206 : decode cX5_row 206 = .ok (.iconst 0, 1) := by decide +kernel
theorem dX5_row_202 : decode cX5_row 202 = .ok (.iconst 1, 1) := by decide +kernel
theorem dX5_row_203 : decode cX5_row 203 = .ok (.goto 4, 3) := by decide +kernel
theorem dX5_row_197 : decode cX5_row 197 = .ok (.iload 5, 2) := by decide +kernel
theorem dX5_row_199 : decode cX5_row 199 = .ok (.ifCond .ne 7, 3) := by decide +kernel
theorem dX5_row_194 : decode cX5_row 194 = .ok (.goto (-185), 3) := by decide +kernel
theorem dX5_row_192 : decode cX5_row 192 = .ok (.iconst 0, 1) := by decide +kernel
theorem dX5_row_193 : decode cX5_row 193 = .ok (.ireturn, 1) := by decide +kernel
theorem dX5_row_184 : decode cX5_row 184 = .ok (.iload 5, 2) := by decide +kernel
theorem dX5_row_186 : decode cX5_row 186 = .ok (.invokevirtual 108, 3) := by decide +kernel
theorem dX5_row_189 : decode cX5_row 189 = .ok (.ifCond .ne 5, 3) := by decide +kernel
theorem dX5_row_183 : decode cX5_row 183 = .ok (.iconst 0, 1) := by decide +kernel
theorem dX5_row_178 : decode cX5_row 178 = .ok (.iload 9, 2) := by decide +kernel
theorem dX5_row_180 : decode cX5_row 180 = .ok (.goto 4, 3) := by decide +kernel
theorem dX5_row_168 : decode cX5_row 168 = .ok (.istore 4, 2) := by decide +kernel
theorem dX5_row_170 : decode cX5_row 170 = .ok (.aload_n 0, 1) := by decide +kernel
theorem dX5_row_171 : decode cX5_row 171 = .ok (.iload 8, 2) := by decide +kernel
theorem dX5_row_173 : decode cX5_row 173 = .ok (.iload 10, 2) := by decide +kernel
theorem dX5_row_175 : decode cX5_row 175 = .ok (.ifCond .eq 8, 3) := by decide +kernel
theorem dX5_row_166 : decode cX5_row 166 = .ok (.iload 4, 2) := by decide +kernel
theorem dX5_row_159 : decode cX5_row 159 = .ok (.iload 4, 2) := by decide +kernel
theorem dX5_row_161 : decode cX5_row 161 = .ok (.iconst 1, 1) := by decide +kernel
theorem dX5_row_162 : decode cX5_row 162 = .ok (.iadd, 1) := by decide +kernel
theorem dX5_row_163 : decode cX5_row 163 = .ok (.goto 5, 3) := by decide +kernel
theorem dX5_row_152 : decode cX5_row 152 = .ok (.istore 10, 2) := by decide +kernel
theorem dX5_row_154 : decode cX5_row 154 = .ok (.iload 10, 2) := by decide +kernel
theorem dX5_row_156 : decode cX5_row 156 = .ok (.ifCond .eq 10, 3) := by decide +kernel
theorem dX5_row_151 : decode cX5_row 151 = .ok (.iconst 0, 1) := by decide +kernel
theorem dX5_row_147 : decode cX5_row 147 = .ok (.iconst 1, 1) := by decide +kernel
theorem dX5_row_148 : decode cX5_row 148 = .ok (.goto 4, 3) := by decide +kernel
theorem dX5_row_140 : decode cX5_row 140 = .ok (.iload 9, 2) := by decide +kernel
theorem dX5_row_142 : decode cX5_row 142 = .ok (.bipush 63, 2) := by decide +kernel
theorem dX5_row_144 : decode cX5_row 144 = .ok (.if_icmp .ne 7, 3) := by decide +kernel
theorem dX5_row_133 : decode cX5_row 133 = .ok (.iload 9, 2) := by decide +kernel
theorem dX5_row_135 : decode cX5_row 135 = .ok (.bipush 43, 2) := by decide +kernel
theorem dX5_row_137 : decode cX5_row 137 = .ok (.if_icmp .eq 10, 3) := by decide +kernel
theorem dX5_row_102 : decode cX5_row 102 = .ok (.aload_n 0, 1) := by decide +kernel
theorem dX5_row_103 : decode cX5_row 103 = .ok (.iload 4, 2) := by decide +kernel
theorem dX5_row_105 : decode cX5_row 105 = .ok (.iload_n 2, 1) := by decide +kernel
theorem dX5_row_106 : decode cX5_row 106 = .ok (.invokevirtual 105, 3) := by decide +kernel
theorem dX5_row_109 : decode cX5_row 109 = .ok (.istore 8, 2) := by decide +kernel
theorem dX5_row_111 : decode cX5_row 111 = .ok (.aload_n 0, 1) := by decide +kernel
theorem dX5_row_112 : decode cX5_row 112 = .ok (.getfield 85, 3) := by decide +kernel
theorem dX5_row_115 : decode cX5_row 115 = .ok (.istore 4, 2) := by decide +kernel
theorem dX5_row_117 : decode cX5_row 117 = .ok (.aload_n 0, 1) := by decide +kernel
theorem dX5_row_118 : decode cX5_row 118 = .ok (.iload 4, 2) := by decide +kernel
theorem dX5_row_120 : decode cX5_row 120 = .ok (.iload_n 2, 1) := by decide +kernel
theorem dX5_row_121 : decode cX5_row 121 = .ok (.invokevirtual 77, 3) := by decide +kernel
theorem dX5_row_124 : decode cX5_row 124 = .ok (.istore 9, 2) := by decide +kernel
theorem dX5_row_126 : decode cX5_row 126 = .ok (.iload 9, 2) := by decide +kernel
theorem dX5_row_128 : decode cX5_row 128 = .ok (.bipush 42, 2) := by decide +kernel
theorem dX5_row_130 : decode cX5_row 130 = .ok (.if_icmp .eq 17, 3) := by decide +kernel
theorem dX5_row_93 : decode cX5_row 93 = .ok (.iconst 0, 1) := by decide +kernel
theorem dX5_row_94 : decode cX5_row 94 = .ok (.istore 5, 2) := by decide +kernel
theorem dX5_row_96 : decode cX5_row 96 = .ok (.iinc 4 1, 3) := by decide +kernel
theorem dX5_row_99 : decode cX5_row 99 = .ok (.goto 95, 3) := by decide +kernel
theorem dX5_row_91 : decode cX5_row 91 = .ok (.iconst 0, 1) := by decide +kernel
theorem dX5_row_92 : decode cX5_row 92 = .ok (.ireturn, 1) := by decide +kernel
theorem dX5_row_82 : decode cX5_row 82 = .ok (.iload 6, 2) := by decide +kernel
theorem dX5_row_84 : decode cX5_row 84 = .ok (.aload_n 0, 1) := by decide +kernel
theorem dX5_row_85 : decode cX5_row 85 = .ok (.getfield 99, 3) := by decide +kernel
theorem dX5_row_88 : decode cX5_row 88 = .ok (.if_icmp .ne 5, 3) := by decide +kernel
theorem dX5_row_77 : decode cX5_row 77 = .ok (.iload 5, 2) := by decide +kernel
theorem dX5_row_79 : decode cX5_row 79 = .ok (.ifCond .eq 12, 3) := by decide +kernel
theorem dX5_row_70 : decode cX5_row 70 = .ok (.iload 7, 2) := by decide +kernel
theorem dX5_row_72 : decode cX5_row 72 = .ok (.bipush 41, 2) := by decide +kernel
theorem dX5_row_74 : decode cX5_row 74 = .ok (.if_icmp .ne 28, 3) := by decide +kernel
theorem dX5_row_42 : decode cX5_row 42 = .ok (.aload_n 0, 1) := by decide +kernel
theorem dX5_row_43 : decode cX5_row 43 = .ok (.dup, 1) := by decide +kernel
theorem dX5_row_44 : decode cX5_row 44 = .ok (.getfield 102, 3) := by decide +kernel
theorem dX5_row_47 : decode cX5_row 47 = .ok (.iconst 1, 1) := by decide +kernel
theorem dX5_row_48 : decode cX5_row 48 = .ok (.iadd, 1) := by decide +kernel
theorem dX5_row_49 : decode cX5_row 49 = .ok (.putfield 102, 3) := by decide +kernel
theorem dX5_row_52 : decode cX5_row 52 = .ok (.aload_n 0, 1) := by decide +kernel
theorem dX5_row_53 : decode cX5_row 53 = .ok (.getfield 102, 3) := by decide +kernel
theorem dX5_row_56 : decode cX5_row 56 = .ok (.istore 5, 2) := by decide +kernel
theorem dX5_row_58 : decode cX5_row 58 = .ok (.aload_n 0, 1) := by decide +kernel
theorem dX5_row_59 : decode cX5_row 59 = .ok (.getfield 99, 3) := by decide +kernel
theorem dX5_row_62 : decode cX5_row 62 = .ok (.istore 6, 2) := by decide +kernel
theorem dX5_row_64 : decode cX5_row 64 = .ok (.iinc 4 1, 3) := by decide +kernel
theorem dX5_row_67 : decode cX5_row 67 = .ok (.goto 127, 3) := by decide +kernel
theorem dX5_row_40 : decode cX5_row 40 = .ok (.iconst 0, 1) := by decide +kernel
theorem dX5_row_41 : decode cX5_row 41 = .ok (.ireturn, 1) := by decide +kernel
theorem dX5_row_35 : decode cX5_row 35 = .ok (.iload 5, 2) := by decide +kernel
theorem dX5_row_37 : decode cX5_row 37 = .ok (.ifCond .le 5, 3) := by decide +kernel
theorem dX5_row_31 : decode cX5_row 31 = .ok (.iload_n 3, 1) := by decide +kernel
theorem dX5_row_32 : decode cX5_row 32 = .ok (.ifCond .eq 8, 3) := by decide +kernel
theorem dX5_row_15 : decode cX5_row 15 = .ok (.aload_n 0, 1) := by decide +kernel
theorem dX5_row_16 : decode cX5_row 16 = .ok (.getfield 7, 3) := by decide +kernel
theorem dX5_row_19 : decode cX5_row 19 = .ok (.iload 4, 2) := by decide +kernel
theorem dX5_row_21 : decode cX5_row 21 = .ok (.iaload, 1) := by decide +kernel
theorem dX5_row_22 : decode cX5_row 22 = .ok (.istore 7, 2) := by decide +kernel
theorem dX5_row_24 : decode cX5_row 24 = .ok (.iload 7, 2) := by decide +kernel
theorem dX5_row_26 : decode cX5_row 26 = .ok (.bipush 40, 2) := by decide +kernel
theorem dX5_row_28 : decode cX5_row 28 = .ok (.if_icmp .ne 42, 3) := by decide +kernel
theorem dX5_row_9 : decode cX5_row 9 = .ok (.iload 4, 2) := by decide +kernel
theorem dX5_row_11 : decode cX5_row 11 = .ok (.iload_n 2, 1) := by decide +kernel
theorem dX5_row_12 : decode cX5_row 12 = .ok (.if_icmp .ge 185, 3) := by decide +kernel
theorem dX5_row_0 : decode cX5_row 0 = .ok (.iload_n 1, 1) := by decide +kernel
theorem dX5_row_1 : decode cX5_row 1 = .ok (.istore 4, 2) := by decide +kernel
theorem dX5_row_3 : decode cX5_row 3 = .ok (.iconst 0, 1) := by decide +kernel
theorem dX5_row_4 : decode cX5_row 4 = .ok (.istore 5, 2) := by decide +kernel
theorem dX5_row_6 : decode cX5_row 6 = .ok (.iconst 0, 1) := by decide +kernel
theorem dX5_row_7 : decode cX5_row 7 = .ok (.istore 6, 2) := by decide +kernel
theorem dX5_plain_58 : decode cX5_plain 58 = .ok (.iload_n 2, 1) := by decide +kernel
theorem dX5_plain_59 : decode cX5_plain 59 = .ok (.ireturn, 1) := by decide +kernel
theorem dX5_plain_51 : decode cX5_plain 51 = .ok (.istore_n 2, 1) := by decide +kernel
theorem dX5_plain_52 : decode cX5_plain 52 = .ok (.iinc 3 1, 3) := by decide +kernel
theorem dX5_plain_55 : decode cX5_plain 55 = .ok (.goto (-48), 3) := by decide +kernel
theorem dX5_plain_50 : decode cX5_plain 50 = .ok (.iconst 0, 1) := by decide +kernel
theorem dX5_plain_46 : decode cX5_plain 46 = .ok (.iconst 1, 1) := by decide +kernel
theorem dX5_plain_47 : decode cX5_plain 47 = .ok (.goto 4, 3) := by decide +kernel
theorem dX5_plain_36 : decode cX5_plain 36 = .ok (.aload_n 0, 1) := by decide +kernel
theorem dX5_plain_37 : decode cX5_plain 37 = .ok (.getfield 43, 3) := by decide +kernel
theorem dX5_plain_40 : decode cX5_plain 40 = .ok (.iload_n 3, 1) := by decide +kernel
theorem dX5_plain_41 : decode cX5_plain 41 = .ok (.iaload, 1) := by decide +kernel
theorem dX5_plain_42 : decode cX5_plain 42 = .ok (.iconst 1, 1) := by decide +kernel
theorem dX5_plain_43 : decode cX5_plain 43 = .ok (.if_icmp .ne 7, 3) := by decide +kernel
theorem dX5_plain_26 : decode cX5_plain 26 = .ok (.aload_n 0, 1) := by decide +kernel
theorem dX5_plain_27 : decode cX5_plain 27 = .ok (.getfield 40, 3) := by decide +kernel
theorem dX5_plain_30 : decode cX5_plain 30 = .ok (.iload_n 3, 1) := by decide +kernel
theorem dX5_plain_31 : decode cX5_plain 31 = .ok (.iaload, 1) := by decide +kernel
theorem dX5_plain_32 : decode cX5_plain 32 = .ok (.iconst 1, 1) := by decide +kernel
theorem dX5_plain_33 : decode cX5_plain 33 = .ok (.if_icmp .ne 17, 3) := by decide +kernel
theorem dX5_plain_22 : decode cX5_plain 22 = .ok (.iload_n 2, 1) := by decide +kernel
theorem dX5_plain_23 : decode cX5_plain 23 = .ok (.ifCond .eq 27, 3) := by decide +kernel
theorem dX5_plain_7 : decode cX5_plain 7 = .ok (.iload_n 3, 1) := by decide +kernel
theorem dX5_plain_8 : decode cX5_plain 8 = .ok (.bipush 12, 2) := by decide +kernel
theorem dX5_plain_10 : decode cX5_plain 10 = .ok (.iload_n 1, 1) := by decide +kernel
theorem dX5_plain_11 : decode cX5_plain 11 = .ok (.imul, 1) := by decide +kernel
theorem dX5_plain_12 : decode cX5_plain 12 = .ok (.aload_n 0, 1) := by decide +kernel
theorem dX5_plain_13 : decode cX5_plain 13 = .ok (.getfield 34, 3) := by decide +kernel
theorem dX5_plain_16 : decode cX5_plain 16 = .ok (.iload_n 1, 1) := by decide +kernel
theorem dX5_plain_17 : decode cX5_plain 17 = .ok (.iaload, 1) := by decide +kernel
theorem dX5_plain_18 : decode cX5_plain 18 = .ok (.iadd, 1) := by decide +kernel
theorem dX5_plain_19 : decode cX5_plain 19 = .ok (.if_icmp .ge 39, 3) := by decide +kernel
theorem dX5_plain_0 : decode cX5_plain 0 = .ok (.iconst 1, 1) := by decide +kernel
theorem dX5_plain_1 : decode cX5_plain 1 = .ok (.istore_n 2, 1) := by decide +kernel
theorem dX5_plain_2 : decode cX5_plain 2 = .ok (.bipush 12, 2) := by decide +kernel
theorem dX5_plain_4 : decode cX5_plain 4 = .ok (.iload_n 1, 1) := by decide +kernel
theorem dX5_plain_5 : decode cX5_plain 5 = .ok (.imul, 1) := by decide +kernel
theorem dX5_plain_6 : decode cX5_plain 6 = .ok (.istore_n 3, 1) := by decide +kernel
theorem dX5_masks_128 : decode cX5_masks 128 = .ok (.iconst 1, 1) := by decide +kernel
theorem dX5_masks_129 : decode cX5_masks 129 = .ok (.ireturn, 1) := by decide +kernel
theorem dX5_masks_122 : decode cX5_masks 122 = .ok (.iinc 3 1, 3) := by decide +kernel
theorem dX5_masks_125 : decode cX5_masks 125 = .ok (.goto (-61), 3) := by decide +kernel
theorem dX5_masks_120 : decode cX5_masks 120 = .ok (.iconst 0, 1) := by decide +kernel
theorem dX5_masks_121 : decode cX5_masks 121 = .ok (.ireturn, 1) := by decide +kernel
theorem dX5_masks_74 : decode cX5_masks 74 = .ok (.bipush 12, 2) := by decide +kernel
theorem dX5_masks_76 : decode cX5_masks 76 = .ok (.iload_n 2, 1) := by decide +kernel
theorem dX5_masks_77 : decode cX5_masks 77 = .ok (.imul, 1) := by decide +kernel
theorem dX5_masks_78 : decode cX5_masks 78 = .ok (.aload_n 0, 1) := by decide +kernel
theorem dX5_masks_79 : decode cX5_masks 79 = .ok (.getfield 28, 3) := by decide +kernel
theorem dX5_masks_82 : decode cX5_masks 82 = .ok (.iload_n 2, 1) := by decide +kernel
theorem dX5_masks_83 : decode cX5_masks 83 = .ok (.iaload, 1) := by decide +kernel
theorem dX5_masks_84 : decode cX5_masks 84 = .ok (.iadd, 1) := by decide +kernel
theorem dX5_masks_85 : decode cX5_masks 85 = .ok (.iload_n 3, 1) := by decide +kernel
theorem dX5_masks_86 : decode cX5_masks 86 = .ok (.iadd, 1) := by decide +kernel
theorem dX5_masks_87 : decode cX5_masks 87 = .ok (.aload_n 0, 1) := by decide +kernel
theorem dX5_masks_88 : decode cX5_masks 88 = .ok (.getfield 28, 3) := by decide +kernel
theorem dX5_masks_91 : decode cX5_masks 91 = .ok (.iload_n 1, 1) := by decide +kernel
theorem dX5_masks_92 : decode cX5_masks 92 = .ok (.iaload, 1) := by decide +kernel
theorem dX5_masks_93 : decode cX5_masks 93 = .ok (.isub, 1) := by decide +kernel
theorem dX5_masks_94 : decode cX5_masks 94 = .ok (.istore 4, 2) := by decide +kernel
theorem dX5_masks_96 : decode cX5_masks 96 = .ok (.aload_n 0, 1) := by decide +kernel
theorem dX5_masks_97 : decode cX5_masks 97 = .ok (.getfield 37, 3) := by decide +kernel
theorem dX5_masks_100 : decode cX5_masks 100 = .ok (.iload 4, 2) := by decide +kernel
theorem dX5_masks_102 : decode cX5_masks 102 = .ok (.iaload, 1) := by decide +kernel
theorem dX5_masks_103 : decode cX5_masks 103 = .ok (.aload_n 0, 1) := by decide +kernel
theorem dX5_masks_104 : decode cX5_masks 104 = .ok (.getfield 37, 3) := by decide +kernel
theorem dX5_masks_107 : decode cX5_masks 107 = .ok (.bipush 12, 2) := by decide +kernel
theorem dX5_masks_109 : decode cX5_masks 109 = .ok (.iload_n 1, 1) := by decide +kernel
theorem dX5_masks_110 : decode cX5_masks 110 = .ok (.imul, 1) := by decide +kernel
theorem dX5_masks_111 : decode cX5_masks 111 = .ok (.iload_n 3, 1) := by decide +kernel
theorem dX5_masks_112 : decode cX5_masks 112 = .ok (.iadd, 1) := by decide +kernel
theorem dX5_masks_113 : decode cX5_masks 113 = .ok (.iaload, 1) := by decide +kernel
theorem dX5_masks_114 : decode cX5_masks 114 = .ok (.iconst (-1), 1) := by decide +kernel
theorem dX5_masks_115 : decode cX5_masks 115 = .ok (.ixor, 1) := by decide +kernel
theorem dX5_masks_116 : decode cX5_masks 116 = .ok (.iand, 1) := by decide +kernel
theorem dX5_masks_117 : decode cX5_masks 117 = .ok (.ifCond .eq 5, 3) := by decide +kernel
theorem dX5_masks_64 : decode cX5_masks 64 = .ok (.iload_n 3, 1) := by decide +kernel
theorem dX5_masks_65 : decode cX5_masks 65 = .ok (.aload_n 0, 1) := by decide +kernel
theorem dX5_masks_66 : decode cX5_masks 66 = .ok (.getfield 34, 3) := by decide +kernel
theorem dX5_masks_69 : decode cX5_masks 69 = .ok (.iload_n 1, 1) := by decide +kernel
theorem dX5_masks_70 : decode cX5_masks 70 = .ok (.iaload, 1) := by decide +kernel
theorem dX5_masks_71 : decode cX5_masks 71 = .ok (.if_icmp .ge 57, 3) := by decide +kernel
theorem dX5_masks_62 : decode cX5_masks 62 = .ok (.iconst 0, 1) := by decide +kernel
theorem dX5_masks_63 : decode cX5_masks 63 = .ok (.istore_n 3, 1) := by decide +kernel
theorem dX5_masks_60 : decode cX5_masks 60 = .ok (.iconst 0, 1) := by decide +kernel
theorem dX5_masks_61 : decode cX5_masks 61 = .ok (.ireturn, 1) := by decide +kernel
theorem dX5_masks_31 : decode cX5_masks 31 = .ok (.aload_n 0, 1) := by decide +kernel
theorem dX5_masks_32 : decode cX5_masks 32 = .ok (.getfield 34, 3) := by decide +kernel
theorem dX5_masks_35 : decode cX5_masks 35 = .ok (.iload_n 1, 1) := by decide +kernel
theorem dX5_masks_36 : decode cX5_masks 36 = .ok (.iaload, 1) := by decide +kernel
theorem dX5_masks_37 : decode cX5_masks 37 = .ok (.aload_n 0, 1) := by decide +kernel
theorem dX5_masks_38 : decode cX5_masks 38 = .ok (.getfield 28, 3) := by decide +kernel
theorem dX5_masks_41 : decode cX5_masks 41 = .ok (.iload_n 1, 1) := by decide +kernel
theorem dX5_masks_42 : decode cX5_masks 42 = .ok (.iaload, 1) := by decide +kernel
theorem dX5_masks_43 : decode cX5_masks 43 = .ok (.isub, 1) := by decide +kernel
theorem dX5_masks_44 : decode cX5_masks 44 = .ok (.aload_n 0, 1) := by decide +kernel
theorem dX5_masks_45 : decode cX5_masks 45 = .ok (.getfield 34, 3) := by decide +kernel
theorem dX5_masks_48 : decode cX5_masks 48 = .ok (.iload_n 2, 1) := by decide +kernel
theorem dX5_masks_49 : decode cX5_masks 49 = .ok (.iaload, 1) := by decide +kernel
theorem dX5_masks_50 : decode cX5_masks 50 = .ok (.aload_n 0, 1) := by decide +kernel
theorem dX5_masks_51 : decode cX5_masks 51 = .ok (.getfield 28, 3) := by decide +kernel
theorem dX5_masks_54 : decode cX5_masks 54 = .ok (.iload_n 2, 1) := by decide +kernel
theorem dX5_masks_55 : decode cX5_masks 55 = .ok (.iaload, 1) := by decide +kernel
theorem dX5_masks_56 : decode cX5_masks 56 = .ok (.isub, 1) := by decide +kernel
theorem dX5_masks_57 : decode cX5_masks 57 = .ok (.if_icmp .le 5, 3) := by decide +kernel
theorem dX5_masks_16 : decode cX5_masks 16 = .ok (.aload_n 0, 1) := by decide +kernel
theorem dX5_masks_17 : decode cX5_masks 17 = .ok (.getfield 28, 3) := by decide +kernel
theorem dX5_masks_20 : decode cX5_masks 20 = .ok (.iload_n 1, 1) := by decide +kernel
theorem dX5_masks_21 : decode cX5_masks 21 = .ok (.iaload, 1) := by decide +kernel
theorem dX5_masks_22 : decode cX5_masks 22 = .ok (.aload_n 0, 1) := by decide +kernel
theorem dX5_masks_23 : decode cX5_masks 23 = .ok (.getfield 28, 3) := by decide +kernel
theorem dX5_masks_26 : decode cX5_masks 26 = .ok (.iload_n 2, 1) := by decide +kernel
theorem dX5_masks_27 : decode cX5_masks 27 = .ok (.iaload, 1) := by decide +kernel
theorem dX5_masks_28 : decode cX5_masks 28 = .ok (.if_icmp .gt 32, 3) := by decide +kernel
theorem dX5_masks_8 : decode cX5_masks 8 = .ok (.aload_n 0, 1) := by decide +kernel
theorem dX5_masks_9 : decode cX5_masks 9 = .ok (.iload_n 2, 1) := by decide +kernel
theorem dX5_masks_10 : decode cX5_masks 10 = .ok (.invokevirtual 141, 3) := by decide +kernel
theorem dX5_masks_13 : decode cX5_masks 13 = .ok (.ifCond .eq 47, 3) := by decide +kernel
theorem dX5_masks_0 : decode cX5_masks 0 = .ok (.aload_n 0, 1) := by decide +kernel
theorem dX5_masks_1 : decode cX5_masks 1 = .ok (.iload_n 1, 1) := by decide +kernel
theorem dX5_masks_2 : decode cX5_masks 2 = .ok (.invokevirtual 141, 3) := by decide +kernel
theorem dX5_masks_5 : decode cX5_masks 5 = .ok (.ifCond .eq 55, 3) := by decide +kernel
-- X5_row
def wX5_row : List Cond := Cond.code yX5_row cX5_row 11 (some .boolean) :: kv_tb
abbrev SX5_row (pc : Nat) (F : kv_D) : Prop := kv_S cX5_row 11 RX5 wX5_row (some .boolean) false 3 74 none pc F
def fX5_row_207 (K : Nat → kv_D) : kv_D := o_iret .boolean
theorem sX5_row_207 {K : Nat → kv_D} (hK : ∀ pc, SX5_row pc (K pc)) : SX5_row 207 (fX5_row_207 K) := k_iret dX5_row_207 rfl
theorem nX5_row_207 : kv_cn (fun K => fX5_row_207 K) := cn_c _
def fX5_row_206 (K : Nat → kv_D) : kv_D := o_const 0 ((fX5_row_207 K))
theorem sX5_row_206 {K : Nat → kv_D} (hK : ∀ pc, SX5_row pc (K pc)) : SX5_row 206 (fX5_row_206 K) := k_iconst dX5_row_206 (by decide +kernel) ((sX5_row_207 hK))
theorem nX5_row_206 : kv_cn (fun K => fX5_row_206 K) := cn_const 0 (nX5_row_207)
def fX5_row_202 (K : Nat → kv_D) : kv_D := o_const 1 ((fX5_row_207 K))
theorem sX5_row_202 {K : Nat → kv_D} (hK : ∀ pc, SX5_row pc (K pc)) : SX5_row 202 (fX5_row_202 K) := k_iconst dX5_row_202 (by decide +kernel) (k_goto dX5_row_203 rfl (sX5_row_207 hK))
theorem nX5_row_202 : kv_cn (fun K => fX5_row_202 K) := cn_const 1 (nX5_row_207)
def fX5_row_197 (K : Nat → kv_D) : kv_D := o_iload 5 (o_ifne (fX5_row_206 K) (fX5_row_202 K))
theorem sX5_row_197 {K : Nat → kv_D} (hK : ∀ pc, SX5_row pc (K pc)) : SX5_row 197 (fX5_row_197 K) := k_iload dX5_row_197 (k_ifne dX5_row_199 rfl (sX5_row_206 hK) (sX5_row_202 hK))
theorem nX5_row_197 : kv_cn (fun K => fX5_row_197 K) := cn_iload 5 (cn_ifne nX5_row_206 nX5_row_202)
def fX5_row_194 (K : Nat → kv_D) : kv_D := (K 9)
theorem sX5_row_194 {K : Nat → kv_D} (hK : ∀ pc, SX5_row pc (K pc)) : SX5_row 194 (fX5_row_194 K) := k_goto dX5_row_194 rfl (hK 9)
theorem nX5_row_194 : kv_cn (fun K => fX5_row_194 K) := (cn_K 9)
def fX5_row_192 (K : Nat → kv_D) : kv_D := o_const 0 (o_iret .boolean)
theorem sX5_row_192 {K : Nat → kv_D} (hK : ∀ pc, SX5_row pc (K pc)) : SX5_row 192 (fX5_row_192 K) := k_iconst dX5_row_192 (by decide +kernel) (k_iret dX5_row_193 rfl)
theorem nX5_row_192 : kv_cn (fun K => fX5_row_192 K) := cn_const 0 (cn_c _)
def fX5_row_184 (K : Nat → kv_D) : kv_D := o_iload 5 (o_callV 5 3 mX5_add (o_ifne (fX5_row_194 K) (fX5_row_192 K)))
theorem sX5_row_184 {K : Nat → kv_D} (hK : ∀ pc, SX5_row pc (K pc)) : SX5_row 184 (fX5_row_184 K) := k_iload dX5_row_184 (k_callV (q := (RX5, TX5, 32)) dX5_row_186 cX5_add_ct rfl (kv_goodV mw_563 mw_565 sel_X5_add mw_6 mw_566) (by decide +kernel) rfl (by decide) (by decide) (k_ifne dX5_row_189 rfl (sX5_row_194 hK) (sX5_row_192 hK)))
theorem nX5_row_184 : kv_cn (fun K => fX5_row_184 K) := cn_iload 5 (cn_callV 5 3 mX5_add (cn_ifne nX5_row_194 nX5_row_192))
def fX5_row_183 (K : Nat → kv_D) : kv_D := o_const 0 ((fX5_row_184 K))
theorem sX5_row_183 {K : Nat → kv_D} (hK : ∀ pc, SX5_row pc (K pc)) : SX5_row 183 (fX5_row_183 K) := k_iconst dX5_row_183 (by decide +kernel) ((sX5_row_184 hK))
theorem nX5_row_183 : kv_cn (fun K => fX5_row_183 K) := cn_const 0 (nX5_row_184)
def fX5_row_178 (K : Nat → kv_D) : kv_D := o_iload 9 ((fX5_row_184 K))
theorem sX5_row_178 {K : Nat → kv_D} (hK : ∀ pc, SX5_row pc (K pc)) : SX5_row 178 (fX5_row_178 K) := k_iload dX5_row_178 (k_goto dX5_row_180 rfl (sX5_row_184 hK))
theorem nX5_row_178 : kv_cn (fun K => fX5_row_178 K) := cn_iload 9 (nX5_row_184)
def fX5_row_168 (K : Nat → kv_D) : kv_D := o_istore 4 (o_aload 0 (o_iload 8 (o_iload 10 (o_ifeq (fX5_row_183 K) (fX5_row_178 K)))))
theorem sX5_row_168 {K : Nat → kv_D} (hK : ∀ pc, SX5_row pc (K pc)) : SX5_row 168 (fX5_row_168 K) := k_istore dX5_row_168 (by decide) (k_aload_n dX5_row_170 rfl (k_iload dX5_row_171 (k_iload dX5_row_173 (k_ifeq dX5_row_175 rfl (sX5_row_183 hK) (sX5_row_178 hK)))))
theorem nX5_row_168 : kv_cn (fun K => fX5_row_168 K) := cn_istore 4 (cn_aload 0 (cn_iload 8 (cn_iload 10 (cn_ifeq nX5_row_183 nX5_row_178))))
def fX5_row_166 (K : Nat → kv_D) : kv_D := o_iload 4 ((fX5_row_168 K))
theorem sX5_row_166 {K : Nat → kv_D} (hK : ∀ pc, SX5_row pc (K pc)) : SX5_row 166 (fX5_row_166 K) := k_iload dX5_row_166 ((sX5_row_168 hK))
theorem nX5_row_166 : kv_cn (fun K => fX5_row_166 K) := cn_iload 4 (nX5_row_168)
def fX5_row_159 (K : Nat → kv_D) : kv_D := o_iload 4 (o_const 1 (o_iadd ((fX5_row_168 K))))
theorem sX5_row_159 {K : Nat → kv_D} (hK : ∀ pc, SX5_row pc (K pc)) : SX5_row 159 (fX5_row_159 K) := k_iload dX5_row_159 (k_iconst dX5_row_161 (by decide +kernel) (k_iadd dX5_row_162 (k_goto dX5_row_163 rfl (sX5_row_168 hK))))
theorem nX5_row_159 : kv_cn (fun K => fX5_row_159 K) := cn_iload 4 (cn_const 1 (cn_iadd (nX5_row_168)))
def fX5_row_152 (K : Nat → kv_D) : kv_D := o_istore 10 (o_iload 10 (o_ifeq (fX5_row_166 K) (fX5_row_159 K)))
theorem sX5_row_152 {K : Nat → kv_D} (hK : ∀ pc, SX5_row pc (K pc)) : SX5_row 152 (fX5_row_152 K) := k_istore dX5_row_152 (by decide) (k_iload dX5_row_154 (k_ifeq dX5_row_156 rfl (sX5_row_166 hK) (sX5_row_159 hK)))
theorem nX5_row_152 : kv_cn (fun K => fX5_row_152 K) := cn_istore 10 (cn_iload 10 (cn_ifeq nX5_row_166 nX5_row_159))
def fX5_row_151 (K : Nat → kv_D) : kv_D := o_const 0 ((fX5_row_152 K))
theorem sX5_row_151 {K : Nat → kv_D} (hK : ∀ pc, SX5_row pc (K pc)) : SX5_row 151 (fX5_row_151 K) := k_iconst dX5_row_151 (by decide +kernel) ((sX5_row_152 hK))
theorem nX5_row_151 : kv_cn (fun K => fX5_row_151 K) := cn_const 0 (nX5_row_152)
def fX5_row_147 (K : Nat → kv_D) : kv_D := o_const 1 ((fX5_row_152 K))
theorem sX5_row_147 {K : Nat → kv_D} (hK : ∀ pc, SX5_row pc (K pc)) : SX5_row 147 (fX5_row_147 K) := k_iconst dX5_row_147 (by decide +kernel) (k_goto dX5_row_148 rfl (sX5_row_152 hK))
theorem nX5_row_147 : kv_cn (fun K => fX5_row_147 K) := cn_const 1 (nX5_row_152)
def fX5_row_140 (K : Nat → kv_D) : kv_D := o_iload 9 (o_const 63 (o_icne (fX5_row_151 K) (fX5_row_147 K)))
theorem sX5_row_140 {K : Nat → kv_D} (hK : ∀ pc, SX5_row pc (K pc)) : SX5_row 140 (fX5_row_140 K) := k_iload dX5_row_140 (k_bipush dX5_row_142 (by decide +kernel) (k_icne dX5_row_144 rfl (sX5_row_151 hK) (sX5_row_147 hK)))
theorem nX5_row_140 : kv_cn (fun K => fX5_row_140 K) := cn_iload 9 (cn_const 63 (cn_icne nX5_row_151 nX5_row_147))
def fX5_row_133 (K : Nat → kv_D) : kv_D := o_iload 9 (o_const 43 (o_iceq (fX5_row_147 K) (fX5_row_140 K)))
theorem sX5_row_133 {K : Nat → kv_D} (hK : ∀ pc, SX5_row pc (K pc)) : SX5_row 133 (fX5_row_133 K) := k_iload dX5_row_133 (k_bipush dX5_row_135 (by decide +kernel) (k_iceq dX5_row_137 rfl (sX5_row_147 hK) (sX5_row_140 hK)))
theorem nX5_row_133 : kv_cn (fun K => fX5_row_133 K) := cn_iload 9 (cn_const 43 (cn_iceq nX5_row_147 nX5_row_140))
def fX5_row_102 (K : Nat → kv_D) : kv_D := o_aload 0 (o_iload 4 (o_iload 2 (o_callV 5 2 mX5_element (o_istore 8 (o_aload 0 (o_getf 5 10 (o_istore 4 (o_aload 0 (o_iload 4 (o_iload 2 (o_callV 5 2 mX5_at (o_istore 9 (o_iload 9 (o_const 42 (o_iceq (fX5_row_147 K) (fX5_row_133 K))))))))))))))))
theorem sX5_row_102 {K : Nat → kv_D} (hK : ∀ pc, SX5_row pc (K pc)) : SX5_row 102 (fX5_row_102 K) := k_aload_n dX5_row_102 rfl (k_iload dX5_row_103 (k_iload_n dX5_row_105 rfl (k_callV (q := (RX5, TX5, 32)) dX5_row_106 cX5_element_ct rfl (kv_goodV mw_531 mw_533 sel_X5_element mw_6 mw_534) (by decide +kernel) rfl (by decide) (by decide) (k_istore dX5_row_109 (by decide) (k_aload_n dX5_row_111 rfl (k_getf (C := RX5) (T := TX5) (N := 32) (ci := 5) (index := 85) (kf := 10) dX5_row_112 rfl (fun w h => List.mem_cons_of_mem _ (inX5 w h)) (by decide) (List.mem_cons_of_mem _ mw_429) (k_istore dX5_row_115 (by decide) (k_aload_n dX5_row_117 rfl (k_iload dX5_row_118 (k_iload_n dX5_row_120 rfl (k_callV (q := (RX5, TX5, 32)) dX5_row_121 cX5_at_ct rfl (kv_goodV mw_535 mw_537 sel_X5_at mw_6 mw_538) (by decide +kernel) rfl (by decide) (by decide) (k_istore dX5_row_124 (by decide) (k_iload dX5_row_126 (k_bipush dX5_row_128 (by decide +kernel) (k_iceq dX5_row_130 rfl (sX5_row_147 hK) (sX5_row_133 hK))))))))))))))))
theorem nX5_row_102 : kv_cn (fun K => fX5_row_102 K) := cn_aload 0 (cn_iload 4 (cn_iload 2 (cn_callV 5 2 mX5_element (cn_istore 8 (cn_aload 0 (cn_getf 5 10 (cn_istore 4 (cn_aload 0 (cn_iload 4 (cn_iload 2 (cn_callV 5 2 mX5_at (cn_istore 9 (cn_iload 9 (cn_const 42 (cn_iceq nX5_row_147 nX5_row_133)))))))))))))))
def fX5_row_93 (K : Nat → kv_D) : kv_D := o_const 0 (o_istore 5 (o_iinc 4 1 ((fX5_row_194 K))))
theorem sX5_row_93 {K : Nat → kv_D} (hK : ∀ pc, SX5_row pc (K pc)) : SX5_row 93 (fX5_row_93 K) := k_iconst dX5_row_93 (by decide +kernel) (k_istore dX5_row_94 (by decide) (k_iinc dX5_row_96 (by decide +kernel) (by decide) (k_goto dX5_row_99 rfl (sX5_row_194 hK))))
theorem nX5_row_93 : kv_cn (fun K => fX5_row_93 K) := cn_const 0 (cn_istore 5 (cn_iinc 4 1 (nX5_row_194)))
def fX5_row_91 (K : Nat → kv_D) : kv_D := o_const 0 (o_iret .boolean)
theorem sX5_row_91 {K : Nat → kv_D} (hK : ∀ pc, SX5_row pc (K pc)) : SX5_row 91 (fX5_row_91 K) := k_iconst dX5_row_91 (by decide +kernel) (k_iret dX5_row_92 rfl)
theorem nX5_row_91 : kv_cn (fun K => fX5_row_91 K) := cn_const 0 (cn_c _)
def fX5_row_82 (K : Nat → kv_D) : kv_D := o_iload 6 (o_aload 0 (o_getf 5 3 (o_icne (fX5_row_93 K) (fX5_row_91 K))))
theorem sX5_row_82 {K : Nat → kv_D} (hK : ∀ pc, SX5_row pc (K pc)) : SX5_row 82 (fX5_row_82 K) := k_iload dX5_row_82 (k_aload_n dX5_row_84 rfl (k_getf (C := RX5) (T := TX5) (N := 32) (ci := 5) (index := 99) (kf := 3) dX5_row_85 rfl (fun w h => List.mem_cons_of_mem _ (inX5 w h)) (by decide) (List.mem_cons_of_mem _ mw_422) (k_icne dX5_row_88 rfl (sX5_row_93 hK) (sX5_row_91 hK))))
theorem nX5_row_82 : kv_cn (fun K => fX5_row_82 K) := cn_iload 6 (cn_aload 0 (cn_getf 5 3 (cn_icne nX5_row_93 nX5_row_91)))
def fX5_row_77 (K : Nat → kv_D) : kv_D := o_iload 5 (o_ifeq (fX5_row_91 K) (fX5_row_82 K))
theorem sX5_row_77 {K : Nat → kv_D} (hK : ∀ pc, SX5_row pc (K pc)) : SX5_row 77 (fX5_row_77 K) := k_iload dX5_row_77 (k_ifeq dX5_row_79 rfl (sX5_row_91 hK) (sX5_row_82 hK))
theorem nX5_row_77 : kv_cn (fun K => fX5_row_77 K) := cn_iload 5 (cn_ifeq nX5_row_91 nX5_row_82)
def fX5_row_70 (K : Nat → kv_D) : kv_D := o_iload 7 (o_const 41 (o_icne (fX5_row_102 K) (fX5_row_77 K)))
theorem sX5_row_70 {K : Nat → kv_D} (hK : ∀ pc, SX5_row pc (K pc)) : SX5_row 70 (fX5_row_70 K) := k_iload dX5_row_70 (k_bipush dX5_row_72 (by decide +kernel) (k_icne dX5_row_74 rfl (sX5_row_102 hK) (sX5_row_77 hK)))
theorem nX5_row_70 : kv_cn (fun K => fX5_row_70 K) := cn_iload 7 (cn_const 41 (cn_icne nX5_row_102 nX5_row_77))
def fX5_row_42 (K : Nat → kv_D) : kv_D := o_aload 0 (o_dup (o_getf 5 8 (o_const 1 (o_iadd (o_putf 5 8 .int (o_aload 0 (o_getf 5 8 (o_istore 5 (o_aload 0 (o_getf 5 3 (o_istore 6 (o_iinc 4 1 ((fX5_row_194 K))))))))))))))
theorem sX5_row_42 {K : Nat → kv_D} (hK : ∀ pc, SX5_row pc (K pc)) : SX5_row 42 (fX5_row_42 K) := k_aload_n dX5_row_42 rfl (k_dup dX5_row_43 (k_getf (C := RX5) (T := TX5) (N := 32) (ci := 5) (index := 102) (kf := 8) dX5_row_44 rfl (fun w h => List.mem_cons_of_mem _ (inX5 w h)) (by decide) (List.mem_cons_of_mem _ mw_427) (k_iconst dX5_row_47 (by decide +kernel) (k_iadd dX5_row_48 (k_putf (C := RX5) (T := TX5) (N := 32) (ci := 5) (index := 102) (kf := 8) (ty := .int) dX5_row_49 rfl (fun w h => List.mem_cons_of_mem _ (inX5 w h)) tyX5 tyX5_ok nmX5 (by decide) (List.mem_cons_of_mem _ mw_427) rfl rfl (k_aload_n dX5_row_52 rfl (k_getf (C := RX5) (T := TX5) (N := 32) (ci := 5) (index := 102) (kf := 8) dX5_row_53 rfl (fun w h => List.mem_cons_of_mem _ (inX5 w h)) (by decide) (List.mem_cons_of_mem _ mw_427) (k_istore dX5_row_56 (by decide) (k_aload_n dX5_row_58 rfl (k_getf (C := RX5) (T := TX5) (N := 32) (ci := 5) (index := 99) (kf := 3) dX5_row_59 rfl (fun w h => List.mem_cons_of_mem _ (inX5 w h)) (by decide) (List.mem_cons_of_mem _ mw_422) (k_istore dX5_row_62 (by decide) (k_iinc dX5_row_64 (by decide +kernel) (by decide) (k_goto dX5_row_67 rfl (sX5_row_194 hK))))))))))))))
theorem nX5_row_42 : kv_cn (fun K => fX5_row_42 K) := cn_aload 0 (cn_dup (cn_getf 5 8 (cn_const 1 (cn_iadd (cn_putf 5 8 .int (cn_aload 0 (cn_getf 5 8 (cn_istore 5 (cn_aload 0 (cn_getf 5 3 (cn_istore 6 (cn_iinc 4 1 (nX5_row_194)))))))))))))
def fX5_row_40 (K : Nat → kv_D) : kv_D := o_const 0 (o_iret .boolean)
theorem sX5_row_40 {K : Nat → kv_D} (hK : ∀ pc, SX5_row pc (K pc)) : SX5_row 40 (fX5_row_40 K) := k_iconst dX5_row_40 (by decide +kernel) (k_iret dX5_row_41 rfl)
theorem nX5_row_40 : kv_cn (fun K => fX5_row_40 K) := cn_const 0 (cn_c _)
def fX5_row_35 (K : Nat → kv_D) : kv_D := o_iload 5 (o_ifle (fX5_row_42 K) (fX5_row_40 K))
theorem sX5_row_35 {K : Nat → kv_D} (hK : ∀ pc, SX5_row pc (K pc)) : SX5_row 35 (fX5_row_35 K) := k_iload dX5_row_35 (k_ifle dX5_row_37 rfl (sX5_row_42 hK) (sX5_row_40 hK))
theorem nX5_row_35 : kv_cn (fun K => fX5_row_35 K) := cn_iload 5 (cn_ifle nX5_row_42 nX5_row_40)
def fX5_row_31 (K : Nat → kv_D) : kv_D := o_iload 3 (o_ifeq (fX5_row_40 K) (fX5_row_35 K))
theorem sX5_row_31 {K : Nat → kv_D} (hK : ∀ pc, SX5_row pc (K pc)) : SX5_row 31 (fX5_row_31 K) := k_iload_n dX5_row_31 rfl (k_ifeq dX5_row_32 rfl (sX5_row_40 hK) (sX5_row_35 hK))
theorem nX5_row_31 : kv_cn (fun K => fX5_row_31 K) := cn_iload 3 (cn_ifeq nX5_row_40 nX5_row_35)
def fX5_row_15 (K : Nat → kv_D) : kv_D := o_aload 0 (o_getf 5 1 (o_iload 4 (o_iald 0 (o_istore 7 (o_iload 7 (o_const 40 (o_icne (fX5_row_70 K) (fX5_row_31 K))))))))
theorem sX5_row_15 {K : Nat → kv_D} (hK : ∀ pc, SX5_row pc (K pc)) : SX5_row 15 (fX5_row_15 K) := k_aload_n dX5_row_15 rfl (k_getf (C := RX5) (T := TX5) (N := 32) (ci := 5) (index := 7) (kf := 1) dX5_row_16 rfl (fun w h => List.mem_cons_of_mem _ (inX5 w h)) (by decide) (List.mem_cons_of_mem _ mw_420) (k_iload dX5_row_19 (k_iald dX5_row_21 rfl (k_istore dX5_row_22 (by decide) (k_iload dX5_row_24 (k_bipush dX5_row_26 (by decide +kernel) (k_icne dX5_row_28 rfl (sX5_row_70 hK) (sX5_row_31 hK))))))))
theorem nX5_row_15 : kv_cn (fun K => fX5_row_15 K) := cn_aload 0 (cn_getf 5 1 (cn_iload 4 (cn_iald 0 (cn_istore 7 (cn_iload 7 (cn_const 40 (cn_icne nX5_row_70 nX5_row_31)))))))
def fX5_row_9 (K : Nat → kv_D) : kv_D := o_iload 4 (o_iload 2 (o_icge (fX5_row_197 K) (fX5_row_15 K)))
theorem sX5_row_9 {K : Nat → kv_D} (hK : ∀ pc, SX5_row pc (K pc)) : SX5_row 9 (fX5_row_9 K) := k_iload dX5_row_9 (k_iload_n dX5_row_11 rfl (k_icge dX5_row_12 rfl (sX5_row_197 hK) (sX5_row_15 hK)))
theorem nX5_row_9 : kv_cn (fun K => fX5_row_9 K) := cn_iload 4 (cn_iload 2 (cn_icge nX5_row_197 nX5_row_15))
def fX5_row_0 (K : Nat → kv_D) : kv_D := o_iload 1 (o_istore 4 (o_const 0 (o_istore 5 (o_const 0 (o_istore 6 ((K 9)))))))
theorem sX5_row_0 {K : Nat → kv_D} (hK : ∀ pc, SX5_row pc (K pc)) : SX5_row 0 (fX5_row_0 K) := k_iload_n dX5_row_0 rfl (k_istore dX5_row_1 (by decide) (k_iconst dX5_row_3 (by decide +kernel) (k_istore dX5_row_4 (by decide) (k_iconst dX5_row_6 (by decide +kernel) (k_istore dX5_row_7 (by decide) ((hK 9)))))))
theorem nX5_row_0 : kv_cn (fun K => fX5_row_0 K) := cn_iload 1 (cn_istore 4 (cn_const 0 (cn_istore 5 (cn_const 0 (cn_istore 6 ((cn_K 9)))))))
def bX5_row (K : Nat → kv_D) (pc : Nat) : kv_D := if pc = 9 then fX5_row_9 K else fun _ _ _ _ _ => False
theorem hX5_row : ∀ pc, SX5_row pc (kv_lim (bX5_row) pc) := kv_lim_S (fun K hK pc => by
  unfold bX5_row
  by_cases q9 : pc = 9
  · rw [if_pos q9, q9]
    exact sX5_row_9 hK
  rw [if_neg q9]
  exact kv_none)
theorem uX5_row_9 {L : List (Option Value)} {st : List Value} {h : kv_H} {v : Option Value} {h' : kv_H} (hx : fX5_row_9 (kv_lim (bX5_row)) L st h v h') : kv_lim (bX5_row) 9 L st h v h' := kv_un (q := 9) (by have e : (fun K => bX5_row K 9) = fun K => fX5_row_9 K := (by funext K; rfl); rw [e]; exact nX5_row_9) (by have e : bX5_row (kv_lim (bX5_row)) 9 = fX5_row_9 (kv_lim (bX5_row)) := rfl; rw [e]; exact hx)
def mX5_row : kv_M := kv_in 4 11 (fX5_row_0 (kv_lim (bX5_row)))
theorem cX5_row_ct : kv_CT yX5_row wX5_row 3 74 mX5_row := kv_met (by decide) rfl rfl (by decide) (fun h => by cases h) (sX5_row_0 (hX5_row))
-- X5_plain
def wX5_plain : List Cond := Cond.code yX5_plain cX5_plain 4 (some .boolean) :: kv_tb
abbrev SX5_plain (pc : Nat) (F : kv_D) : Prop := kv_S cX5_plain 4 RX5 wX5_plain (some .boolean) false 0 0 none pc F
def fX5_plain_58 (K : Nat → kv_D) : kv_D := o_iload 2 (o_iret .boolean)
theorem sX5_plain_58 {K : Nat → kv_D} (hK : ∀ pc, SX5_plain pc (K pc)) : SX5_plain 58 (fX5_plain_58 K) := k_iload_n dX5_plain_58 rfl (k_iret dX5_plain_59 rfl)
theorem nX5_plain_58 : kv_cn (fun K => fX5_plain_58 K) := cn_iload 2 (cn_c _)
def fX5_plain_51 (K : Nat → kv_D) : kv_D := o_istore 2 (o_iinc 3 1 ((K 7)))
theorem sX5_plain_51 {K : Nat → kv_D} (hK : ∀ pc, SX5_plain pc (K pc)) : SX5_plain 51 (fX5_plain_51 K) := k_istore_n dX5_plain_51 rfl (by decide) (k_iinc dX5_plain_52 (by decide +kernel) (by decide) (k_goto dX5_plain_55 rfl (hK 7)))
theorem nX5_plain_51 : kv_cn (fun K => fX5_plain_51 K) := cn_istore 2 (cn_iinc 3 1 ((cn_K 7)))
def fX5_plain_50 (K : Nat → kv_D) : kv_D := o_const 0 ((fX5_plain_51 K))
theorem sX5_plain_50 {K : Nat → kv_D} (hK : ∀ pc, SX5_plain pc (K pc)) : SX5_plain 50 (fX5_plain_50 K) := k_iconst dX5_plain_50 (by decide +kernel) ((sX5_plain_51 hK))
theorem nX5_plain_50 : kv_cn (fun K => fX5_plain_50 K) := cn_const 0 (nX5_plain_51)
def fX5_plain_46 (K : Nat → kv_D) : kv_D := o_const 1 ((fX5_plain_51 K))
theorem sX5_plain_46 {K : Nat → kv_D} (hK : ∀ pc, SX5_plain pc (K pc)) : SX5_plain 46 (fX5_plain_46 K) := k_iconst dX5_plain_46 (by decide +kernel) (k_goto dX5_plain_47 rfl (sX5_plain_51 hK))
theorem nX5_plain_46 : kv_cn (fun K => fX5_plain_46 K) := cn_const 1 (nX5_plain_51)
def fX5_plain_36 (K : Nat → kv_D) : kv_D := o_aload 0 (o_getf 5 17 (o_iload 3 (o_iald 0 (o_const 1 (o_icne (fX5_plain_50 K) (fX5_plain_46 K))))))
theorem sX5_plain_36 {K : Nat → kv_D} (hK : ∀ pc, SX5_plain pc (K pc)) : SX5_plain 36 (fX5_plain_36 K) := k_aload_n dX5_plain_36 rfl (k_getf (C := RX5) (T := TX5) (N := 32) (ci := 5) (index := 43) (kf := 17) dX5_plain_37 rfl (fun w h => List.mem_cons_of_mem _ (inX5 w h)) (by decide) (List.mem_cons_of_mem _ mw_436) (k_iload_n dX5_plain_40 rfl (k_iald dX5_plain_41 rfl (k_iconst dX5_plain_42 (by decide +kernel) (k_icne dX5_plain_43 rfl (sX5_plain_50 hK) (sX5_plain_46 hK))))))
theorem nX5_plain_36 : kv_cn (fun K => fX5_plain_36 K) := cn_aload 0 (cn_getf 5 17 (cn_iload 3 (cn_iald 0 (cn_const 1 (cn_icne nX5_plain_50 nX5_plain_46)))))
def fX5_plain_26 (K : Nat → kv_D) : kv_D := o_aload 0 (o_getf 5 16 (o_iload 3 (o_iald 0 (o_const 1 (o_icne (fX5_plain_50 K) (fX5_plain_36 K))))))
theorem sX5_plain_26 {K : Nat → kv_D} (hK : ∀ pc, SX5_plain pc (K pc)) : SX5_plain 26 (fX5_plain_26 K) := k_aload_n dX5_plain_26 rfl (k_getf (C := RX5) (T := TX5) (N := 32) (ci := 5) (index := 40) (kf := 16) dX5_plain_27 rfl (fun w h => List.mem_cons_of_mem _ (inX5 w h)) (by decide) (List.mem_cons_of_mem _ mw_435) (k_iload_n dX5_plain_30 rfl (k_iald dX5_plain_31 rfl (k_iconst dX5_plain_32 (by decide +kernel) (k_icne dX5_plain_33 rfl (sX5_plain_50 hK) (sX5_plain_36 hK))))))
theorem nX5_plain_26 : kv_cn (fun K => fX5_plain_26 K) := cn_aload 0 (cn_getf 5 16 (cn_iload 3 (cn_iald 0 (cn_const 1 (cn_icne nX5_plain_50 nX5_plain_36)))))
def fX5_plain_22 (K : Nat → kv_D) : kv_D := o_iload 2 (o_ifeq (fX5_plain_50 K) (fX5_plain_26 K))
theorem sX5_plain_22 {K : Nat → kv_D} (hK : ∀ pc, SX5_plain pc (K pc)) : SX5_plain 22 (fX5_plain_22 K) := k_iload_n dX5_plain_22 rfl (k_ifeq dX5_plain_23 rfl (sX5_plain_50 hK) (sX5_plain_26 hK))
theorem nX5_plain_22 : kv_cn (fun K => fX5_plain_22 K) := cn_iload 2 (cn_ifeq nX5_plain_50 nX5_plain_26)
def fX5_plain_7 (K : Nat → kv_D) : kv_D := o_iload 3 (o_const 12 (o_iload 1 (o_imul (o_aload 0 (o_getf 5 14 (o_iload 1 (o_iald 0 (o_iadd (o_icge (fX5_plain_58 K) (fX5_plain_22 K))))))))))
theorem sX5_plain_7 {K : Nat → kv_D} (hK : ∀ pc, SX5_plain pc (K pc)) : SX5_plain 7 (fX5_plain_7 K) := k_iload_n dX5_plain_7 rfl (k_bipush dX5_plain_8 (by decide +kernel) (k_iload_n dX5_plain_10 rfl (k_imul dX5_plain_11 (k_aload_n dX5_plain_12 rfl (k_getf (C := RX5) (T := TX5) (N := 32) (ci := 5) (index := 34) (kf := 14) dX5_plain_13 rfl (fun w h => List.mem_cons_of_mem _ (inX5 w h)) (by decide) (List.mem_cons_of_mem _ mw_433) (k_iload_n dX5_plain_16 rfl (k_iald dX5_plain_17 rfl (k_iadd dX5_plain_18 (k_icge dX5_plain_19 rfl (sX5_plain_58 hK) (sX5_plain_22 hK))))))))))
theorem nX5_plain_7 : kv_cn (fun K => fX5_plain_7 K) := cn_iload 3 (cn_const 12 (cn_iload 1 (cn_imul (cn_aload 0 (cn_getf 5 14 (cn_iload 1 (cn_iald 0 (cn_iadd (cn_icge nX5_plain_58 nX5_plain_22)))))))))
def fX5_plain_0 (K : Nat → kv_D) : kv_D := o_const 1 (o_istore 2 (o_const 12 (o_iload 1 (o_imul (o_istore 3 ((K 7)))))))
theorem sX5_plain_0 {K : Nat → kv_D} (hK : ∀ pc, SX5_plain pc (K pc)) : SX5_plain 0 (fX5_plain_0 K) := k_iconst dX5_plain_0 (by decide +kernel) (k_istore_n dX5_plain_1 rfl (by decide) (k_bipush dX5_plain_2 (by decide +kernel) (k_iload_n dX5_plain_4 rfl (k_imul dX5_plain_5 (k_istore_n dX5_plain_6 rfl (by decide) ((hK 7)))))))
theorem nX5_plain_0 : kv_cn (fun K => fX5_plain_0 K) := cn_const 1 (cn_istore 2 (cn_const 12 (cn_iload 1 (cn_imul (cn_istore 3 ((cn_K 7)))))))
def bX5_plain (K : Nat → kv_D) (pc : Nat) : kv_D := if pc = 7 then fX5_plain_7 K else fun _ _ _ _ _ => False
theorem hX5_plain : ∀ pc, SX5_plain pc (kv_lim (bX5_plain) pc) := kv_lim_S (fun K hK pc => by
  unfold bX5_plain
  by_cases q7 : pc = 7
  · rw [if_pos q7, q7]
    exact sX5_plain_7 hK
  rw [if_neg q7]
  exact kv_none)
theorem uX5_plain_7 {L : List (Option Value)} {st : List Value} {h : kv_H} {v : Option Value} {h' : kv_H} (hx : fX5_plain_7 (kv_lim (bX5_plain)) L st h v h') : kv_lim (bX5_plain) 7 L st h v h' := kv_un (q := 7) (by have e : (fun K => bX5_plain K 7) = fun K => fX5_plain_7 K := (by funext K; rfl); rw [e]; exact nX5_plain_7) (by have e : bX5_plain (kv_lim (bX5_plain)) 7 = fX5_plain_7 (kv_lim (bX5_plain)) := rfl; rw [e]; exact hx)
def mX5_plain : kv_M := kv_in 2 4 (fX5_plain_0 (kv_lim (bX5_plain)))
theorem cX5_plain_ct : kv_CT yX5_plain wX5_plain 0 0 mX5_plain := kv_met (by decide) rfl rfl (by decide) (fun h => by cases h) (sX5_plain_0 (hX5_plain))
-- X5_masks
def wX5_masks : List Cond := Cond.code yX5_masks cX5_masks 5 (some .boolean) :: kv_tb
abbrev SX5_masks (pc : Nat) (F : kv_D) : Prop := kv_S cX5_masks 5 RX5 wX5_masks (some .boolean) false 1 23 none pc F
def fX5_masks_128 (K : Nat → kv_D) : kv_D := o_const 1 (o_iret .boolean)
theorem sX5_masks_128 {K : Nat → kv_D} (hK : ∀ pc, SX5_masks pc (K pc)) : SX5_masks 128 (fX5_masks_128 K) := k_iconst dX5_masks_128 (by decide +kernel) (k_iret dX5_masks_129 rfl)
theorem nX5_masks_128 : kv_cn (fun K => fX5_masks_128 K) := cn_const 1 (cn_c _)
def fX5_masks_122 (K : Nat → kv_D) : kv_D := o_iinc 3 1 ((K 64))
theorem sX5_masks_122 {K : Nat → kv_D} (hK : ∀ pc, SX5_masks pc (K pc)) : SX5_masks 122 (fX5_masks_122 K) := k_iinc dX5_masks_122 (by decide +kernel) (by decide) (k_goto dX5_masks_125 rfl (hK 64))
theorem nX5_masks_122 : kv_cn (fun K => fX5_masks_122 K) := cn_iinc 3 1 ((cn_K 64))
def fX5_masks_120 (K : Nat → kv_D) : kv_D := o_const 0 (o_iret .boolean)
theorem sX5_masks_120 {K : Nat → kv_D} (hK : ∀ pc, SX5_masks pc (K pc)) : SX5_masks 120 (fX5_masks_120 K) := k_iconst dX5_masks_120 (by decide +kernel) (k_iret dX5_masks_121 rfl)
theorem nX5_masks_120 : kv_cn (fun K => fX5_masks_120 K) := cn_const 0 (cn_c _)
def fX5_masks_74 (K : Nat → kv_D) : kv_D := o_const 12 (o_iload 2 (o_imul (o_aload 0 (o_getf 5 12 (o_iload 2 (o_iald 0 (o_iadd (o_iload 3 (o_iadd (o_aload 0 (o_getf 5 12 (o_iload 1 (o_iald 0 (o_isub (o_istore 4 (o_aload 0 (o_getf 5 15 (o_iload 4 (o_iald 0 (o_aload 0 (o_getf 5 15 (o_const 12 (o_iload 1 (o_imul (o_iload 3 (o_iadd (o_iald 0 (o_const (-1) (o_ixor (o_iand (o_ifeq (fX5_masks_122 K) (fX5_masks_120 K))))))))))))))))))))))))))))))))
theorem sX5_masks_74 {K : Nat → kv_D} (hK : ∀ pc, SX5_masks pc (K pc)) : SX5_masks 74 (fX5_masks_74 K) := k_bipush dX5_masks_74 (by decide +kernel) (k_iload_n dX5_masks_76 rfl (k_imul dX5_masks_77 (k_aload_n dX5_masks_78 rfl (k_getf (C := RX5) (T := TX5) (N := 32) (ci := 5) (index := 28) (kf := 12) dX5_masks_79 rfl (fun w h => List.mem_cons_of_mem _ (inX5 w h)) (by decide) (List.mem_cons_of_mem _ mw_431) (k_iload_n dX5_masks_82 rfl (k_iald dX5_masks_83 rfl (k_iadd dX5_masks_84 (k_iload_n dX5_masks_85 rfl (k_iadd dX5_masks_86 (k_aload_n dX5_masks_87 rfl (k_getf (C := RX5) (T := TX5) (N := 32) (ci := 5) (index := 28) (kf := 12) dX5_masks_88 rfl (fun w h => List.mem_cons_of_mem _ (inX5 w h)) (by decide) (List.mem_cons_of_mem _ mw_431) (k_iload_n dX5_masks_91 rfl (k_iald dX5_masks_92 rfl (k_isub dX5_masks_93 (k_istore dX5_masks_94 (by decide) (k_aload_n dX5_masks_96 rfl (k_getf (C := RX5) (T := TX5) (N := 32) (ci := 5) (index := 37) (kf := 15) dX5_masks_97 rfl (fun w h => List.mem_cons_of_mem _ (inX5 w h)) (by decide) (List.mem_cons_of_mem _ mw_434) (k_iload dX5_masks_100 (k_iald dX5_masks_102 rfl (k_aload_n dX5_masks_103 rfl (k_getf (C := RX5) (T := TX5) (N := 32) (ci := 5) (index := 37) (kf := 15) dX5_masks_104 rfl (fun w h => List.mem_cons_of_mem _ (inX5 w h)) (by decide) (List.mem_cons_of_mem _ mw_434) (k_bipush dX5_masks_107 (by decide +kernel) (k_iload_n dX5_masks_109 rfl (k_imul dX5_masks_110 (k_iload_n dX5_masks_111 rfl (k_iadd dX5_masks_112 (k_iald dX5_masks_113 rfl (k_iconst dX5_masks_114 (by decide +kernel) (k_ixor dX5_masks_115 (k_iand dX5_masks_116 (k_ifeq dX5_masks_117 rfl (sX5_masks_122 hK) (sX5_masks_120 hK))))))))))))))))))))))))))))))))
theorem nX5_masks_74 : kv_cn (fun K => fX5_masks_74 K) := cn_const 12 (cn_iload 2 (cn_imul (cn_aload 0 (cn_getf 5 12 (cn_iload 2 (cn_iald 0 (cn_iadd (cn_iload 3 (cn_iadd (cn_aload 0 (cn_getf 5 12 (cn_iload 1 (cn_iald 0 (cn_isub (cn_istore 4 (cn_aload 0 (cn_getf 5 15 (cn_iload 4 (cn_iald 0 (cn_aload 0 (cn_getf 5 15 (cn_const 12 (cn_iload 1 (cn_imul (cn_iload 3 (cn_iadd (cn_iald 0 (cn_const (-1) (cn_ixor (cn_iand (cn_ifeq nX5_masks_122 nX5_masks_120)))))))))))))))))))))))))))))))
def fX5_masks_64 (K : Nat → kv_D) : kv_D := o_iload 3 (o_aload 0 (o_getf 5 14 (o_iload 1 (o_iald 0 (o_icge (fX5_masks_128 K) (fX5_masks_74 K))))))
theorem sX5_masks_64 {K : Nat → kv_D} (hK : ∀ pc, SX5_masks pc (K pc)) : SX5_masks 64 (fX5_masks_64 K) := k_iload_n dX5_masks_64 rfl (k_aload_n dX5_masks_65 rfl (k_getf (C := RX5) (T := TX5) (N := 32) (ci := 5) (index := 34) (kf := 14) dX5_masks_66 rfl (fun w h => List.mem_cons_of_mem _ (inX5 w h)) (by decide) (List.mem_cons_of_mem _ mw_433) (k_iload_n dX5_masks_69 rfl (k_iald dX5_masks_70 rfl (k_icge dX5_masks_71 rfl (sX5_masks_128 hK) (sX5_masks_74 hK))))))
theorem nX5_masks_64 : kv_cn (fun K => fX5_masks_64 K) := cn_iload 3 (cn_aload 0 (cn_getf 5 14 (cn_iload 1 (cn_iald 0 (cn_icge nX5_masks_128 nX5_masks_74)))))
def fX5_masks_62 (K : Nat → kv_D) : kv_D := o_const 0 (o_istore 3 ((K 64)))
theorem sX5_masks_62 {K : Nat → kv_D} (hK : ∀ pc, SX5_masks pc (K pc)) : SX5_masks 62 (fX5_masks_62 K) := k_iconst dX5_masks_62 (by decide +kernel) (k_istore_n dX5_masks_63 rfl (by decide) ((hK 64)))
theorem nX5_masks_62 : kv_cn (fun K => fX5_masks_62 K) := cn_const 0 (cn_istore 3 ((cn_K 64)))
def fX5_masks_60 (K : Nat → kv_D) : kv_D := o_const 0 (o_iret .boolean)
theorem sX5_masks_60 {K : Nat → kv_D} (hK : ∀ pc, SX5_masks pc (K pc)) : SX5_masks 60 (fX5_masks_60 K) := k_iconst dX5_masks_60 (by decide +kernel) (k_iret dX5_masks_61 rfl)
theorem nX5_masks_60 : kv_cn (fun K => fX5_masks_60 K) := cn_const 0 (cn_c _)
def fX5_masks_31 (K : Nat → kv_D) : kv_D := o_aload 0 (o_getf 5 14 (o_iload 1 (o_iald 0 (o_aload 0 (o_getf 5 12 (o_iload 1 (o_iald 0 (o_isub (o_aload 0 (o_getf 5 14 (o_iload 2 (o_iald 0 (o_aload 0 (o_getf 5 12 (o_iload 2 (o_iald 0 (o_isub (o_icle (fX5_masks_62 K) (fX5_masks_60 K)))))))))))))))))))
theorem sX5_masks_31 {K : Nat → kv_D} (hK : ∀ pc, SX5_masks pc (K pc)) : SX5_masks 31 (fX5_masks_31 K) := k_aload_n dX5_masks_31 rfl (k_getf (C := RX5) (T := TX5) (N := 32) (ci := 5) (index := 34) (kf := 14) dX5_masks_32 rfl (fun w h => List.mem_cons_of_mem _ (inX5 w h)) (by decide) (List.mem_cons_of_mem _ mw_433) (k_iload_n dX5_masks_35 rfl (k_iald dX5_masks_36 rfl (k_aload_n dX5_masks_37 rfl (k_getf (C := RX5) (T := TX5) (N := 32) (ci := 5) (index := 28) (kf := 12) dX5_masks_38 rfl (fun w h => List.mem_cons_of_mem _ (inX5 w h)) (by decide) (List.mem_cons_of_mem _ mw_431) (k_iload_n dX5_masks_41 rfl (k_iald dX5_masks_42 rfl (k_isub dX5_masks_43 (k_aload_n dX5_masks_44 rfl (k_getf (C := RX5) (T := TX5) (N := 32) (ci := 5) (index := 34) (kf := 14) dX5_masks_45 rfl (fun w h => List.mem_cons_of_mem _ (inX5 w h)) (by decide) (List.mem_cons_of_mem _ mw_433) (k_iload_n dX5_masks_48 rfl (k_iald dX5_masks_49 rfl (k_aload_n dX5_masks_50 rfl (k_getf (C := RX5) (T := TX5) (N := 32) (ci := 5) (index := 28) (kf := 12) dX5_masks_51 rfl (fun w h => List.mem_cons_of_mem _ (inX5 w h)) (by decide) (List.mem_cons_of_mem _ mw_431) (k_iload_n dX5_masks_54 rfl (k_iald dX5_masks_55 rfl (k_isub dX5_masks_56 (k_icle dX5_masks_57 rfl (sX5_masks_62 hK) (sX5_masks_60 hK)))))))))))))))))))
theorem nX5_masks_31 : kv_cn (fun K => fX5_masks_31 K) := cn_aload 0 (cn_getf 5 14 (cn_iload 1 (cn_iald 0 (cn_aload 0 (cn_getf 5 12 (cn_iload 1 (cn_iald 0 (cn_isub (cn_aload 0 (cn_getf 5 14 (cn_iload 2 (cn_iald 0 (cn_aload 0 (cn_getf 5 12 (cn_iload 2 (cn_iald 0 (cn_isub (cn_icle nX5_masks_62 nX5_masks_60))))))))))))))))))
def fX5_masks_16 (K : Nat → kv_D) : kv_D := o_aload 0 (o_getf 5 12 (o_iload 1 (o_iald 0 (o_aload 0 (o_getf 5 12 (o_iload 2 (o_iald 0 (o_icgt (fX5_masks_60 K) (fX5_masks_31 K)))))))))
theorem sX5_masks_16 {K : Nat → kv_D} (hK : ∀ pc, SX5_masks pc (K pc)) : SX5_masks 16 (fX5_masks_16 K) := k_aload_n dX5_masks_16 rfl (k_getf (C := RX5) (T := TX5) (N := 32) (ci := 5) (index := 28) (kf := 12) dX5_masks_17 rfl (fun w h => List.mem_cons_of_mem _ (inX5 w h)) (by decide) (List.mem_cons_of_mem _ mw_431) (k_iload_n dX5_masks_20 rfl (k_iald dX5_masks_21 rfl (k_aload_n dX5_masks_22 rfl (k_getf (C := RX5) (T := TX5) (N := 32) (ci := 5) (index := 28) (kf := 12) dX5_masks_23 rfl (fun w h => List.mem_cons_of_mem _ (inX5 w h)) (by decide) (List.mem_cons_of_mem _ mw_431) (k_iload_n dX5_masks_26 rfl (k_iald dX5_masks_27 rfl (k_icgt dX5_masks_28 rfl (sX5_masks_60 hK) (sX5_masks_31 hK)))))))))
theorem nX5_masks_16 : kv_cn (fun K => fX5_masks_16 K) := cn_aload 0 (cn_getf 5 12 (cn_iload 1 (cn_iald 0 (cn_aload 0 (cn_getf 5 12 (cn_iload 2 (cn_iald 0 (cn_icgt nX5_masks_60 nX5_masks_31))))))))
def fX5_masks_8 (K : Nat → kv_D) : kv_D := o_aload 0 (o_iload 2 (o_callV 5 1 mX5_plain (o_ifeq (fX5_masks_60 K) (fX5_masks_16 K))))
theorem sX5_masks_8 {K : Nat → kv_D} (hK : ∀ pc, SX5_masks pc (K pc)) : SX5_masks 8 (fX5_masks_8 K) := k_aload_n dX5_masks_8 rfl (k_iload_n dX5_masks_9 rfl (k_callV (q := (RX5, TX5, 32)) dX5_masks_10 cX5_plain_ct rfl (kv_goodV mw_575 mw_577 sel_X5_plain mw_6 mw_578) (by decide +kernel) rfl (by decide) (by decide) (k_ifeq dX5_masks_13 rfl (sX5_masks_60 hK) (sX5_masks_16 hK))))
theorem nX5_masks_8 : kv_cn (fun K => fX5_masks_8 K) := cn_aload 0 (cn_iload 2 (cn_callV 5 1 mX5_plain (cn_ifeq nX5_masks_60 nX5_masks_16)))
def fX5_masks_0 (K : Nat → kv_D) : kv_D := o_aload 0 (o_iload 1 (o_callV 5 1 mX5_plain (o_ifeq (fX5_masks_60 K) (fX5_masks_8 K))))
theorem sX5_masks_0 {K : Nat → kv_D} (hK : ∀ pc, SX5_masks pc (K pc)) : SX5_masks 0 (fX5_masks_0 K) := k_aload_n dX5_masks_0 rfl (k_iload_n dX5_masks_1 rfl (k_callV (q := (RX5, TX5, 32)) dX5_masks_2 cX5_plain_ct rfl (kv_goodV mw_575 mw_577 sel_X5_plain mw_6 mw_578) (by decide +kernel) rfl (by decide) (by decide) (k_ifeq dX5_masks_5 rfl (sX5_masks_60 hK) (sX5_masks_8 hK))))
theorem nX5_masks_0 : kv_cn (fun K => fX5_masks_0 K) := cn_aload 0 (cn_iload 1 (cn_callV 5 1 mX5_plain (cn_ifeq nX5_masks_60 nX5_masks_8)))
def bX5_masks (K : Nat → kv_D) (pc : Nat) : kv_D := if pc = 64 then fX5_masks_64 K else fun _ _ _ _ _ => False
theorem hX5_masks : ∀ pc, SX5_masks pc (kv_lim (bX5_masks) pc) := kv_lim_S (fun K hK pc => by
  unfold bX5_masks
  by_cases q64 : pc = 64
  · rw [if_pos q64, q64]
    exact sX5_masks_64 hK
  rw [if_neg q64]
  exact kv_none)
theorem uX5_masks_64 {L : List (Option Value)} {st : List Value} {h : kv_H} {v : Option Value} {h' : kv_H} (hx : fX5_masks_64 (kv_lim (bX5_masks)) L st h v h') : kv_lim (bX5_masks) 64 L st h v h' := kv_un (q := 64) (by have e : (fun K => bX5_masks K 64) = fun K => fX5_masks_64 K := (by funext K; rfl); rw [e]; exact nX5_masks_64) (by have e : bX5_masks (kv_lim (bX5_masks)) 64 = fX5_masks_64 (kv_lim (bX5_masks)) := rfl; rw [e]; exact hx)
def mX5_masks : kv_M := kv_in 3 5 (fX5_masks_0 (kv_lim (bX5_masks)))
theorem cX5_masks_ct : kv_CT yX5_masks wX5_masks 1 23 mX5_masks := kv_met (by decide) rfl rfl (by decide) (fun h => by cases h) (sX5_masks_0 (hX5_masks))
