theorem dX5_init_188 : decode cX5_init 188 = .ok (.return_, 1) := by decide +kernel
theorem dX5_init_175 : decode cX5_init 175 = .ok (.aload_n 0, 1) := by decide +kernel
theorem dX5_init_176 : decode cX5_init 176 = .ok (.getfield 13, 3) := by decide +kernel
theorem dX5_init_179 : decode cX5_init 179 = .ok (.iload_n 1, 1) := by decide +kernel
theorem dX5_init_180 : decode cX5_init 180 = .ok (.iconst (-1), 1) := by decide +kernel
theorem dX5_init_181 : decode cX5_init 181 = .ok (.iastore, 1) := by decide +kernel
theorem dX5_init_182 : decode cX5_init 182 = .ok (.iinc 1 1, 3) := by decide +kernel
theorem dX5_init_185 : decode cX5_init 185 = .ok (.goto (-16), 3) := by decide +kernel
theorem dX5_init_169 : decode cX5_init 169 = .ok (.iload_n 1, 1) := by decide +kernel
theorem dX5_init_170 : decode cX5_init 170 = .ok (.bipush 26, 2) := by decide +kernel
theorem dX5_init_172 : decode cX5_init 172 = .ok (.if_icmp .ge 16, 3) := by decide +kernel
theorem dX5_init_0 : decode cX5_init 0 = .ok (.aload_n 0, 1) := by decide +kernel
theorem dX5_init_1 : decode cX5_init 1 = .ok (.invokespecial 1, 3) := by decide +kernel
theorem dX5_init_4 : decode cX5_init 4 = .ok (.aload_n 0, 1) := by decide +kernel
theorem dX5_init_5 : decode cX5_init 5 = .ok (.bipush 48, 2) := by decide +kernel
theorem dX5_init_7 : decode cX5_init 7 = .ok (.newarray .int, 2) := by decide +kernel
theorem dX5_init_9 : decode cX5_init 9 = .ok (.putfield 7, 3) := by decide +kernel
theorem dX5_init_12 : decode cX5_init 12 = .ok (.aload_n 0, 1) := by decide +kernel
theorem dX5_init_13 : decode cX5_init 13 = .ok (.bipush 26, 2) := by decide +kernel
theorem dX5_init_15 : decode cX5_init 15 = .ok (.newarray .int, 2) := by decide +kernel
theorem dX5_init_17 : decode cX5_init 17 = .ok (.putfield 13, 3) := by decide +kernel
theorem dX5_init_20 : decode cX5_init 20 = .ok (.aload_n 0, 1) := by decide +kernel
theorem dX5_init_21 : decode cX5_init 21 = .ok (.bipush 48, 2) := by decide +kernel
theorem dX5_init_23 : decode cX5_init 23 = .ok (.newarray .int, 2) := by decide +kernel
theorem dX5_init_25 : decode cX5_init 25 = .ok (.putfield 16, 3) := by decide +kernel
theorem dX5_init_28 : decode cX5_init 28 = .ok (.aload_n 0, 1) := by decide +kernel
theorem dX5_init_29 : decode cX5_init 29 = .ok (.bipush 48, 2) := by decide +kernel
theorem dX5_init_31 : decode cX5_init 31 = .ok (.newarray .int, 2) := by decide +kernel
theorem dX5_init_33 : decode cX5_init 33 = .ok (.putfield 19, 3) := by decide +kernel
theorem dX5_init_36 : decode cX5_init 36 = .ok (.aload_n 0, 1) := by decide +kernel
theorem dX5_init_37 : decode cX5_init 37 = .ok (.bipush 48, 2) := by decide +kernel
theorem dX5_init_39 : decode cX5_init 39 = .ok (.newarray .int, 2) := by decide +kernel
theorem dX5_init_41 : decode cX5_init 41 = .ok (.putfield 22, 3) := by decide +kernel
theorem dX5_init_44 : decode cX5_init 44 = .ok (.aload_n 0, 1) := by decide +kernel
theorem dX5_init_45 : decode cX5_init 45 = .ok (.bipush 48, 2) := by decide +kernel
theorem dX5_init_47 : decode cX5_init 47 = .ok (.newarray .int, 2) := by decide +kernel
theorem dX5_init_49 : decode cX5_init 49 = .ok (.putfield 25, 3) := by decide +kernel
theorem dX5_init_52 : decode cX5_init 52 = .ok (.aload_n 0, 1) := by decide +kernel
theorem dX5_init_53 : decode cX5_init 53 = .ok (.bipush 8, 2) := by decide +kernel
theorem dX5_init_55 : decode cX5_init 55 = .ok (.newarray .int, 2) := by decide +kernel
theorem dX5_init_57 : decode cX5_init 57 = .ok (.putfield 28, 3) := by decide +kernel
theorem dX5_init_60 : decode cX5_init 60 = .ok (.aload_n 0, 1) := by decide +kernel
theorem dX5_init_61 : decode cX5_init 61 = .ok (.bipush 8, 2) := by decide +kernel
theorem dX5_init_63 : decode cX5_init 63 = .ok (.newarray .int, 2) := by decide +kernel
theorem dX5_init_65 : decode cX5_init 65 = .ok (.putfield 31, 3) := by decide +kernel
theorem dX5_init_68 : decode cX5_init 68 = .ok (.aload_n 0, 1) := by decide +kernel
theorem dX5_init_69 : decode cX5_init 69 = .ok (.bipush 8, 2) := by decide +kernel
theorem dX5_init_71 : decode cX5_init 71 = .ok (.newarray .int, 2) := by decide +kernel
theorem dX5_init_73 : decode cX5_init 73 = .ok (.putfield 34, 3) := by decide +kernel
theorem dX5_init_76 : decode cX5_init 76 = .ok (.aload_n 0, 1) := by decide +kernel
theorem dX5_init_77 : decode cX5_init 77 = .ok (.bipush 96, 2) := by decide +kernel
theorem dX5_init_79 : decode cX5_init 79 = .ok (.newarray .int, 2) := by decide +kernel
theorem dX5_init_81 : decode cX5_init 81 = .ok (.putfield 37, 3) := by decide +kernel
theorem dX5_init_84 : decode cX5_init 84 = .ok (.aload_n 0, 1) := by decide +kernel
theorem dX5_init_85 : decode cX5_init 85 = .ok (.bipush 96, 2) := by decide +kernel
theorem dX5_init_87 : decode cX5_init 87 = .ok (.newarray .int, 2) := by decide +kernel
theorem dX5_init_89 : decode cX5_init 89 = .ok (.putfield 40, 3) := by decide +kernel
theorem dX5_init_92 : decode cX5_init 92 = .ok (.aload_n 0, 1) := by decide +kernel
theorem dX5_init_93 : decode cX5_init 93 = .ok (.bipush 96, 2) := by decide +kernel
theorem dX5_init_95 : decode cX5_init 95 = .ok (.newarray .int, 2) := by decide +kernel
theorem dX5_init_97 : decode cX5_init 97 = .ok (.putfield 43, 3) := by decide +kernel
theorem dX5_init_100 : decode cX5_init 100 = .ok (.aload_n 0, 1) := by decide +kernel
theorem dX5_init_101 : decode cX5_init 101 = .ok (.bipush 96, 2) := by decide +kernel
theorem dX5_init_103 : decode cX5_init 103 = .ok (.newarray .int, 2) := by decide +kernel
theorem dX5_init_105 : decode cX5_init 105 = .ok (.putfield 46, 3) := by decide +kernel
theorem dX5_init_108 : decode cX5_init 108 = .ok (.aload_n 0, 1) := by decide +kernel
theorem dX5_init_109 : decode cX5_init 109 = .ok (.bipush 8, 2) := by decide +kernel
theorem dX5_init_111 : decode cX5_init 111 = .ok (.newarray .int, 2) := by decide +kernel
theorem dX5_init_113 : decode cX5_init 113 = .ok (.putfield 49, 3) := by decide +kernel
theorem dX5_init_116 : decode cX5_init 116 = .ok (.aload_n 0, 1) := by decide +kernel
theorem dX5_init_117 : decode cX5_init 117 = .ok (.bipush 8, 2) := by decide +kernel
theorem dX5_init_119 : decode cX5_init 119 = .ok (.newarray .int, 2) := by decide +kernel
theorem dX5_init_121 : decode cX5_init 121 = .ok (.putfield 52, 3) := by decide +kernel
theorem dX5_init_124 : decode cX5_init 124 = .ok (.aload_n 0, 1) := by decide +kernel
theorem dX5_init_125 : decode cX5_init 125 = .ok (.bipush 96, 2) := by decide +kernel
theorem dX5_init_127 : decode cX5_init 127 = .ok (.newarray .int, 2) := by decide +kernel
theorem dX5_init_129 : decode cX5_init 129 = .ok (.putfield 55, 3) := by decide +kernel
theorem dX5_init_132 : decode cX5_init 132 = .ok (.aload_n 0, 1) := by decide +kernel
theorem dX5_init_133 : decode cX5_init 133 = .ok (.bipush 60, 2) := by decide +kernel
theorem dX5_init_135 : decode cX5_init 135 = .ok (.newarray .int, 2) := by decide +kernel
theorem dX5_init_137 : decode cX5_init 137 = .ok (.putfield 58, 3) := by decide +kernel
theorem dX5_init_140 : decode cX5_init 140 = .ok (.aload_n 0, 1) := by decide +kernel
theorem dX5_init_141 : decode cX5_init 141 = .ok (.bipush 60, 2) := by decide +kernel
theorem dX5_init_143 : decode cX5_init 143 = .ok (.newarray .int, 2) := by decide +kernel
theorem dX5_init_145 : decode cX5_init 145 = .ok (.putfield 61, 3) := by decide +kernel
theorem dX5_init_148 : decode cX5_init 148 = .ok (.aload_n 0, 1) := by decide +kernel
theorem dX5_init_149 : decode cX5_init 149 = .ok (.iconst (-1), 1) := by decide +kernel
theorem dX5_init_150 : decode cX5_init 150 = .ok (.putfield 64, 3) := by decide +kernel
theorem dX5_init_153 : decode cX5_init 153 = .ok (.aload_n 0, 1) := by decide +kernel
theorem dX5_init_154 : decode cX5_init 154 = .ok (.iconst 4, 1) := by decide +kernel
theorem dX5_init_155 : decode cX5_init 155 = .ok (.newarray .int, 2) := by decide +kernel
theorem dX5_init_157 : decode cX5_init 157 = .ok (.putfield 68, 3) := by decide +kernel
theorem dX5_init_160 : decode cX5_init 160 = .ok (.aload_n 0, 1) := by decide +kernel
theorem dX5_init_161 : decode cX5_init 161 = .ok (.iconst 4, 1) := by decide +kernel
theorem dX5_init_162 : decode cX5_init 162 = .ok (.newarray .int, 2) := by decide +kernel
theorem dX5_init_164 : decode cX5_init 164 = .ok (.putfield 71, 3) := by decide +kernel
theorem dX5_init_167 : decode cX5_init 167 = .ok (.iconst 0, 1) := by decide +kernel
theorem dX5_init_168 : decode cX5_init 168 = .ok (.istore_n 1, 1) := by decide +kernel
theorem dX5_capital_17 : decode cX5_capital 17 = .ok (.ireturn, 1) := by decide +kernel
theorem dX5_capital_16 : decode cX5_capital 16 = .ok (.iconst 0, 1) := by decide +kernel
theorem dX5_capital_12 : decode cX5_capital 12 = .ok (.iconst 1, 1) := by decide +kernel
theorem dX5_capital_13 : decode cX5_capital 13 = .ok (.goto 4, 3) := by decide +kernel
theorem dX5_capital_6 : decode cX5_capital 6 = .ok (.iload_n 0, 1) := by decide +kernel
theorem dX5_capital_7 : decode cX5_capital 7 = .ok (.bipush 90, 2) := by decide +kernel
theorem dX5_capital_9 : decode cX5_capital 9 = .ok (.if_icmp .gt 7, 3) := by decide +kernel
theorem dX5_capital_0 : decode cX5_capital 0 = .ok (.iload_n 0, 1) := by decide +kernel
theorem dX5_capital_1 : decode cX5_capital 1 = .ok (.bipush 65, 2) := by decide +kernel
theorem dX5_capital_3 : decode cX5_capital 3 = .ok (.if_icmp .lt 13, 3) := by decide +kernel
theorem dX5_at_15 : decode cX5_at 15 = .ok (.ireturn, 1) := by decide +kernel
theorem dX5_at_14 : decode cX5_at 14 = .ok (.iconst 0, 1) := by decide +kernel
theorem dX5_at_5 : decode cX5_at 5 = .ok (.aload_n 0, 1) := by decide +kernel
theorem dX5_at_6 : decode cX5_at 6 = .ok (.getfield 7, 3) := by decide +kernel
theorem dX5_at_9 : decode cX5_at 9 = .ok (.iload_n 1, 1) := by decide +kernel
theorem dX5_at_10 : decode cX5_at 10 = .ok (.iaload, 1) := by decide +kernel
theorem dX5_at_11 : decode cX5_at 11 = .ok (.goto 4, 3) := by decide +kernel
theorem dX5_at_0 : decode cX5_at 0 = .ok (.iload_n 1, 1) := by decide +kernel
theorem dX5_at_1 : decode cX5_at 1 = .ok (.iload_n 2, 1) := by decide +kernel
theorem dX5_at_2 : decode cX5_at 2 = .ok (.if_icmp .ge 12, 3) := by decide +kernel
theorem dX5_small_17 : decode cX5_small 17 = .ok (.ireturn, 1) := by decide +kernel
theorem dX5_small_16 : decode cX5_small 16 = .ok (.iconst 0, 1) := by decide +kernel
theorem dX5_small_12 : decode cX5_small 12 = .ok (.iconst 1, 1) := by decide +kernel
theorem dX5_small_13 : decode cX5_small 13 = .ok (.goto 4, 3) := by decide +kernel
theorem dX5_small_6 : decode cX5_small 6 = .ok (.iload_n 0, 1) := by decide +kernel
theorem dX5_small_7 : decode cX5_small 7 = .ok (.bipush 122, 2) := by decide +kernel
theorem dX5_small_9 : decode cX5_small 9 = .ok (.if_icmp .gt 7, 3) := by decide +kernel
theorem dX5_small_0 : decode cX5_small 0 = .ok (.iload_n 0, 1) := by decide +kernel
theorem dX5_small_1 : decode cX5_small 1 = .ok (.bipush 97, 2) := by decide +kernel
theorem dX5_small_3 : decode cX5_small 3 = .ok (.if_icmp .lt 13, 3) := by decide +kernel
theorem dX5_brackets_188 : decode cX5_brackets 188 = .ok (.ireturn, 1) := by decide +kernel
theorem dX5_brackets_186 : decode cX5_brackets 186 = .ok (.iload 5, 2) := by decide +kernel
theorem dX5_brackets_176 : decode cX5_brackets 176 = .ok (.ldc 88, 2) := by decide +kernel
theorem dX5_brackets_178 : decode cX5_brackets 178 = .ok (.iload 5, 2) := by decide +kernel
theorem dX5_brackets_180 : decode cX5_brackets 180 = .ok (.iconst (-1), 1) := by decide +kernel
theorem dX5_brackets_181 : decode cX5_brackets 181 = .ok (.ixor, 1) := by decide +kernel
theorem dX5_brackets_182 : decode cX5_brackets 182 = .ok (.iand, 1) := by decide +kernel
theorem dX5_brackets_183 : decode cX5_brackets 183 = .ok (.goto 5, 3) := by decide +kernel
theorem dX5_brackets_171 : decode cX5_brackets 171 = .ok (.iload 4, 2) := by decide +kernel
theorem dX5_brackets_173 : decode cX5_brackets 173 = .ok (.ifCond .eq 13, 3) := by decide +kernel
theorem dX5_brackets_169 : decode cX5_brackets 169 = .ok (.iconst (-1), 1) := by decide +kernel
theorem dX5_brackets_170 : decode cX5_brackets 170 = .ok (.ireturn, 1) := by decide +kernel
theorem dX5_brackets_158 : decode cX5_brackets 158 = .ok (.aload_n 0, 1) := by decide +kernel
theorem dX5_brackets_159 : decode cX5_brackets 159 = .ok (.iload_n 3, 1) := by decide +kernel
theorem dX5_brackets_160 : decode cX5_brackets 160 = .ok (.iload_n 2, 1) := by decide +kernel
theorem dX5_brackets_161 : decode cX5_brackets 161 = .ok (.invokevirtual 77, 3) := by decide +kernel
theorem dX5_brackets_164 : decode cX5_brackets 164 = .ok (.bipush 93, 2) := by decide +kernel
theorem dX5_brackets_166 : decode cX5_brackets 166 = .ok (.if_icmp .eq 5, 3) := by decide +kernel
theorem dX5_brackets_146 : decode cX5_brackets 146 = .ok (.aload_n 0, 1) := by decide +kernel
theorem dX5_brackets_147 : decode cX5_brackets 147 = .ok (.iload_n 3, 1) := by decide +kernel
theorem dX5_brackets_148 : decode cX5_brackets 148 = .ok (.iconst 1, 1) := by decide +kernel
theorem dX5_brackets_149 : decode cX5_brackets 149 = .ok (.iadd, 1) := by decide +kernel
theorem dX5_brackets_150 : decode cX5_brackets 150 = .ok (.putfield 85, 3) := by decide +kernel
theorem dX5_brackets_153 : decode cX5_brackets 153 = .ok (.iload 6, 2) := by decide +kernel
theorem dX5_brackets_155 : decode cX5_brackets 155 = .ok (.ifCond .eq 14, 3) := by decide +kernel
theorem dX5_brackets_137 : decode cX5_brackets 137 = .ok (.iinc 6 1, 3) := by decide +kernel
theorem dX5_brackets_140 : decode cX5_brackets 140 = .ok (.iinc 3 1, 3) := by decide +kernel
theorem dX5_brackets_143 : decode cX5_brackets 143 = .ok (.goto (-102), 3) := by decide +kernel
theorem dX5_brackets_119 : decode cX5_brackets 119 = .ok (.iload 5, 2) := by decide +kernel
theorem dX5_brackets_121 : decode cX5_brackets 121 = .ok (.iconst 1, 1) := by decide +kernel
theorem dX5_brackets_122 : decode cX5_brackets 122 = .ok (.iload 9, 2) := by decide +kernel
theorem dX5_brackets_124 : decode cX5_brackets 124 = .ok (.bipush 97, 2) := by decide +kernel
theorem dX5_brackets_126 : decode cX5_brackets 126 = .ok (.isub, 1) := by decide +kernel
theorem dX5_brackets_127 : decode cX5_brackets 127 = .ok (.ishl, 1) := by decide +kernel
theorem dX5_brackets_128 : decode cX5_brackets 128 = .ok (.ior, 1) := by decide +kernel
theorem dX5_brackets_129 : decode cX5_brackets 129 = .ok (.istore 5, 2) := by decide +kernel
theorem dX5_brackets_131 : decode cX5_brackets 131 = .ok (.iinc 9 1, 3) := by decide +kernel
theorem dX5_brackets_134 : decode cX5_brackets 134 = .ok (.goto (-22), 3) := by decide +kernel
theorem dX5_brackets_112 : decode cX5_brackets 112 = .ok (.iload 9, 2) := by decide +kernel
theorem dX5_brackets_114 : decode cX5_brackets 114 = .ok (.iload 8, 2) := by decide +kernel
theorem dX5_brackets_116 : decode cX5_brackets 116 = .ok (.if_icmp .gt 21, 3) := by decide +kernel
theorem dX5_brackets_108 : decode cX5_brackets 108 = .ok (.iload 7, 2) := by decide +kernel
theorem dX5_brackets_110 : decode cX5_brackets 110 = .ok (.istore 9, 2) := by decide +kernel
theorem dX5_brackets_106 : decode cX5_brackets 106 = .ok (.iconst (-1), 1) := by decide +kernel
theorem dX5_brackets_107 : decode cX5_brackets 107 = .ok (.ireturn, 1) := by decide +kernel
theorem dX5_brackets_99 : decode cX5_brackets 99 = .ok (.iload 8, 2) := by decide +kernel
theorem dX5_brackets_101 : decode cX5_brackets 101 = .ok (.iload 7, 2) := by decide +kernel
theorem dX5_brackets_103 : decode cX5_brackets 103 = .ok (.if_icmp .ge 5, 3) := by decide +kernel
theorem dX5_brackets_91 : decode cX5_brackets 91 = .ok (.iload 8, 2) := by decide +kernel
theorem dX5_brackets_93 : decode cX5_brackets 93 = .ok (.invokestatic 81, 3) := by decide +kernel
theorem dX5_brackets_96 : decode cX5_brackets 96 = .ok (.ifCond .eq 10, 3) := by decide +kernel
theorem dX5_brackets_78 : decode cX5_brackets 78 = .ok (.aload_n 0, 1) := by decide +kernel
theorem dX5_brackets_79 : decode cX5_brackets 79 = .ok (.iload_n 3, 1) := by decide +kernel
theorem dX5_brackets_80 : decode cX5_brackets 80 = .ok (.iconst 2, 1) := by decide +kernel
theorem dX5_brackets_81 : decode cX5_brackets 81 = .ok (.iadd, 1) := by decide +kernel
theorem dX5_brackets_82 : decode cX5_brackets 82 = .ok (.iload_n 2, 1) := by decide +kernel
theorem dX5_brackets_83 : decode cX5_brackets 83 = .ok (.invokevirtual 77, 3) := by decide +kernel
theorem dX5_brackets_86 : decode cX5_brackets 86 = .ok (.istore 8, 2) := by decide +kernel
theorem dX5_brackets_88 : decode cX5_brackets 88 = .ok (.iinc 3 2, 3) := by decide +kernel
theorem dX5_brackets_53 : decode cX5_brackets 53 = .ok (.aload_n 0, 1) := by decide +kernel
theorem dX5_brackets_54 : decode cX5_brackets 54 = .ok (.getfield 7, 3) := by decide +kernel
theorem dX5_brackets_57 : decode cX5_brackets 57 = .ok (.iload_n 3, 1) := by decide +kernel
theorem dX5_brackets_58 : decode cX5_brackets 58 = .ok (.iaload, 1) := by decide +kernel
theorem dX5_brackets_59 : decode cX5_brackets 59 = .ok (.istore 7, 2) := by decide +kernel
theorem dX5_brackets_61 : decode cX5_brackets 61 = .ok (.iload 7, 2) := by decide +kernel
theorem dX5_brackets_63 : decode cX5_brackets 63 = .ok (.istore 8, 2) := by decide +kernel
theorem dX5_brackets_65 : decode cX5_brackets 65 = .ok (.aload_n 0, 1) := by decide +kernel
theorem dX5_brackets_66 : decode cX5_brackets 66 = .ok (.iload_n 3, 1) := by decide +kernel
theorem dX5_brackets_67 : decode cX5_brackets 67 = .ok (.iconst 1, 1) := by decide +kernel
theorem dX5_brackets_68 : decode cX5_brackets 68 = .ok (.iadd, 1) := by decide +kernel
theorem dX5_brackets_69 : decode cX5_brackets 69 = .ok (.iload_n 2, 1) := by decide +kernel
theorem dX5_brackets_70 : decode cX5_brackets 70 = .ok (.invokevirtual 77, 3) := by decide +kernel
theorem dX5_brackets_73 : decode cX5_brackets 73 = .ok (.bipush 45, 2) := by decide +kernel
theorem dX5_brackets_75 : decode cX5_brackets 75 = .ok (.if_icmp .ne 16, 3) := by decide +kernel
theorem dX5_brackets_41 : decode cX5_brackets 41 = .ok (.aload_n 0, 1) := by decide +kernel
theorem dX5_brackets_42 : decode cX5_brackets 42 = .ok (.iload_n 3, 1) := by decide +kernel
theorem dX5_brackets_43 : decode cX5_brackets 43 = .ok (.iload_n 2, 1) := by decide +kernel
theorem dX5_brackets_44 : decode cX5_brackets 44 = .ok (.invokevirtual 77, 3) := by decide +kernel
theorem dX5_brackets_47 : decode cX5_brackets 47 = .ok (.invokestatic 81, 3) := by decide +kernel
theorem dX5_brackets_50 : decode cX5_brackets 50 = .ok (.ifCond .eq 96, 3) := by decide +kernel
theorem dX5_brackets_34 : decode cX5_brackets 34 = .ok (.istore_n 3, 1) := by decide +kernel
theorem dX5_brackets_35 : decode cX5_brackets 35 = .ok (.iconst 0, 1) := by decide +kernel
theorem dX5_brackets_36 : decode cX5_brackets 36 = .ok (.istore 5, 2) := by decide +kernel
theorem dX5_brackets_38 : decode cX5_brackets 38 = .ok (.iconst 0, 1) := by decide +kernel
theorem dX5_brackets_39 : decode cX5_brackets 39 = .ok (.istore 6, 2) := by decide +kernel
theorem dX5_brackets_33 : decode cX5_brackets 33 = .ok (.iload_n 3, 1) := by decide +kernel
theorem dX5_brackets_27 : decode cX5_brackets 27 = .ok (.iload_n 3, 1) := by decide +kernel
theorem dX5_brackets_28 : decode cX5_brackets 28 = .ok (.iconst 1, 1) := by decide +kernel
theorem dX5_brackets_29 : decode cX5_brackets 29 = .ok (.iadd, 1) := by decide +kernel
theorem dX5_brackets_30 : decode cX5_brackets 30 = .ok (.goto 4, 3) := by decide +kernel
theorem dX5_brackets_20 : decode cX5_brackets 20 = .ok (.istore 4, 2) := by decide +kernel
theorem dX5_brackets_22 : decode cX5_brackets 22 = .ok (.iload 4, 2) := by decide +kernel
theorem dX5_brackets_24 : decode cX5_brackets 24 = .ok (.ifCond .eq 9, 3) := by decide +kernel
theorem dX5_brackets_19 : decode cX5_brackets 19 = .ok (.iconst 0, 1) := by decide +kernel
theorem dX5_brackets_15 : decode cX5_brackets 15 = .ok (.iconst 1, 1) := by decide +kernel
theorem dX5_brackets_16 : decode cX5_brackets 16 = .ok (.goto 4, 3) := by decide +kernel
theorem dX5_brackets_0 : decode cX5_brackets 0 = .ok (.iload_n 1, 1) := by decide +kernel
theorem dX5_brackets_1 : decode cX5_brackets 1 = .ok (.iconst 1, 1) := by decide +kernel
theorem dX5_brackets_2 : decode cX5_brackets 2 = .ok (.iadd, 1) := by decide +kernel
theorem dX5_brackets_3 : decode cX5_brackets 3 = .ok (.istore_n 3, 1) := by decide +kernel
theorem dX5_brackets_4 : decode cX5_brackets 4 = .ok (.aload_n 0, 1) := by decide +kernel
theorem dX5_brackets_5 : decode cX5_brackets 5 = .ok (.iload_n 3, 1) := by decide +kernel
theorem dX5_brackets_6 : decode cX5_brackets 6 = .ok (.iload_n 2, 1) := by decide +kernel
theorem dX5_brackets_7 : decode cX5_brackets 7 = .ok (.invokevirtual 77, 3) := by decide +kernel
theorem dX5_brackets_10 : decode cX5_brackets 10 = .ok (.bipush 94, 2) := by decide +kernel
theorem dX5_brackets_12 : decode cX5_brackets 12 = .ok (.if_icmp .ne 7, 3) := by decide +kernel
-- X5_init
def wX5_init : List Cond := Cond.code yX5_init cX5_init 2 none :: kv_tb
abbrev SX5_init (pc : Nat) (F : kv_D) : Prop := kv_S cX5_init 2 RX5 wX5_init none true 1 20 none pc F
def fX5_init_188 (K : Nat → kv_D) : kv_D := o_ret
theorem sX5_init_188 {K : Nat → kv_D} (hK : ∀ pc, SX5_init pc (K pc)) : SX5_init 188 (fX5_init_188 K) := k_ret dX5_init_188 rfl
theorem nX5_init_188 : kv_cn (fun K => fX5_init_188 K) := cn_c _
def fX5_init_175 (K : Nat → kv_D) : kv_D := o_aload 0 (o_getf 5 2 (o_iload 1 (o_const (-1) (o_iast 0 (fun x => x) (o_iinc 1 1 ((K 169)))))))
theorem sX5_init_175 {K : Nat → kv_D} (hK : ∀ pc, SX5_init pc (K pc)) : SX5_init 175 (fX5_init_175 K) := k_aload_n dX5_init_175 rfl (k_getf (C := RX5) (T := TX5) (N := 32) (ci := 5) (index := 13) (kf := 2) dX5_init_176 rfl (fun w h => List.mem_cons_of_mem _ (inX5 w h)) (by decide) (List.mem_cons_of_mem _ mw_421) (k_iload_n dX5_init_179 rfl (k_iconst dX5_init_180 (by decide +kernel) (k_iast dX5_init_181 rfl (k_iinc dX5_init_182 (by decide +kernel) (by decide) (k_goto dX5_init_185 rfl (hK 169)))))))
theorem nX5_init_175 : kv_cn (fun K => fX5_init_175 K) := cn_aload 0 (cn_getf 5 2 (cn_iload 1 (cn_const (-1) (cn_iast 0 (fun x => x) (cn_iinc 1 1 ((cn_K 169)))))))
def fX5_init_169 (K : Nat → kv_D) : kv_D := o_iload 1 (o_const 26 (o_icge (fX5_init_188 K) (fX5_init_175 K)))
theorem sX5_init_169 {K : Nat → kv_D} (hK : ∀ pc, SX5_init pc (K pc)) : SX5_init 169 (fX5_init_169 K) := k_iload_n dX5_init_169 rfl (k_bipush dX5_init_170 (by decide +kernel) (k_icge dX5_init_172 rfl (sX5_init_188 hK) (sX5_init_175 hK)))
theorem nX5_init_169 : kv_cn (fun K => fX5_init_169 K) := cn_iload 1 (cn_const 26 (cn_icge nX5_init_188 nX5_init_175))
def fX5_init_0 (K : Nat → kv_D) : kv_D := o_aload 0 (o_obj (o_aload 0 (o_const 48 (o_newa 0 .int (o_putf 5 1 (.array .int) (o_aload 0 (o_const 26 (o_newa 0 .int (o_putf 5 2 (.array .int) (o_aload 0 (o_const 48 (o_newa 0 .int (o_putf 5 4 (.array .int) (o_aload 0 (o_const 48 (o_newa 0 .int (o_putf 5 5 (.array .int) (o_aload 0 (o_const 48 (o_newa 0 .int (o_putf 5 6 (.array .int) (o_aload 0 (o_const 48 (o_newa 0 .int (o_putf 5 7 (.array .int) (o_aload 0 (o_const 8 (o_newa 0 .int (o_putf 5 12 (.array .int) (o_aload 0 (o_const 8 (o_newa 0 .int (o_putf 5 13 (.array .int) (o_aload 0 (o_const 8 (o_newa 0 .int (o_putf 5 14 (.array .int) (o_aload 0 (o_const 96 (o_newa 0 .int (o_putf 5 15 (.array .int) (o_aload 0 (o_const 96 (o_newa 0 .int (o_putf 5 16 (.array .int) (o_aload 0 (o_const 96 (o_newa 0 .int (o_putf 5 17 (.array .int) (o_aload 0 (o_const 96 (o_newa 0 .int (o_putf 5 18 (.array .int) (o_aload 0 (o_const 8 (o_newa 0 .int (o_putf 5 19 (.array .int) (o_aload 0 (o_const 8 (o_newa 0 .int (o_putf 5 20 (.array .int) (o_aload 0 (o_const 96 (o_newa 0 .int (o_putf 5 21 (.array .int) (o_aload 0 (o_const 60 (o_newa 0 .int (o_putf 5 23 (.array .int) (o_aload 0 (o_const 60 (o_newa 0 .int (o_putf 5 24 (.array .int) (o_aload 0 (o_const (-1) (o_putf 5 27 .int (o_aload 0 (o_const 4 (o_newa 0 .int (o_putf 5 30 (.array .int) (o_aload 0 (o_const 4 (o_newa 0 .int (o_putf 5 31 (.array .int) (o_const 0 (o_istore 1 ((K 169))))))))))))))))))))))))))))))))))))))))))))))))))))))))))))))))))))))))))))))))))))))))
theorem sX5_init_0 {K : Nat → kv_D} (hK : ∀ pc, SX5_init pc (K pc)) : SX5_init 0 (fX5_init_0 K) := k_aload_n dX5_init_0 rfl (k_obj dX5_init_1 (List.mem_cons_of_mem _ mw_418) (List.mem_cons_of_mem _ mw_15) (List.mem_cons_of_mem _ mw_16) (by decide) (by decide) (k_aload_n dX5_init_4 rfl (k_bipush dX5_init_5 (by decide +kernel) (k_newa dX5_init_7 rfl rfl rfl (List.mem_cons_of_mem _ mw_48) (k_putf (C := RX5) (T := TX5) (N := 32) (ci := 5) (index := 7) (kf := 1) (ty := (.array .int)) dX5_init_9 rfl (fun w h => List.mem_cons_of_mem _ (inX5 w h)) tyX5 tyX5_ok nmX5 (by decide) (List.mem_cons_of_mem _ mw_420) rfl rfl (k_aload_n dX5_init_12 rfl (k_bipush dX5_init_13 (by decide +kernel) (k_newa dX5_init_15 rfl rfl rfl (List.mem_cons_of_mem _ mw_48) (k_putf (C := RX5) (T := TX5) (N := 32) (ci := 5) (index := 13) (kf := 2) (ty := (.array .int)) dX5_init_17 rfl (fun w h => List.mem_cons_of_mem _ (inX5 w h)) tyX5 tyX5_ok nmX5 (by decide) (List.mem_cons_of_mem _ mw_421) rfl rfl (k_aload_n dX5_init_20 rfl (k_bipush dX5_init_21 (by decide +kernel) (k_newa dX5_init_23 rfl rfl rfl (List.mem_cons_of_mem _ mw_48) (k_putf (C := RX5) (T := TX5) (N := 32) (ci := 5) (index := 16) (kf := 4) (ty := (.array .int)) dX5_init_25 rfl (fun w h => List.mem_cons_of_mem _ (inX5 w h)) tyX5 tyX5_ok nmX5 (by decide) (List.mem_cons_of_mem _ mw_423) rfl rfl (k_aload_n dX5_init_28 rfl (k_bipush dX5_init_29 (by decide +kernel) (k_newa dX5_init_31 rfl rfl rfl (List.mem_cons_of_mem _ mw_48) (k_putf (C := RX5) (T := TX5) (N := 32) (ci := 5) (index := 19) (kf := 5) (ty := (.array .int)) dX5_init_33 rfl (fun w h => List.mem_cons_of_mem _ (inX5 w h)) tyX5 tyX5_ok nmX5 (by decide) (List.mem_cons_of_mem _ mw_424) rfl rfl (k_aload_n dX5_init_36 rfl (k_bipush dX5_init_37 (by decide +kernel) (k_newa dX5_init_39 rfl rfl rfl (List.mem_cons_of_mem _ mw_48) (k_putf (C := RX5) (T := TX5) (N := 32) (ci := 5) (index := 22) (kf := 6) (ty := (.array .int)) dX5_init_41 rfl (fun w h => List.mem_cons_of_mem _ (inX5 w h)) tyX5 tyX5_ok nmX5 (by decide) (List.mem_cons_of_mem _ mw_425) rfl rfl (k_aload_n dX5_init_44 rfl (k_bipush dX5_init_45 (by decide +kernel) (k_newa dX5_init_47 rfl rfl rfl (List.mem_cons_of_mem _ mw_48) (k_putf (C := RX5) (T := TX5) (N := 32) (ci := 5) (index := 25) (kf := 7) (ty := (.array .int)) dX5_init_49 rfl (fun w h => List.mem_cons_of_mem _ (inX5 w h)) tyX5 tyX5_ok nmX5 (by decide) (List.mem_cons_of_mem _ mw_426) rfl rfl (k_aload_n dX5_init_52 rfl (k_bipush dX5_init_53 (by decide +kernel) (k_newa dX5_init_55 rfl rfl rfl (List.mem_cons_of_mem _ mw_48) (k_putf (C := RX5) (T := TX5) (N := 32) (ci := 5) (index := 28) (kf := 12) (ty := (.array .int)) dX5_init_57 rfl (fun w h => List.mem_cons_of_mem _ (inX5 w h)) tyX5 tyX5_ok nmX5 (by decide) (List.mem_cons_of_mem _ mw_431) rfl rfl (k_aload_n dX5_init_60 rfl (k_bipush dX5_init_61 (by decide +kernel) (k_newa dX5_init_63 rfl rfl rfl (List.mem_cons_of_mem _ mw_48) (k_putf (C := RX5) (T := TX5) (N := 32) (ci := 5) (index := 31) (kf := 13) (ty := (.array .int)) dX5_init_65 rfl (fun w h => List.mem_cons_of_mem _ (inX5 w h)) tyX5 tyX5_ok nmX5 (by decide) (List.mem_cons_of_mem _ mw_432) rfl rfl (k_aload_n dX5_init_68 rfl (k_bipush dX5_init_69 (by decide +kernel) (k_newa dX5_init_71 rfl rfl rfl (List.mem_cons_of_mem _ mw_48) (k_putf (C := RX5) (T := TX5) (N := 32) (ci := 5) (index := 34) (kf := 14) (ty := (.array .int)) dX5_init_73 rfl (fun w h => List.mem_cons_of_mem _ (inX5 w h)) tyX5 tyX5_ok nmX5 (by decide) (List.mem_cons_of_mem _ mw_433) rfl rfl (k_aload_n dX5_init_76 rfl (k_bipush dX5_init_77 (by decide +kernel) (k_newa dX5_init_79 rfl rfl rfl (List.mem_cons_of_mem _ mw_48) (k_putf (C := RX5) (T := TX5) (N := 32) (ci := 5) (index := 37) (kf := 15) (ty := (.array .int)) dX5_init_81 rfl (fun w h => List.mem_cons_of_mem _ (inX5 w h)) tyX5 tyX5_ok nmX5 (by decide) (List.mem_cons_of_mem _ mw_434) rfl rfl (k_aload_n dX5_init_84 rfl (k_bipush dX5_init_85 (by decide +kernel) (k_newa dX5_init_87 rfl rfl rfl (List.mem_cons_of_mem _ mw_48) (k_putf (C := RX5) (T := TX5) (N := 32) (ci := 5) (index := 40) (kf := 16) (ty := (.array .int)) dX5_init_89 rfl (fun w h => List.mem_cons_of_mem _ (inX5 w h)) tyX5 tyX5_ok nmX5 (by decide) (List.mem_cons_of_mem _ mw_435) rfl rfl (k_aload_n dX5_init_92 rfl (k_bipush dX5_init_93 (by decide +kernel) (k_newa dX5_init_95 rfl rfl rfl (List.mem_cons_of_mem _ mw_48) (k_putf (C := RX5) (T := TX5) (N := 32) (ci := 5) (index := 43) (kf := 17) (ty := (.array .int)) dX5_init_97 rfl (fun w h => List.mem_cons_of_mem _ (inX5 w h)) tyX5 tyX5_ok nmX5 (by decide) (List.mem_cons_of_mem _ mw_436) rfl rfl (k_aload_n dX5_init_100 rfl (k_bipush dX5_init_101 (by decide +kernel) (k_newa dX5_init_103 rfl rfl rfl (List.mem_cons_of_mem _ mw_48) (k_putf (C := RX5) (T := TX5) (N := 32) (ci := 5) (index := 46) (kf := 18) (ty := (.array .int)) dX5_init_105 rfl (fun w h => List.mem_cons_of_mem _ (inX5 w h)) tyX5 tyX5_ok nmX5 (by decide) (List.mem_cons_of_mem _ mw_437) rfl rfl (k_aload_n dX5_init_108 rfl (k_bipush dX5_init_109 (by decide +kernel) (k_newa dX5_init_111 rfl rfl rfl (List.mem_cons_of_mem _ mw_48) (k_putf (C := RX5) (T := TX5) (N := 32) (ci := 5) (index := 49) (kf := 19) (ty := (.array .int)) dX5_init_113 rfl (fun w h => List.mem_cons_of_mem _ (inX5 w h)) tyX5 tyX5_ok nmX5 (by decide) (List.mem_cons_of_mem _ mw_438) rfl rfl (k_aload_n dX5_init_116 rfl (k_bipush dX5_init_117 (by decide +kernel) (k_newa dX5_init_119 rfl rfl rfl (List.mem_cons_of_mem _ mw_48) (k_putf (C := RX5) (T := TX5) (N := 32) (ci := 5) (index := 52) (kf := 20) (ty := (.array .int)) dX5_init_121 rfl (fun w h => List.mem_cons_of_mem _ (inX5 w h)) tyX5 tyX5_ok nmX5 (by decide) (List.mem_cons_of_mem _ mw_439) rfl rfl (k_aload_n dX5_init_124 rfl (k_bipush dX5_init_125 (by decide +kernel) (k_newa dX5_init_127 rfl rfl rfl (List.mem_cons_of_mem _ mw_48) (k_putf (C := RX5) (T := TX5) (N := 32) (ci := 5) (index := 55) (kf := 21) (ty := (.array .int)) dX5_init_129 rfl (fun w h => List.mem_cons_of_mem _ (inX5 w h)) tyX5 tyX5_ok nmX5 (by decide) (List.mem_cons_of_mem _ mw_440) rfl rfl (k_aload_n dX5_init_132 rfl (k_bipush dX5_init_133 (by decide +kernel) (k_newa dX5_init_135 rfl rfl rfl (List.mem_cons_of_mem _ mw_48) (k_putf (C := RX5) (T := TX5) (N := 32) (ci := 5) (index := 58) (kf := 23) (ty := (.array .int)) dX5_init_137 rfl (fun w h => List.mem_cons_of_mem _ (inX5 w h)) tyX5 tyX5_ok nmX5 (by decide) (List.mem_cons_of_mem _ mw_442) rfl rfl (k_aload_n dX5_init_140 rfl (k_bipush dX5_init_141 (by decide +kernel) (k_newa dX5_init_143 rfl rfl rfl (List.mem_cons_of_mem _ mw_48) (k_putf (C := RX5) (T := TX5) (N := 32) (ci := 5) (index := 61) (kf := 24) (ty := (.array .int)) dX5_init_145 rfl (fun w h => List.mem_cons_of_mem _ (inX5 w h)) tyX5 tyX5_ok nmX5 (by decide) (List.mem_cons_of_mem _ mw_443) rfl rfl (k_aload_n dX5_init_148 rfl (k_iconst dX5_init_149 (by decide +kernel) (k_putf (C := RX5) (T := TX5) (N := 32) (ci := 5) (index := 64) (kf := 27) (ty := .int) dX5_init_150 rfl (fun w h => List.mem_cons_of_mem _ (inX5 w h)) tyX5 tyX5_ok nmX5 (by decide) (List.mem_cons_of_mem _ mw_446) rfl rfl (k_aload_n dX5_init_153 rfl (k_iconst dX5_init_154 (by decide +kernel) (k_newa dX5_init_155 rfl rfl rfl (List.mem_cons_of_mem _ mw_48) (k_putf (C := RX5) (T := TX5) (N := 32) (ci := 5) (index := 68) (kf := 30) (ty := (.array .int)) dX5_init_157 rfl (fun w h => List.mem_cons_of_mem _ (inX5 w h)) tyX5 tyX5_ok nmX5 (by decide) (List.mem_cons_of_mem _ mw_449) rfl rfl (k_aload_n dX5_init_160 rfl (k_iconst dX5_init_161 (by decide +kernel) (k_newa dX5_init_162 rfl rfl rfl (List.mem_cons_of_mem _ mw_48) (k_putf (C := RX5) (T := TX5) (N := 32) (ci := 5) (index := 71) (kf := 31) (ty := (.array .int)) dX5_init_164 rfl (fun w h => List.mem_cons_of_mem _ (inX5 w h)) tyX5 tyX5_ok nmX5 (by decide) (List.mem_cons_of_mem _ mw_450) rfl rfl (k_iconst dX5_init_167 (by decide +kernel) (k_istore_n dX5_init_168 rfl (by decide) ((hK 169))))))))))))))))))))))))))))))))))))))))))))))))))))))))))))))))))))))))))))))))))))))))
theorem nX5_init_0 : kv_cn (fun K => fX5_init_0 K) := cn_aload 0 (cn_obj (cn_aload 0 (cn_const 48 (cn_newa 0 .int (cn_putf 5 1 (.array .int) (cn_aload 0 (cn_const 26 (cn_newa 0 .int (cn_putf 5 2 (.array .int) (cn_aload 0 (cn_const 48 (cn_newa 0 .int (cn_putf 5 4 (.array .int) (cn_aload 0 (cn_const 48 (cn_newa 0 .int (cn_putf 5 5 (.array .int) (cn_aload 0 (cn_const 48 (cn_newa 0 .int (cn_putf 5 6 (.array .int) (cn_aload 0 (cn_const 48 (cn_newa 0 .int (cn_putf 5 7 (.array .int) (cn_aload 0 (cn_const 8 (cn_newa 0 .int (cn_putf 5 12 (.array .int) (cn_aload 0 (cn_const 8 (cn_newa 0 .int (cn_putf 5 13 (.array .int) (cn_aload 0 (cn_const 8 (cn_newa 0 .int (cn_putf 5 14 (.array .int) (cn_aload 0 (cn_const 96 (cn_newa 0 .int (cn_putf 5 15 (.array .int) (cn_aload 0 (cn_const 96 (cn_newa 0 .int (cn_putf 5 16 (.array .int) (cn_aload 0 (cn_const 96 (cn_newa 0 .int (cn_putf 5 17 (.array .int) (cn_aload 0 (cn_const 96 (cn_newa 0 .int (cn_putf 5 18 (.array .int) (cn_aload 0 (cn_const 8 (cn_newa 0 .int (cn_putf 5 19 (.array .int) (cn_aload 0 (cn_const 8 (cn_newa 0 .int (cn_putf 5 20 (.array .int) (cn_aload 0 (cn_const 96 (cn_newa 0 .int (cn_putf 5 21 (.array .int) (cn_aload 0 (cn_const 60 (cn_newa 0 .int (cn_putf 5 23 (.array .int) (cn_aload 0 (cn_const 60 (cn_newa 0 .int (cn_putf 5 24 (.array .int) (cn_aload 0 (cn_const (-1) (cn_putf 5 27 .int (cn_aload 0 (cn_const 4 (cn_newa 0 .int (cn_putf 5 30 (.array .int) (cn_aload 0 (cn_const 4 (cn_newa 0 .int (cn_putf 5 31 (.array .int) (cn_const 0 (cn_istore 1 ((cn_K 169))))))))))))))))))))))))))))))))))))))))))))))))))))))))))))))))))))))))))))))))))))))))
def bX5_init (K : Nat → kv_D) (pc : Nat) : kv_D := if pc = 169 then fX5_init_169 K else fun _ _ _ _ _ => False
theorem hX5_init : ∀ pc, SX5_init pc (kv_lim (bX5_init) pc) := kv_lim_S (fun K hK pc => by
  unfold bX5_init
  by_cases q169 : pc = 169
  · rw [if_pos q169, q169]
    exact sX5_init_169 hK
  rw [if_neg q169]
  exact kv_none)
theorem uX5_init_169 {L : List (Option Value)} {st : List Value} {h : kv_H} {v : Option Value} {h' : kv_H} (hx : fX5_init_169 (kv_lim (bX5_init)) L st h v h') : kv_lim (bX5_init) 169 L st h v h' := kv_un (q := 169) (by have e : (fun K => bX5_init K 169) = fun K => fX5_init_169 K := (by funext K; rfl); rw [e]; exact nX5_init_169) (by have e : bX5_init (kv_lim (bX5_init)) 169 = fX5_init_169 (kv_lim (bX5_init)) := rfl; rw [e]; exact hx)
def mX5_init : kv_M := kv_in 1 2 (fX5_init_0 (kv_lim (bX5_init)))
theorem cX5_init_ct : kv_CT yX5_init wX5_init 1 20 mX5_init := kv_met (by decide) rfl rfl (by decide) (fun _ => rfl) (sX5_init_0 (hX5_init))
-- X5_capital
def wX5_capital : List Cond := Cond.code yX5_capital cX5_capital 1 (some .boolean) :: kv_tb
abbrev SX5_capital (pc : Nat) (F : kv_D) : Prop := kv_S cX5_capital 1 RX5 wX5_capital (some .boolean) false 0 0 none pc F
def fX5_capital_17 : kv_D := o_iret .boolean
theorem sX5_capital_17 : SX5_capital 17 (fX5_capital_17) := k_iret dX5_capital_17 rfl
def fX5_capital_16 : kv_D := o_const 0 ((fX5_capital_17))
theorem sX5_capital_16 : SX5_capital 16 (fX5_capital_16) := k_iconst dX5_capital_16 (by decide +kernel) ((sX5_capital_17))
def fX5_capital_12 : kv_D := o_const 1 ((fX5_capital_17))
theorem sX5_capital_12 : SX5_capital 12 (fX5_capital_12) := k_iconst dX5_capital_12 (by decide +kernel) (k_goto dX5_capital_13 rfl (sX5_capital_17))
def fX5_capital_6 : kv_D := o_iload 0 (o_const 90 (o_icgt (fX5_capital_16) (fX5_capital_12)))
theorem sX5_capital_6 : SX5_capital 6 (fX5_capital_6) := k_iload_n dX5_capital_6 rfl (k_bipush dX5_capital_7 (by decide +kernel) (k_icgt dX5_capital_9 rfl (sX5_capital_16) (sX5_capital_12)))
def fX5_capital_0 : kv_D := o_iload 0 (o_const 65 (o_iclt (fX5_capital_16) (fX5_capital_6)))
theorem sX5_capital_0 : SX5_capital 0 (fX5_capital_0) := k_iload_n dX5_capital_0 rfl (k_bipush dX5_capital_1 (by decide +kernel) (k_iclt dX5_capital_3 rfl (sX5_capital_16) (sX5_capital_6)))
def mX5_capital : kv_M := kv_in 1 1 (fX5_capital_0)
theorem cX5_capital_ct : kv_CT yX5_capital wX5_capital 0 0 mX5_capital := kv_met (by decide) rfl rfl (by decide) (fun h => by cases h) (sX5_capital_0)
-- X5_at
def wX5_at : List Cond := Cond.code yX5_at cX5_at 3 (some .int) :: kv_tb
abbrev SX5_at (pc : Nat) (F : kv_D) : Prop := kv_S cX5_at 3 RX5 wX5_at (some .int) false 0 0 none pc F
def fX5_at_15 : kv_D := o_iret .int
theorem sX5_at_15 : SX5_at 15 (fX5_at_15) := k_iret dX5_at_15 rfl
def fX5_at_14 : kv_D := o_const 0 ((fX5_at_15))
theorem sX5_at_14 : SX5_at 14 (fX5_at_14) := k_iconst dX5_at_14 (by decide +kernel) ((sX5_at_15))
def fX5_at_5 : kv_D := o_aload 0 (o_getf 5 1 (o_iload 1 (o_iald 0 ((fX5_at_15)))))
theorem sX5_at_5 : SX5_at 5 (fX5_at_5) := k_aload_n dX5_at_5 rfl (k_getf (C := RX5) (T := TX5) (N := 32) (ci := 5) (index := 7) (kf := 1) dX5_at_6 rfl (fun w h => List.mem_cons_of_mem _ (inX5 w h)) (by decide) (List.mem_cons_of_mem _ mw_420) (k_iload_n dX5_at_9 rfl (k_iald dX5_at_10 rfl (k_goto dX5_at_11 rfl (sX5_at_15)))))
def fX5_at_0 : kv_D := o_iload 1 (o_iload 2 (o_icge (fX5_at_14) (fX5_at_5)))
theorem sX5_at_0 : SX5_at 0 (fX5_at_0) := k_iload_n dX5_at_0 rfl (k_iload_n dX5_at_1 rfl (k_icge dX5_at_2 rfl (sX5_at_14) (sX5_at_5)))
def mX5_at : kv_M := kv_in 3 3 (fX5_at_0)
theorem cX5_at_ct : kv_CT yX5_at wX5_at 0 0 mX5_at := kv_met (by decide) rfl rfl (by decide) (fun h => by cases h) (sX5_at_0)
-- X5_small
def wX5_small : List Cond := Cond.code yX5_small cX5_small 1 (some .boolean) :: kv_tb
abbrev SX5_small (pc : Nat) (F : kv_D) : Prop := kv_S cX5_small 1 RX5 wX5_small (some .boolean) false 0 0 none pc F
def fX5_small_17 : kv_D := o_iret .boolean
theorem sX5_small_17 : SX5_small 17 (fX5_small_17) := k_iret dX5_small_17 rfl
def fX5_small_16 : kv_D := o_const 0 ((fX5_small_17))
theorem sX5_small_16 : SX5_small 16 (fX5_small_16) := k_iconst dX5_small_16 (by decide +kernel) ((sX5_small_17))
def fX5_small_12 : kv_D := o_const 1 ((fX5_small_17))
theorem sX5_small_12 : SX5_small 12 (fX5_small_12) := k_iconst dX5_small_12 (by decide +kernel) (k_goto dX5_small_13 rfl (sX5_small_17))
def fX5_small_6 : kv_D := o_iload 0 (o_const 122 (o_icgt (fX5_small_16) (fX5_small_12)))
theorem sX5_small_6 : SX5_small 6 (fX5_small_6) := k_iload_n dX5_small_6 rfl (k_bipush dX5_small_7 (by decide +kernel) (k_icgt dX5_small_9 rfl (sX5_small_16) (sX5_small_12)))
def fX5_small_0 : kv_D := o_iload 0 (o_const 97 (o_iclt (fX5_small_16) (fX5_small_6)))
theorem sX5_small_0 : SX5_small 0 (fX5_small_0) := k_iload_n dX5_small_0 rfl (k_bipush dX5_small_1 (by decide +kernel) (k_iclt dX5_small_3 rfl (sX5_small_16) (sX5_small_6)))
def mX5_small : kv_M := kv_in 1 1 (fX5_small_0)
theorem cX5_small_ct : kv_CT yX5_small wX5_small 0 0 mX5_small := kv_met (by decide) rfl rfl (by decide) (fun h => by cases h) (sX5_small_0)
-- X5_brackets
def wX5_brackets : List Cond := Cond.code yX5_brackets cX5_brackets 10 (some .int) :: kv_tb
abbrev SX5_brackets (pc : Nat) (F : kv_D) : Prop := kv_S cX5_brackets 10 RX5 wX5_brackets (some .int) false 1 22 none pc F
def fX5_brackets_188 (K : Nat → kv_D) : kv_D := o_iret .int
theorem sX5_brackets_188 {K : Nat → kv_D} (hK : ∀ pc, SX5_brackets pc (K pc)) : SX5_brackets 188 (fX5_brackets_188 K) := k_iret dX5_brackets_188 rfl
theorem nX5_brackets_188 : kv_cn (fun K => fX5_brackets_188 K) := cn_c _
def fX5_brackets_186 (K : Nat → kv_D) : kv_D := o_iload 5 ((fX5_brackets_188 K))
theorem sX5_brackets_186 {K : Nat → kv_D} (hK : ∀ pc, SX5_brackets pc (K pc)) : SX5_brackets 186 (fX5_brackets_186 K) := k_iload dX5_brackets_186 ((sX5_brackets_188 hK))
theorem nX5_brackets_186 : kv_cn (fun K => fX5_brackets_186 K) := cn_iload 5 (nX5_brackets_188)
def fX5_brackets_176 (K : Nat → kv_D) : kv_D := o_const 67108863 (o_iload 5 (o_const (-1) (o_ixor (o_iand ((fX5_brackets_188 K))))))
theorem sX5_brackets_176 {K : Nat → kv_D} (hK : ∀ pc, SX5_brackets pc (K pc)) : SX5_brackets 176 (fX5_brackets_176 K) := k_ldc dX5_brackets_176 (List.mem_cons_of_mem _ mw_539) (k_iload dX5_brackets_178 (k_iconst dX5_brackets_180 (by decide +kernel) (k_ixor dX5_brackets_181 (k_iand dX5_brackets_182 (k_goto dX5_brackets_183 rfl (sX5_brackets_188 hK))))))
theorem nX5_brackets_176 : kv_cn (fun K => fX5_brackets_176 K) := cn_const 67108863 (cn_iload 5 (cn_const (-1) (cn_ixor (cn_iand (nX5_brackets_188)))))
def fX5_brackets_171 (K : Nat → kv_D) : kv_D := o_iload 4 (o_ifeq (fX5_brackets_186 K) (fX5_brackets_176 K))
theorem sX5_brackets_171 {K : Nat → kv_D} (hK : ∀ pc, SX5_brackets pc (K pc)) : SX5_brackets 171 (fX5_brackets_171 K) := k_iload dX5_brackets_171 (k_ifeq dX5_brackets_173 rfl (sX5_brackets_186 hK) (sX5_brackets_176 hK))
theorem nX5_brackets_171 : kv_cn (fun K => fX5_brackets_171 K) := cn_iload 4 (cn_ifeq nX5_brackets_186 nX5_brackets_176)
def fX5_brackets_169 (K : Nat → kv_D) : kv_D := o_const (-1) (o_iret .int)
theorem sX5_brackets_169 {K : Nat → kv_D} (hK : ∀ pc, SX5_brackets pc (K pc)) : SX5_brackets 169 (fX5_brackets_169 K) := k_iconst dX5_brackets_169 (by decide +kernel) (k_iret dX5_brackets_170 rfl)
theorem nX5_brackets_169 : kv_cn (fun K => fX5_brackets_169 K) := cn_const (-1) (cn_c _)
def fX5_brackets_158 (K : Nat → kv_D) : kv_D := o_aload 0 (o_iload 3 (o_iload 2 (o_callV 5 2 mX5_at (o_const 93 (o_iceq (fX5_brackets_171 K) (fX5_brackets_169 K))))))
theorem sX5_brackets_158 {K : Nat → kv_D} (hK : ∀ pc, SX5_brackets pc (K pc)) : SX5_brackets 158 (fX5_brackets_158 K) := k_aload_n dX5_brackets_158 rfl (k_iload_n dX5_brackets_159 rfl (k_iload_n dX5_brackets_160 rfl (k_callV (q := (RX5, TX5, 32)) dX5_brackets_161 cX5_at_ct rfl (kv_goodV mw_535 mw_537 sel_X5_at mw_6 mw_538) (by decide +kernel) rfl (by decide) (by decide) (k_bipush dX5_brackets_164 (by decide +kernel) (k_iceq dX5_brackets_166 rfl (sX5_brackets_171 hK) (sX5_brackets_169 hK))))))
theorem nX5_brackets_158 : kv_cn (fun K => fX5_brackets_158 K) := cn_aload 0 (cn_iload 3 (cn_iload 2 (cn_callV 5 2 mX5_at (cn_const 93 (cn_iceq nX5_brackets_171 nX5_brackets_169)))))
def fX5_brackets_146 (K : Nat → kv_D) : kv_D := o_aload 0 (o_iload 3 (o_const 1 (o_iadd (o_putf 5 10 .int (o_iload 6 (o_ifeq (fX5_brackets_169 K) (fX5_brackets_158 K)))))))
theorem sX5_brackets_146 {K : Nat → kv_D} (hK : ∀ pc, SX5_brackets pc (K pc)) : SX5_brackets 146 (fX5_brackets_146 K) := k_aload_n dX5_brackets_146 rfl (k_iload_n dX5_brackets_147 rfl (k_iconst dX5_brackets_148 (by decide +kernel) (k_iadd dX5_brackets_149 (k_putf (C := RX5) (T := TX5) (N := 32) (ci := 5) (index := 85) (kf := 10) (ty := .int) dX5_brackets_150 rfl (fun w h => List.mem_cons_of_mem _ (inX5 w h)) tyX5 tyX5_ok nmX5 (by decide) (List.mem_cons_of_mem _ mw_429) rfl rfl (k_iload dX5_brackets_153 (k_ifeq dX5_brackets_155 rfl (sX5_brackets_169 hK) (sX5_brackets_158 hK)))))))
theorem nX5_brackets_146 : kv_cn (fun K => fX5_brackets_146 K) := cn_aload 0 (cn_iload 3 (cn_const 1 (cn_iadd (cn_putf 5 10 .int (cn_iload 6 (cn_ifeq nX5_brackets_169 nX5_brackets_158))))))
def fX5_brackets_137 (K : Nat → kv_D) : kv_D := o_iinc 6 1 (o_iinc 3 1 ((K 41)))
theorem sX5_brackets_137 {K : Nat → kv_D} (hK : ∀ pc, SX5_brackets pc (K pc)) : SX5_brackets 137 (fX5_brackets_137 K) := k_iinc dX5_brackets_137 (by decide +kernel) (by decide) (k_iinc dX5_brackets_140 (by decide +kernel) (by decide) (k_goto dX5_brackets_143 rfl (hK 41)))
theorem nX5_brackets_137 : kv_cn (fun K => fX5_brackets_137 K) := cn_iinc 6 1 (cn_iinc 3 1 ((cn_K 41)))
def fX5_brackets_119 (K : Nat → kv_D) : kv_D := o_iload 5 (o_const 1 (o_iload 9 (o_const 97 (o_isub (o_ishl (o_ior (o_istore 5 (o_iinc 9 1 ((K 112))))))))))
theorem sX5_brackets_119 {K : Nat → kv_D} (hK : ∀ pc, SX5_brackets pc (K pc)) : SX5_brackets 119 (fX5_brackets_119 K) := k_iload dX5_brackets_119 (k_iconst dX5_brackets_121 (by decide +kernel) (k_iload dX5_brackets_122 (k_bipush dX5_brackets_124 (by decide +kernel) (k_isub dX5_brackets_126 (k_ishl dX5_brackets_127 (k_ior dX5_brackets_128 (k_istore dX5_brackets_129 (by decide) (k_iinc dX5_brackets_131 (by decide +kernel) (by decide) (k_goto dX5_brackets_134 rfl (hK 112))))))))))
theorem nX5_brackets_119 : kv_cn (fun K => fX5_brackets_119 K) := cn_iload 5 (cn_const 1 (cn_iload 9 (cn_const 97 (cn_isub (cn_ishl (cn_ior (cn_istore 5 (cn_iinc 9 1 ((cn_K 112))))))))))
def fX5_brackets_112 (K : Nat → kv_D) : kv_D := o_iload 9 (o_iload 8 (o_icgt (fX5_brackets_137 K) (fX5_brackets_119 K)))
theorem sX5_brackets_112 {K : Nat → kv_D} (hK : ∀ pc, SX5_brackets pc (K pc)) : SX5_brackets 112 (fX5_brackets_112 K) := k_iload dX5_brackets_112 (k_iload dX5_brackets_114 (k_icgt dX5_brackets_116 rfl (sX5_brackets_137 hK) (sX5_brackets_119 hK)))
theorem nX5_brackets_112 : kv_cn (fun K => fX5_brackets_112 K) := cn_iload 9 (cn_iload 8 (cn_icgt nX5_brackets_137 nX5_brackets_119))
def fX5_brackets_108 (K : Nat → kv_D) : kv_D := o_iload 7 (o_istore 9 ((K 112)))
theorem sX5_brackets_108 {K : Nat → kv_D} (hK : ∀ pc, SX5_brackets pc (K pc)) : SX5_brackets 108 (fX5_brackets_108 K) := k_iload dX5_brackets_108 (k_istore dX5_brackets_110 (by decide) ((hK 112)))
theorem nX5_brackets_108 : kv_cn (fun K => fX5_brackets_108 K) := cn_iload 7 (cn_istore 9 ((cn_K 112)))
def fX5_brackets_106 (K : Nat → kv_D) : kv_D := o_const (-1) (o_iret .int)
theorem sX5_brackets_106 {K : Nat → kv_D} (hK : ∀ pc, SX5_brackets pc (K pc)) : SX5_brackets 106 (fX5_brackets_106 K) := k_iconst dX5_brackets_106 (by decide +kernel) (k_iret dX5_brackets_107 rfl)
theorem nX5_brackets_106 : kv_cn (fun K => fX5_brackets_106 K) := cn_const (-1) (cn_c _)
def fX5_brackets_99 (K : Nat → kv_D) : kv_D := o_iload 8 (o_iload 7 (o_icge (fX5_brackets_108 K) (fX5_brackets_106 K)))
theorem sX5_brackets_99 {K : Nat → kv_D} (hK : ∀ pc, SX5_brackets pc (K pc)) : SX5_brackets 99 (fX5_brackets_99 K) := k_iload dX5_brackets_99 (k_iload dX5_brackets_101 (k_icge dX5_brackets_103 rfl (sX5_brackets_108 hK) (sX5_brackets_106 hK)))
theorem nX5_brackets_99 : kv_cn (fun K => fX5_brackets_99 K) := cn_iload 8 (cn_iload 7 (cn_icge nX5_brackets_108 nX5_brackets_106))
def fX5_brackets_91 (K : Nat → kv_D) : kv_D := o_iload 8 (o_callS 1 mX5_small (o_ifeq (fX5_brackets_106 K) (fX5_brackets_99 K)))
theorem sX5_brackets_91 {K : Nat → kv_D} (hK : ∀ pc, SX5_brackets pc (K pc)) : SX5_brackets 91 (fX5_brackets_91 K) := k_iload dX5_brackets_91 (k_callS dX5_brackets_93 cX5_small_ct rfl (kv_goodS mw_540 mw_541 mw_6 mw_542) (by decide +kernel) (by decide) (by decide) (k_ifeq dX5_brackets_96 rfl (sX5_brackets_106 hK) (sX5_brackets_99 hK)))
theorem nX5_brackets_91 : kv_cn (fun K => fX5_brackets_91 K) := cn_iload 8 (cn_callS 1 mX5_small (cn_ifeq nX5_brackets_106 nX5_brackets_99))
def fX5_brackets_78 (K : Nat → kv_D) : kv_D := o_aload 0 (o_iload 3 (o_const 2 (o_iadd (o_iload 2 (o_callV 5 2 mX5_at (o_istore 8 (o_iinc 3 2 ((fX5_brackets_91 K)))))))))
theorem sX5_brackets_78 {K : Nat → kv_D} (hK : ∀ pc, SX5_brackets pc (K pc)) : SX5_brackets 78 (fX5_brackets_78 K) := k_aload_n dX5_brackets_78 rfl (k_iload_n dX5_brackets_79 rfl (k_iconst dX5_brackets_80 (by decide +kernel) (k_iadd dX5_brackets_81 (k_iload_n dX5_brackets_82 rfl (k_callV (q := (RX5, TX5, 32)) dX5_brackets_83 cX5_at_ct rfl (kv_goodV mw_535 mw_537 sel_X5_at mw_6 mw_538) (by decide +kernel) rfl (by decide) (by decide) (k_istore dX5_brackets_86 (by decide) (k_iinc dX5_brackets_88 (by decide +kernel) (by decide) ((sX5_brackets_91 hK)))))))))
theorem nX5_brackets_78 : kv_cn (fun K => fX5_brackets_78 K) := cn_aload 0 (cn_iload 3 (cn_const 2 (cn_iadd (cn_iload 2 (cn_callV 5 2 mX5_at (cn_istore 8 (cn_iinc 3 2 (nX5_brackets_91))))))))
def fX5_brackets_53 (K : Nat → kv_D) : kv_D := o_aload 0 (o_getf 5 1 (o_iload 3 (o_iald 0 (o_istore 7 (o_iload 7 (o_istore 8 (o_aload 0 (o_iload 3 (o_const 1 (o_iadd (o_iload 2 (o_callV 5 2 mX5_at (o_const 45 (o_icne (fX5_brackets_91 K) (fX5_brackets_78 K)))))))))))))))
theorem sX5_brackets_53 {K : Nat → kv_D} (hK : ∀ pc, SX5_brackets pc (K pc)) : SX5_brackets 53 (fX5_brackets_53 K) := k_aload_n dX5_brackets_53 rfl (k_getf (C := RX5) (T := TX5) (N := 32) (ci := 5) (index := 7) (kf := 1) dX5_brackets_54 rfl (fun w h => List.mem_cons_of_mem _ (inX5 w h)) (by decide) (List.mem_cons_of_mem _ mw_420) (k_iload_n dX5_brackets_57 rfl (k_iald dX5_brackets_58 rfl (k_istore dX5_brackets_59 (by decide) (k_iload dX5_brackets_61 (k_istore dX5_brackets_63 (by decide) (k_aload_n dX5_brackets_65 rfl (k_iload_n dX5_brackets_66 rfl (k_iconst dX5_brackets_67 (by decide +kernel) (k_iadd dX5_brackets_68 (k_iload_n dX5_brackets_69 rfl (k_callV (q := (RX5, TX5, 32)) dX5_brackets_70 cX5_at_ct rfl (kv_goodV mw_535 mw_537 sel_X5_at mw_6 mw_538) (by decide +kernel) rfl (by decide) (by decide) (k_bipush dX5_brackets_73 (by decide +kernel) (k_icne dX5_brackets_75 rfl (sX5_brackets_91 hK) (sX5_brackets_78 hK)))))))))))))))
theorem nX5_brackets_53 : kv_cn (fun K => fX5_brackets_53 K) := cn_aload 0 (cn_getf 5 1 (cn_iload 3 (cn_iald 0 (cn_istore 7 (cn_iload 7 (cn_istore 8 (cn_aload 0 (cn_iload 3 (cn_const 1 (cn_iadd (cn_iload 2 (cn_callV 5 2 mX5_at (cn_const 45 (cn_icne nX5_brackets_91 nX5_brackets_78))))))))))))))
def fX5_brackets_41 (K : Nat → kv_D) : kv_D := o_aload 0 (o_iload 3 (o_iload 2 (o_callV 5 2 mX5_at (o_callS 1 mX5_small (o_ifeq (fX5_brackets_146 K) (fX5_brackets_53 K))))))
theorem sX5_brackets_41 {K : Nat → kv_D} (hK : ∀ pc, SX5_brackets pc (K pc)) : SX5_brackets 41 (fX5_brackets_41 K) := k_aload_n dX5_brackets_41 rfl (k_iload_n dX5_brackets_42 rfl (k_iload_n dX5_brackets_43 rfl (k_callV (q := (RX5, TX5, 32)) dX5_brackets_44 cX5_at_ct rfl (kv_goodV mw_535 mw_537 sel_X5_at mw_6 mw_538) (by decide +kernel) rfl (by decide) (by decide) (k_callS dX5_brackets_47 cX5_small_ct rfl (kv_goodS mw_540 mw_541 mw_6 mw_542) (by decide +kernel) (by decide) (by decide) (k_ifeq dX5_brackets_50 rfl (sX5_brackets_146 hK) (sX5_brackets_53 hK))))))
theorem nX5_brackets_41 : kv_cn (fun K => fX5_brackets_41 K) := cn_aload 0 (cn_iload 3 (cn_iload 2 (cn_callV 5 2 mX5_at (cn_callS 1 mX5_small (cn_ifeq nX5_brackets_146 nX5_brackets_53)))))
def fX5_brackets_34 (K : Nat → kv_D) : kv_D := o_istore 3 (o_const 0 (o_istore 5 (o_const 0 (o_istore 6 ((K 41))))))
theorem sX5_brackets_34 {K : Nat → kv_D} (hK : ∀ pc, SX5_brackets pc (K pc)) : SX5_brackets 34 (fX5_brackets_34 K) := k_istore_n dX5_brackets_34 rfl (by decide) (k_iconst dX5_brackets_35 (by decide +kernel) (k_istore dX5_brackets_36 (by decide) (k_iconst dX5_brackets_38 (by decide +kernel) (k_istore dX5_brackets_39 (by decide) ((hK 41))))))
theorem nX5_brackets_34 : kv_cn (fun K => fX5_brackets_34 K) := cn_istore 3 (cn_const 0 (cn_istore 5 (cn_const 0 (cn_istore 6 ((cn_K 41))))))
def fX5_brackets_33 (K : Nat → kv_D) : kv_D := o_iload 3 ((fX5_brackets_34 K))
theorem sX5_brackets_33 {K : Nat → kv_D} (hK : ∀ pc, SX5_brackets pc (K pc)) : SX5_brackets 33 (fX5_brackets_33 K) := k_iload_n dX5_brackets_33 rfl ((sX5_brackets_34 hK))
theorem nX5_brackets_33 : kv_cn (fun K => fX5_brackets_33 K) := cn_iload 3 (nX5_brackets_34)
def fX5_brackets_27 (K : Nat → kv_D) : kv_D := o_iload 3 (o_const 1 (o_iadd ((fX5_brackets_34 K))))
theorem sX5_brackets_27 {K : Nat → kv_D} (hK : ∀ pc, SX5_brackets pc (K pc)) : SX5_brackets 27 (fX5_brackets_27 K) := k_iload_n dX5_brackets_27 rfl (k_iconst dX5_brackets_28 (by decide +kernel) (k_iadd dX5_brackets_29 (k_goto dX5_brackets_30 rfl (sX5_brackets_34 hK))))
theorem nX5_brackets_27 : kv_cn (fun K => fX5_brackets_27 K) := cn_iload 3 (cn_const 1 (cn_iadd (nX5_brackets_34)))
def fX5_brackets_20 (K : Nat → kv_D) : kv_D := o_istore 4 (o_iload 4 (o_ifeq (fX5_brackets_33 K) (fX5_brackets_27 K)))
theorem sX5_brackets_20 {K : Nat → kv_D} (hK : ∀ pc, SX5_brackets pc (K pc)) : SX5_brackets 20 (fX5_brackets_20 K) := k_istore dX5_brackets_20 (by decide) (k_iload dX5_brackets_22 (k_ifeq dX5_brackets_24 rfl (sX5_brackets_33 hK) (sX5_brackets_27 hK)))
theorem nX5_brackets_20 : kv_cn (fun K => fX5_brackets_20 K) := cn_istore 4 (cn_iload 4 (cn_ifeq nX5_brackets_33 nX5_brackets_27))
def fX5_brackets_19 (K : Nat → kv_D) : kv_D := o_const 0 ((fX5_brackets_20 K))
theorem sX5_brackets_19 {K : Nat → kv_D} (hK : ∀ pc, SX5_brackets pc (K pc)) : SX5_brackets 19 (fX5_brackets_19 K) := k_iconst dX5_brackets_19 (by decide +kernel) ((sX5_brackets_20 hK))
theorem nX5_brackets_19 : kv_cn (fun K => fX5_brackets_19 K) := cn_const 0 (nX5_brackets_20)
def fX5_brackets_15 (K : Nat → kv_D) : kv_D := o_const 1 ((fX5_brackets_20 K))
theorem sX5_brackets_15 {K : Nat → kv_D} (hK : ∀ pc, SX5_brackets pc (K pc)) : SX5_brackets 15 (fX5_brackets_15 K) := k_iconst dX5_brackets_15 (by decide +kernel) (k_goto dX5_brackets_16 rfl (sX5_brackets_20 hK))
theorem nX5_brackets_15 : kv_cn (fun K => fX5_brackets_15 K) := cn_const 1 (nX5_brackets_20)
def fX5_brackets_0 (K : Nat → kv_D) : kv_D := o_iload 1 (o_const 1 (o_iadd (o_istore 3 (o_aload 0 (o_iload 3 (o_iload 2 (o_callV 5 2 mX5_at (o_const 94 (o_icne (fX5_brackets_19 K) (fX5_brackets_15 K))))))))))
theorem sX5_brackets_0 {K : Nat → kv_D} (hK : ∀ pc, SX5_brackets pc (K pc)) : SX5_brackets 0 (fX5_brackets_0 K) := k_iload_n dX5_brackets_0 rfl (k_iconst dX5_brackets_1 (by decide +kernel) (k_iadd dX5_brackets_2 (k_istore_n dX5_brackets_3 rfl (by decide) (k_aload_n dX5_brackets_4 rfl (k_iload_n dX5_brackets_5 rfl (k_iload_n dX5_brackets_6 rfl (k_callV (q := (RX5, TX5, 32)) dX5_brackets_7 cX5_at_ct rfl (kv_goodV mw_535 mw_537 sel_X5_at mw_6 mw_538) (by decide +kernel) rfl (by decide) (by decide) (k_bipush dX5_brackets_10 (by decide +kernel) (k_icne dX5_brackets_12 rfl (sX5_brackets_19 hK) (sX5_brackets_15 hK))))))))))
theorem nX5_brackets_0 : kv_cn (fun K => fX5_brackets_0 K) := cn_iload 1 (cn_const 1 (cn_iadd (cn_istore 3 (cn_aload 0 (cn_iload 3 (cn_iload 2 (cn_callV 5 2 mX5_at (cn_const 94 (cn_icne nX5_brackets_19 nX5_brackets_15)))))))))
def bX5_brackets (K : Nat → kv_D) (pc : Nat) : kv_D := if pc = 41 then fX5_brackets_41 K else if pc = 112 then fX5_brackets_112 K else fun _ _ _ _ _ => False
theorem hX5_brackets : ∀ pc, SX5_brackets pc (kv_lim (bX5_brackets) pc) := kv_lim_S (fun K hK pc => by
  unfold bX5_brackets
  by_cases q41 : pc = 41
  · rw [if_pos q41, q41]
    exact sX5_brackets_41 hK
  rw [if_neg q41]
  by_cases q112 : pc = 112
  · rw [if_pos q112, q112]
    exact sX5_brackets_112 hK
  rw [if_neg q112]
  exact kv_none)
theorem uX5_brackets_41 {L : List (Option Value)} {st : List Value} {h : kv_H} {v : Option Value} {h' : kv_H} (hx : fX5_brackets_41 (kv_lim (bX5_brackets)) L st h v h') : kv_lim (bX5_brackets) 41 L st h v h' := kv_un (q := 41) (by have e : (fun K => bX5_brackets K 41) = fun K => fX5_brackets_41 K := (by funext K; rfl); rw [e]; exact nX5_brackets_41) (by have e : bX5_brackets (kv_lim (bX5_brackets)) 41 = fX5_brackets_41 (kv_lim (bX5_brackets)) := rfl; rw [e]; exact hx)
theorem uX5_brackets_112 {L : List (Option Value)} {st : List Value} {h : kv_H} {v : Option Value} {h' : kv_H} (hx : fX5_brackets_112 (kv_lim (bX5_brackets)) L st h v h') : kv_lim (bX5_brackets) 112 L st h v h' := kv_un (q := 112) (by have e : (fun K => bX5_brackets K 112) = fun K => fX5_brackets_112 K := (by funext K; rfl); rw [e]; exact nX5_brackets_112) (by have e : bX5_brackets (kv_lim (bX5_brackets)) 112 = fX5_brackets_112 (kv_lim (bX5_brackets)) := rfl; rw [e]; exact hx)
def mX5_brackets : kv_M := kv_in 3 10 (fX5_brackets_0 (kv_lim (bX5_brackets)))
theorem cX5_brackets_ct : kv_CT yX5_brackets wX5_brackets 1 22 mX5_brackets := kv_met (by decide) rfl rfl (by decide) (fun h => by cases h) (sX5_brackets_0 (hX5_brackets))
