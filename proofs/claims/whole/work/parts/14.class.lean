theorem dX3_append_11 : decode cX3_append 11 = .ok (.aload_n 0, 1) := by decide +kernel
theorem dX3_append_12 : decode cX3_append 12 = .ok (.getfield 9, 3) := by decide +kernel
theorem dX3_append_15 : decode cX3_append 15 = .ok (.aload_n 0, 1) := by decide +kernel
theorem dX3_append_16 : decode cX3_append 16 = .ok (.getfield 18, 3) := by decide +kernel
theorem dX3_append_19 : decode cX3_append 19 = .ok (.iload_n 1, 1) := by decide +kernel
theorem dX3_append_20 : decode cX3_append 20 = .ok (.castore, 1) := by decide +kernel
theorem dX3_append_21 : decode cX3_append 21 = .ok (.aload_n 0, 1) := by decide +kernel
theorem dX3_append_22 : decode cX3_append 22 = .ok (.dup, 1) := by decide +kernel
theorem dX3_append_23 : decode cX3_append 23 = .ok (.getfield 18, 3) := by decide +kernel
theorem dX3_append_26 : decode cX3_append 26 = .ok (.iconst 1, 1) := by decide +kernel
theorem dX3_append_27 : decode cX3_append 27 = .ok (.iadd, 1) := by decide +kernel
theorem dX3_append_28 : decode cX3_append 28 = .ok (.putfield 18, 3) := by decide +kernel
theorem dX3_append_31 : decode cX3_append 31 = .ok (.iconst 1, 1) := by decide +kernel
theorem dX3_append_32 : decode cX3_append 32 = .ok (.ireturn, 1) := by decide +kernel
theorem dX3_append_9 : decode cX3_append 9 = .ok (.iconst 0, 1) := by decide +kernel
theorem dX3_append_10 : decode cX3_append 10 = .ok (.ireturn, 1) := by decide +kernel
theorem dX3_append_0 : decode cX3_append 0 = .ok (.aload_n 0, 1) := by decide +kernel
theorem dX3_append_1 : decode cX3_append 1 = .ok (.getfield 18, 3) := by decide +kernel
theorem dX3_append_4 : decode cX3_append 4 = .ok (.bipush 60, 2) := by decide +kernel
theorem dX3_append_6 : decode cX3_append 6 = .ok (.if_icmp .lt 5, 3) := by decide +kernel
theorem dX4_write_16 : decode cX4_write 16 = .ok (.aload_n 0, 1) := by decide +kernel
theorem dX4_write_17 : decode cX4_write 17 = .ok (.getfield 30, 3) := by decide +kernel
theorem dX4_write_20 : decode cX4_write 20 = .ok (.iload_n 1, 1) := by decide +kernel
theorem dX4_write_21 : decode cX4_write 21 = .ok (.invokevirtual 79, 3) := by decide +kernel
theorem dX4_write_24 : decode cX4_write 24 = .ok (.ireturn, 1) := by decide +kernel
theorem dX4_write_14 : decode cX4_write 14 = .ok (.iconst 0, 1) := by decide +kernel
theorem dX4_write_15 : decode cX4_write 15 = .ok (.ireturn, 1) := by decide +kernel
theorem dX4_write_7 : decode cX4_write 7 = .ok (.iload_n 1, 1) := by decide +kernel
theorem dX4_write_8 : decode cX4_write 8 = .ok (.invokestatic 76, 3) := by decide +kernel
theorem dX4_write_11 : decode cX4_write 11 = .ok (.ifCond .ne 5, 3) := by decide +kernel
theorem dX4_write_0 : decode cX4_write 0 = .ok (.aload_n 0, 1) := by decide +kernel
theorem dX4_write_1 : decode cX4_write 1 = .ok (.getfield 47, 3) := by decide +kernel
theorem dX4_write_4 : decode cX4_write 4 = .ok (.ifCond .ne 10, 3) := by decide +kernel
theorem dX3_isIn_21 : decode cX3_isIn 21 = .ok (.ireturn, 1) := by decide +kernel
theorem dX3_isIn_20 : decode cX3_isIn 20 = .ok (.iconst 0, 1) := by decide +kernel
theorem dX3_isIn_16 : decode cX3_isIn 16 = .ok (.iconst 1, 1) := by decide +kernel
theorem dX3_isIn_17 : decode cX3_isIn 17 = .ok (.goto 4, 3) := by decide +kernel
theorem dX3_isIn_0 : decode cX3_isIn 0 = .ok (.iload_n 1, 1) := by decide +kernel
theorem dX3_isIn_1 : decode cX3_isIn 1 = .ok (.aload_n 0, 1) := by decide +kernel
theorem dX3_isIn_2 : decode cX3_isIn 2 = .ok (.getfield 9, 3) := by decide +kernel
theorem dX3_isIn_5 : decode cX3_isIn 5 = .ok (.iload_n 2, 1) := by decide +kernel
theorem dX3_isIn_6 : decode cX3_isIn 6 = .ok (.caload, 1) := by decide +kernel
theorem dX3_isIn_7 : decode cX3_isIn 7 = .ok (.bipush 97, 2) := by decide +kernel
theorem dX3_isIn_9 : decode cX3_isIn 9 = .ok (.isub, 1) := by decide +kernel
theorem dX3_isIn_10 : decode cX3_isIn 10 = .ok (.ishr, 1) := by decide +kernel
theorem dX3_isIn_11 : decode cX3_isIn 11 = .ok (.iconst 1, 1) := by decide +kernel
theorem dX3_isIn_12 : decode cX3_isIn 12 = .ok (.iand, 1) := by decide +kernel
theorem dX3_isIn_13 : decode cX3_isIn 13 = .ok (.ifCond .eq 7, 3) := by decide +kernel
theorem dX0_takeBefore_83 : decode cX0_takeBefore 83 = .ok (.iconst 1, 1) := by decide +kernel
theorem dX0_takeBefore_84 : decode cX0_takeBefore 84 = .ok (.ireturn, 1) := by decide +kernel
theorem dX0_takeBefore_77 : decode cX0_takeBefore 77 = .ok (.iinc 4 (-1), 3) := by decide +kernel
theorem dX0_takeBefore_80 : decode cX0_takeBefore 80 = .ok (.goto (-67), 3) := by decide +kernel
theorem dX0_takeBefore_75 : decode cX0_takeBefore 75 = .ok (.iconst 0, 1) := by decide +kernel
theorem dX0_takeBefore_76 : decode cX0_takeBefore 76 = .ok (.ireturn, 1) := by decide +kernel
theorem dX0_takeBefore_63 : decode cX0_takeBefore 63 = .ok (.iload 5, 2) := by decide +kernel
theorem dX0_takeBefore_65 : decode cX0_takeBefore 65 = .ok (.aload_n 1, 1) := by decide +kernel
theorem dX0_takeBefore_66 : decode cX0_takeBefore 66 = .ok (.getfield 50, 3) := by decide +kernel
theorem dX0_takeBefore_69 : decode cX0_takeBefore 69 = .ok (.iload 4, 2) := by decide +kernel
theorem dX0_takeBefore_71 : decode cX0_takeBefore 71 = .ok (.iaload, 1) := by decide +kernel
theorem dX0_takeBefore_72 : decode cX0_takeBefore 72 = .ok (.if_icmp .ge 5, 3) := by decide +kernel
theorem dX0_takeBefore_54 : decode cX0_takeBefore 54 = .ok (.iinc 5 1, 3) := by decide +kernel
theorem dX0_takeBefore_57 : decode cX0_takeBefore 57 = .ok (.iinc 3 (-1), 3) := by decide +kernel
theorem dX0_takeBefore_60 : decode cX0_takeBefore 60 = .ok (.goto (-39), 3) := by decide +kernel
theorem dX0_takeBefore_37 : decode cX0_takeBefore 37 = .ok (.aload_n 2, 1) := by decide +kernel
theorem dX0_takeBefore_38 : decode cX0_takeBefore 38 = .ok (.aload_n 1, 1) := by decide +kernel
theorem dX0_takeBefore_39 : decode cX0_takeBefore 39 = .ok (.getfield 43, 3) := by decide +kernel
theorem dX0_takeBefore_42 : decode cX0_takeBefore 42 = .ok (.iload 4, 2) := by decide +kernel
theorem dX0_takeBefore_44 : decode cX0_takeBefore 44 = .ok (.iaload, 1) := by decide +kernel
theorem dX0_takeBefore_45 : decode cX0_takeBefore 45 = .ok (.iload_n 3, 1) := by decide +kernel
theorem dX0_takeBefore_46 : decode cX0_takeBefore 46 = .ok (.iconst 1, 1) := by decide +kernel
theorem dX0_takeBefore_47 : decode cX0_takeBefore 47 = .ok (.isub, 1) := by decide +kernel
theorem dX0_takeBefore_48 : decode cX0_takeBefore 48 = .ok (.invokevirtual 46, 3) := by decide +kernel
theorem dX0_takeBefore_51 : decode cX0_takeBefore 51 = .ok (.ifCond .eq 12, 3) := by decide +kernel
theorem dX0_takeBefore_33 : decode cX0_takeBefore 33 = .ok (.iload_n 3, 1) := by decide +kernel
theorem dX0_takeBefore_34 : decode cX0_takeBefore 34 = .ok (.ifCond .le 29, 3) := by decide +kernel
theorem dX0_takeBefore_21 : decode cX0_takeBefore 21 = .ok (.iload 5, 2) := by decide +kernel
theorem dX0_takeBefore_23 : decode cX0_takeBefore 23 = .ok (.aload_n 1, 1) := by decide +kernel
theorem dX0_takeBefore_24 : decode cX0_takeBefore 24 = .ok (.getfield 40, 3) := by decide +kernel
theorem dX0_takeBefore_27 : decode cX0_takeBefore 27 = .ok (.iload 4, 2) := by decide +kernel
theorem dX0_takeBefore_29 : decode cX0_takeBefore 29 = .ok (.iaload, 1) := by decide +kernel
theorem dX0_takeBefore_30 : decode cX0_takeBefore 30 = .ok (.if_icmp .ge 33, 3) := by decide +kernel
theorem dX0_takeBefore_18 : decode cX0_takeBefore 18 = .ok (.iconst 0, 1) := by decide +kernel
theorem dX0_takeBefore_19 : decode cX0_takeBefore 19 = .ok (.istore 5, 2) := by decide +kernel
theorem dX0_takeBefore_13 : decode cX0_takeBefore 13 = .ok (.iload 4, 2) := by decide +kernel
theorem dX0_takeBefore_15 : decode cX0_takeBefore 15 = .ok (.ifCond .lt 68, 3) := by decide +kernel
theorem dX0_takeBefore_0 : decode cX0_takeBefore 0 = .ok (.aload_n 2, 1) := by decide +kernel
theorem dX0_takeBefore_1 : decode cX0_takeBefore 1 = .ok (.getfield 25, 3) := by decide +kernel
theorem dX0_takeBefore_4 : decode cX0_takeBefore 4 = .ok (.istore_n 3, 1) := by decide +kernel
theorem dX0_takeBefore_5 : decode cX0_takeBefore 5 = .ok (.aload_n 1, 1) := by decide +kernel
theorem dX0_takeBefore_6 : decode cX0_takeBefore 6 = .ok (.getfield 19, 3) := by decide +kernel
theorem dX0_takeBefore_9 : decode cX0_takeBefore 9 = .ok (.iconst 1, 1) := by decide +kernel
theorem dX0_takeBefore_10 : decode cX0_takeBefore 10 = .ok (.isub, 1) := by decide +kernel
theorem dX0_takeBefore_11 : decode cX0_takeBefore 11 = .ok (.istore 4, 2) := by decide +kernel
theorem dX0_takeOnward_126 : decode cX0_takeOnward 126 = .ok (.iconst 1, 1) := by decide +kernel
theorem dX0_takeOnward_127 : decode cX0_takeOnward 127 = .ok (.ireturn, 1) := by decide +kernel
theorem dX0_takeOnward_109 : decode cX0_takeOnward 109 = .ok (.aload_n 0, 1) := by decide +kernel
theorem dX0_takeOnward_110 : decode cX0_takeOnward 110 = .ok (.getfield 9, 3) := by decide +kernel
theorem dX0_takeOnward_113 : decode cX0_takeOnward 113 = .ok (.iload 7, 2) := by decide +kernel
theorem dX0_takeOnward_115 : decode cX0_takeOnward 115 = .ok (.iconst 1, 1) := by decide +kernel
theorem dX0_takeOnward_116 : decode cX0_takeOnward 116 = .ok (.iadd, 1) := by decide +kernel
theorem dX0_takeOnward_117 : decode cX0_takeOnward 117 = .ok (.iload 6, 2) := by decide +kernel
theorem dX0_takeOnward_119 : decode cX0_takeOnward 119 = .ok (.iastore, 1) := by decide +kernel
theorem dX0_takeOnward_120 : decode cX0_takeOnward 120 = .ok (.iinc 7 1, 3) := by decide +kernel
theorem dX0_takeOnward_123 : decode cX0_takeOnward 123 = .ok (.goto (-112), 3) := by decide +kernel
theorem dX0_takeOnward_107 : decode cX0_takeOnward 107 = .ok (.iconst 0, 1) := by decide +kernel
theorem dX0_takeOnward_108 : decode cX0_takeOnward 108 = .ok (.ireturn, 1) := by decide +kernel
theorem dX0_takeOnward_95 : decode cX0_takeOnward 95 = .ok (.iload 8, 2) := by decide +kernel
theorem dX0_takeOnward_97 : decode cX0_takeOnward 97 = .ok (.aload_n 1, 1) := by decide +kernel
theorem dX0_takeOnward_98 : decode cX0_takeOnward 98 = .ok (.getfield 50, 3) := by decide +kernel
theorem dX0_takeOnward_101 : decode cX0_takeOnward 101 = .ok (.iload 7, 2) := by decide +kernel
theorem dX0_takeOnward_103 : decode cX0_takeOnward 103 = .ok (.iaload, 1) := by decide +kernel
theorem dX0_takeOnward_104 : decode cX0_takeOnward 104 = .ok (.if_icmp .ge 5, 3) := by decide +kernel
theorem dX0_takeOnward_93 : decode cX0_takeOnward 93 = .ok (.iconst 2, 1) := by decide +kernel
theorem dX0_takeOnward_94 : decode cX0_takeOnward 94 = .ok (.ireturn, 1) := by decide +kernel
theorem dX0_takeOnward_81 : decode cX0_takeOnward 81 = .ok (.iload 8, 2) := by decide +kernel
theorem dX0_takeOnward_83 : decode cX0_takeOnward 83 = .ok (.aload_n 1, 1) := by decide +kernel
theorem dX0_takeOnward_84 : decode cX0_takeOnward 84 = .ok (.getfield 40, 3) := by decide +kernel
theorem dX0_takeOnward_87 : decode cX0_takeOnward 87 = .ok (.iload 7, 2) := by decide +kernel
theorem dX0_takeOnward_89 : decode cX0_takeOnward 89 = .ok (.iaload, 1) := by decide +kernel
theorem dX0_takeOnward_90 : decode cX0_takeOnward 90 = .ok (.if_icmp .ge 5, 3) := by decide +kernel
theorem dX0_takeOnward_72 : decode cX0_takeOnward 72 = .ok (.iload 6, 2) := by decide +kernel
theorem dX0_takeOnward_74 : decode cX0_takeOnward 74 = .ok (.aload_n 2, 1) := by decide +kernel
theorem dX0_takeOnward_75 : decode cX0_takeOnward 75 = .ok (.getfield 53, 3) := by decide +kernel
theorem dX0_takeOnward_78 : decode cX0_takeOnward 78 = .ok (.if_icmp .ne 17, 3) := by decide +kernel
theorem dX0_takeOnward_67 : decode cX0_takeOnward 67 = .ok (.iload 5, 2) := by decide +kernel
theorem dX0_takeOnward_69 : decode cX0_takeOnward 69 = .ok (.ifCond .ne 26, 3) := by decide +kernel
theorem dX0_takeOnward_58 : decode cX0_takeOnward 58 = .ok (.iinc 8 1, 3) := by decide +kernel
theorem dX0_takeOnward_61 : decode cX0_takeOnward 61 = .ok (.iinc 6 1, 3) := by decide +kernel
theorem dX0_takeOnward_64 : decode cX0_takeOnward 64 = .ok (.goto (-43), 3) := by decide +kernel
theorem dX0_takeOnward_42 : decode cX0_takeOnward 42 = .ok (.aload_n 2, 1) := by decide +kernel
theorem dX0_takeOnward_43 : decode cX0_takeOnward 43 = .ok (.aload_n 1, 1) := by decide +kernel
theorem dX0_takeOnward_44 : decode cX0_takeOnward 44 = .ok (.getfield 43, 3) := by decide +kernel
theorem dX0_takeOnward_47 : decode cX0_takeOnward 47 = .ok (.iload 7, 2) := by decide +kernel
theorem dX0_takeOnward_49 : decode cX0_takeOnward 49 = .ok (.iaload, 1) := by decide +kernel
theorem dX0_takeOnward_50 : decode cX0_takeOnward 50 = .ok (.iload 6, 2) := by decide +kernel
theorem dX0_takeOnward_52 : decode cX0_takeOnward 52 = .ok (.invokevirtual 46, 3) := by decide +kernel
theorem dX0_takeOnward_55 : decode cX0_takeOnward 55 = .ok (.ifCond .eq 12, 3) := by decide +kernel
theorem dX0_takeOnward_33 : decode cX0_takeOnward 33 = .ok (.iload 6, 2) := by decide +kernel
theorem dX0_takeOnward_35 : decode cX0_takeOnward 35 = .ok (.aload_n 2, 1) := by decide +kernel
theorem dX0_takeOnward_36 : decode cX0_takeOnward 36 = .ok (.getfield 53, 3) := by decide +kernel
theorem dX0_takeOnward_39 : decode cX0_takeOnward 39 = .ok (.if_icmp .ge 28, 3) := by decide +kernel
theorem dX0_takeOnward_21 : decode cX0_takeOnward 21 = .ok (.iload 8, 2) := by decide +kernel
theorem dX0_takeOnward_23 : decode cX0_takeOnward 23 = .ok (.aload_n 1, 1) := by decide +kernel
theorem dX0_takeOnward_24 : decode cX0_takeOnward 24 = .ok (.getfield 40, 3) := by decide +kernel
theorem dX0_takeOnward_27 : decode cX0_takeOnward 27 = .ok (.iload 7, 2) := by decide +kernel
theorem dX0_takeOnward_29 : decode cX0_takeOnward 29 = .ok (.iaload, 1) := by decide +kernel
theorem dX0_takeOnward_30 : decode cX0_takeOnward 30 = .ok (.if_icmp .ge 37, 3) := by decide +kernel
theorem dX0_takeOnward_18 : decode cX0_takeOnward 18 = .ok (.iconst 0, 1) := by decide +kernel
theorem dX0_takeOnward_19 : decode cX0_takeOnward 19 = .ok (.istore 8, 2) := by decide +kernel
theorem dX0_takeOnward_11 : decode cX0_takeOnward 11 = .ok (.iload 7, 2) := by decide +kernel
theorem dX0_takeOnward_13 : decode cX0_takeOnward 13 = .ok (.iload 4, 2) := by decide +kernel
theorem dX0_takeOnward_15 : decode cX0_takeOnward 15 = .ok (.if_icmp .ge 111, 3) := by decide +kernel
theorem dX0_takeOnward_0 : decode cX0_takeOnward 0 = .ok (.aload_n 0, 1) := by decide +kernel
theorem dX0_takeOnward_1 : decode cX0_takeOnward 1 = .ok (.getfield 9, 3) := by decide +kernel
theorem dX0_takeOnward_4 : decode cX0_takeOnward 4 = .ok (.iload_n 3, 1) := by decide +kernel
theorem dX0_takeOnward_5 : decode cX0_takeOnward 5 = .ok (.iaload, 1) := by decide +kernel
theorem dX0_takeOnward_6 : decode cX0_takeOnward 6 = .ok (.istore 6, 2) := by decide +kernel
theorem dX0_takeOnward_8 : decode cX0_takeOnward 8 = .ok (.iload_n 3, 1) := by decide +kernel
theorem dX0_takeOnward_9 : decode cX0_takeOnward 9 = .ok (.istore 7, 2) := by decide +kernel
theorem dX0_run_68 : decode cX0_run 68 = .ok (.aload_n 0, 1) := by decide +kernel
theorem dX0_run_69 : decode cX0_run 69 = .ok (.aload_n 1, 1) := by decide +kernel
theorem dX0_run_70 : decode cX0_run 70 = .ok (.aload_n 2, 1) := by decide +kernel
theorem dX0_run_71 : decode cX0_run 71 = .ok (.aload_n 1, 1) := by decide +kernel
theorem dX0_run_72 : decode cX0_run 72 = .ok (.getfield 30, 3) := by decide +kernel
theorem dX0_run_75 : decode cX0_run 75 = .ok (.aload_n 1, 1) := by decide +kernel
theorem dX0_run_76 : decode cX0_run 76 = .ok (.getfield 37, 3) := by decide +kernel
theorem dX0_run_79 : decode cX0_run 79 = .ok (.iload_n 3, 1) := by decide +kernel
theorem dX0_run_80 : decode cX0_run 80 = .ok (.invokevirtual 33, 3) := by decide +kernel
theorem dX0_run_83 : decode cX0_run 83 = .ok (.ireturn, 1) := by decide +kernel
theorem dX0_run_66 : decode cX0_run 66 = .ok (.iconst 0, 1) := by decide +kernel
theorem dX0_run_67 : decode cX0_run 67 = .ok (.ireturn, 1) := by decide +kernel
theorem dX0_run_50 : decode cX0_run 50 = .ok (.aload_n 0, 1) := by decide +kernel
theorem dX0_run_51 : decode cX0_run 51 = .ok (.getfield 9, 3) := by decide +kernel
theorem dX0_run_54 : decode cX0_run 54 = .ok (.aload_n 1, 1) := by decide +kernel
theorem dX0_run_55 : decode cX0_run 55 = .ok (.getfield 30, 3) := by decide +kernel
theorem dX0_run_58 : decode cX0_run 58 = .ok (.iaload, 1) := by decide +kernel
theorem dX0_run_59 : decode cX0_run 59 = .ok (.aload_n 2, 1) := by decide +kernel
theorem dX0_run_60 : decode cX0_run 60 = .ok (.getfield 25, 3) := by decide +kernel
theorem dX0_run_63 : decode cX0_run 63 = .ok (.if_icmp .ne 5, 3) := by decide +kernel
theorem dX0_run_47 : decode cX0_run 47 = .ok (.iload 4, 2) := by decide +kernel
theorem dX0_run_49 : decode cX0_run 49 = .ok (.ireturn, 1) := by decide +kernel
theorem dX0_run_11 : decode cX0_run 11 = .ok (.aload_n 0, 1) := by decide +kernel
theorem dX0_run_12 : decode cX0_run 12 = .ok (.getfield 9, 3) := by decide +kernel
theorem dX0_run_15 : decode cX0_run 15 = .ok (.aload_n 1, 1) := by decide +kernel
theorem dX0_run_16 : decode cX0_run 16 = .ok (.getfield 19, 3) := by decide +kernel
theorem dX0_run_19 : decode cX0_run 19 = .ok (.aload_n 2, 1) := by decide +kernel
theorem dX0_run_20 : decode cX0_run 20 = .ok (.getfield 25, 3) := by decide +kernel
theorem dX0_run_23 : decode cX0_run 23 = .ok (.iastore, 1) := by decide +kernel
theorem dX0_run_24 : decode cX0_run 24 = .ok (.aload_n 0, 1) := by decide +kernel
theorem dX0_run_25 : decode cX0_run 25 = .ok (.aload_n 1, 1) := by decide +kernel
theorem dX0_run_26 : decode cX0_run 26 = .ok (.aload_n 2, 1) := by decide +kernel
theorem dX0_run_27 : decode cX0_run 27 = .ok (.aload_n 1, 1) := by decide +kernel
theorem dX0_run_28 : decode cX0_run 28 = .ok (.getfield 19, 3) := by decide +kernel
theorem dX0_run_31 : decode cX0_run 31 = .ok (.aload_n 1, 1) := by decide +kernel
theorem dX0_run_32 : decode cX0_run 32 = .ok (.getfield 30, 3) := by decide +kernel
theorem dX0_run_35 : decode cX0_run 35 = .ok (.iload_n 3, 1) := by decide +kernel
theorem dX0_run_36 : decode cX0_run 36 = .ok (.invokevirtual 33, 3) := by decide +kernel
theorem dX0_run_39 : decode cX0_run 39 = .ok (.istore 4, 2) := by decide +kernel
theorem dX0_run_41 : decode cX0_run 41 = .ok (.iload 4, 2) := by decide +kernel
theorem dX0_run_43 : decode cX0_run 43 = .ok (.iconst 1, 1) := by decide +kernel
theorem dX0_run_44 : decode cX0_run 44 = .ok (.if_icmp .eq 6, 3) := by decide +kernel
theorem dX0_run_9 : decode cX0_run 9 = .ok (.iconst 0, 1) := by decide +kernel
theorem dX0_run_10 : decode cX0_run 10 = .ok (.ireturn, 1) := by decide +kernel
theorem dX0_run_0 : decode cX0_run 0 = .ok (.aload_n 0, 1) := by decide +kernel
theorem dX0_run_1 : decode cX0_run 1 = .ok (.aload_n 1, 1) := by decide +kernel
theorem dX0_run_2 : decode cX0_run 2 = .ok (.aload_n 2, 1) := by decide +kernel
theorem dX0_run_3 : decode cX0_run 3 = .ok (.invokevirtual 15, 3) := by decide +kernel
theorem dX0_run_6 : decode cX0_run 6 = .ok (.ifCond .ne 5, 3) := by decide +kernel
theorem dX0_segmentWidth_0 : decode cX0_segmentWidth 0 = .ok (.iload_n 2, 1) := by decide +kernel
theorem dX0_segmentWidth_1 : decode cX0_segmentWidth 1 = .ok (.bipush 49, 2) := by decide +kernel
theorem dX0_segmentWidth_3 : decode cX0_segmentWidth 3 = .ok (.isub, 1) := by decide +kernel
theorem dX0_segmentWidth_4 : decode cX0_segmentWidth 4 = .ok (.istore_n 3, 1) := by decide +kernel
theorem dX0_segmentWidth_5 : decode cX0_segmentWidth 5 = .ok (.aload_n 0, 1) := by decide +kernel
theorem dX0_segmentWidth_6 : decode cX0_segmentWidth 6 = .ok (.getfield 9, 3) := by decide +kernel
theorem dX0_segmentWidth_9 : decode cX0_segmentWidth 9 = .ok (.aload_n 1, 1) := by decide +kernel
theorem dX0_segmentWidth_10 : decode cX0_segmentWidth 10 = .ok (.getfield 59, 3) := by decide +kernel
theorem dX0_segmentWidth_13 : decode cX0_segmentWidth 13 = .ok (.iload_n 3, 1) := by decide +kernel
theorem dX0_segmentWidth_14 : decode cX0_segmentWidth 14 = .ok (.iaload, 1) := by decide +kernel
theorem dX0_segmentWidth_15 : decode cX0_segmentWidth 15 = .ok (.iaload, 1) := by decide +kernel
theorem dX0_segmentWidth_16 : decode cX0_segmentWidth 16 = .ok (.aload_n 0, 1) := by decide +kernel
theorem dX0_segmentWidth_17 : decode cX0_segmentWidth 17 = .ok (.getfield 9, 3) := by decide +kernel
theorem dX0_segmentWidth_20 : decode cX0_segmentWidth 20 = .ok (.aload_n 1, 1) := by decide +kernel
theorem dX0_segmentWidth_21 : decode cX0_segmentWidth 21 = .ok (.getfield 56, 3) := by decide +kernel
theorem dX0_segmentWidth_24 : decode cX0_segmentWidth 24 = .ok (.iload_n 3, 1) := by decide +kernel
theorem dX0_segmentWidth_25 : decode cX0_segmentWidth 25 = .ok (.iaload, 1) := by decide +kernel
theorem dX0_segmentWidth_26 : decode cX0_segmentWidth 26 = .ok (.iaload, 1) := by decide +kernel
theorem dX0_segmentWidth_27 : decode cX0_segmentWidth 27 = .ok (.isub, 1) := by decide +kernel
theorem dX0_segmentWidth_28 : decode cX0_segmentWidth 28 = .ok (.ireturn, 1) := by decide +kernel
theorem dX3_widthOf_48 : decode cX3_widthOf 48 = .ok (.iload_n 3, 1) := by decide +kernel
theorem dX3_widthOf_49 : decode cX3_widthOf 49 = .ok (.ireturn, 1) := by decide +kernel
theorem dX3_widthOf_40 : decode cX3_widthOf 40 = .ok (.iadd, 1) := by decide +kernel
theorem dX3_widthOf_41 : decode cX3_widthOf 41 = .ok (.istore_n 3, 1) := by decide +kernel
theorem dX3_widthOf_42 : decode cX3_widthOf 42 = .ok (.iinc 4 1, 3) := by decide +kernel
theorem dX3_widthOf_45 : decode cX3_widthOf 45 = .ok (.goto (-40), 3) := by decide +kernel
theorem dX3_widthOf_33 : decode cX3_widthOf 33 = .ok (.aload_n 1, 1) := by decide +kernel
theorem dX3_widthOf_34 : decode cX3_widthOf 34 = .ok (.aload_n 0, 1) := by decide +kernel
theorem dX3_widthOf_35 : decode cX3_widthOf 35 = .ok (.iload 5, 2) := by decide +kernel
theorem dX3_widthOf_37 : decode cX3_widthOf 37 = .ok (.invokevirtual 63, 3) := by decide +kernel
theorem dX3_widthOf_29 : decode cX3_widthOf 29 = .ok (.iconst 1, 1) := by decide +kernel
theorem dX3_widthOf_30 : decode cX3_widthOf 30 = .ok (.goto 10, 3) := by decide +kernel
theorem dX3_widthOf_11 : decode cX3_widthOf 11 = .ok (.aload_n 0, 1) := by decide +kernel
theorem dX3_widthOf_12 : decode cX3_widthOf 12 = .ok (.getfield 56, 3) := by decide +kernel
theorem dX3_widthOf_15 : decode cX3_widthOf 15 = .ok (.iload 4, 2) := by decide +kernel
theorem dX3_widthOf_17 : decode cX3_widthOf 17 = .ok (.caload, 1) := by decide +kernel
theorem dX3_widthOf_18 : decode cX3_widthOf 18 = .ok (.istore 5, 2) := by decide +kernel
theorem dX3_widthOf_20 : decode cX3_widthOf 20 = .ok (.iload_n 3, 1) := by decide +kernel
theorem dX3_widthOf_21 : decode cX3_widthOf 21 = .ok (.iload 5, 2) := by decide +kernel
theorem dX3_widthOf_23 : decode cX3_widthOf 23 = .ok (.invokestatic 59, 3) := by decide +kernel
theorem dX3_widthOf_26 : decode cX3_widthOf 26 = .ok (.ifCond .eq 7, 3) := by decide +kernel
theorem dX3_widthOf_5 : decode cX3_widthOf 5 = .ok (.iload 4, 2) := by decide +kernel
theorem dX3_widthOf_7 : decode cX3_widthOf 7 = .ok (.iload_n 2, 1) := by decide +kernel
theorem dX3_widthOf_8 : decode cX3_widthOf 8 = .ok (.if_icmp .ge 40, 3) := by decide +kernel
theorem dX3_widthOf_0 : decode cX3_widthOf 0 = .ok (.iconst 0, 1) := by decide +kernel
theorem dX3_widthOf_1 : decode cX3_widthOf 1 = .ok (.istore_n 3, 1) := by decide +kernel
theorem dX3_widthOf_2 : decode cX3_widthOf 2 = .ok (.iconst 0, 1) := by decide +kernel
theorem dX3_widthOf_3 : decode cX3_widthOf 3 = .ok (.istore 4, 2) := by decide +kernel
theorem dX3_sizeAfter_0 : decode cX3_sizeAfter 0 = .ok (.aload_n 2, 1) := by decide +kernel
theorem dX3_sizeAfter_1 : decode cX3_sizeAfter 1 = .ok (.getfield 25, 3) := by decide +kernel
theorem dX3_sizeAfter_4 : decode cX3_sizeAfter 4 = .ok (.aload_n 1, 1) := by decide +kernel
theorem dX3_sizeAfter_5 : decode cX3_sizeAfter 5 = .ok (.getfield 31, 3) := by decide +kernel
theorem dX3_sizeAfter_8 : decode cX3_sizeAfter 8 = .ok (.iaload, 1) := by decide +kernel
theorem dX3_sizeAfter_9 : decode cX3_sizeAfter 9 = .ok (.aload_n 0, 1) := by decide +kernel
theorem dX3_sizeAfter_10 : decode cX3_sizeAfter 10 = .ok (.getfield 22, 3) := by decide +kernel
theorem dX3_sizeAfter_13 : decode cX3_sizeAfter 13 = .ok (.isub, 1) := by decide +kernel
theorem dX3_sizeAfter_14 : decode cX3_sizeAfter 14 = .ok (.istore_n 3, 1) := by decide +kernel
theorem dX3_sizeAfter_15 : decode cX3_sizeAfter 15 = .ok (.aload_n 0, 1) := by decide +kernel
theorem dX3_sizeAfter_16 : decode cX3_sizeAfter 16 = .ok (.getfield 18, 3) := by decide +kernel
theorem dX3_sizeAfter_19 : decode cX3_sizeAfter 19 = .ok (.iload_n 3, 1) := by decide +kernel
theorem dX3_sizeAfter_20 : decode cX3_sizeAfter 20 = .ok (.isub, 1) := by decide +kernel
theorem dX3_sizeAfter_21 : decode cX3_sizeAfter 21 = .ok (.aload_n 1, 1) := by decide +kernel
theorem dX3_sizeAfter_22 : decode cX3_sizeAfter 22 = .ok (.aload_n 2, 1) := by decide +kernel
theorem dX3_sizeAfter_23 : decode cX3_sizeAfter 23 = .ok (.aload_n 1, 1) := by decide +kernel
theorem dX3_sizeAfter_24 : decode cX3_sizeAfter 24 = .ok (.getfield 36, 3) := by decide +kernel
theorem dX3_sizeAfter_27 : decode cX3_sizeAfter 27 = .ok (.invokestatic 39, 3) := by decide +kernel
theorem dX3_sizeAfter_30 : decode cX3_sizeAfter 30 = .ok (.iadd, 1) := by decide +kernel
theorem dX3_sizeAfter_31 : decode cX3_sizeAfter 31 = .ok (.ireturn, 1) := by decide +kernel
theorem dX0_segmentBegin_0 : decode cX0_segmentBegin 0 = .ok (.aload_n 0, 1) := by decide +kernel
theorem dX0_segmentBegin_1 : decode cX0_segmentBegin 1 = .ok (.getfield 9, 3) := by decide +kernel
theorem dX0_segmentBegin_4 : decode cX0_segmentBegin 4 = .ok (.aload_n 1, 1) := by decide +kernel
theorem dX0_segmentBegin_5 : decode cX0_segmentBegin 5 = .ok (.getfield 56, 3) := by decide +kernel
theorem dX0_segmentBegin_8 : decode cX0_segmentBegin 8 = .ok (.iload_n 2, 1) := by decide +kernel
theorem dX0_segmentBegin_9 : decode cX0_segmentBegin 9 = .ok (.bipush 49, 2) := by decide +kernel
theorem dX0_segmentBegin_11 : decode cX0_segmentBegin 11 = .ok (.isub, 1) := by decide +kernel
theorem dX0_segmentBegin_12 : decode cX0_segmentBegin 12 = .ok (.iaload, 1) := by decide +kernel
theorem dX0_segmentBegin_13 : decode cX0_segmentBegin 13 = .ok (.iaload, 1) := by decide +kernel
theorem dX0_segmentBegin_14 : decode cX0_segmentBegin 14 = .ok (.ireturn, 1) := by decide +kernel
-- X3_append
def wX3_append : List Cond := Cond.code yX3_append cX3_append 2 (some .boolean) :: kv_tb
abbrev SX3_append (pc : Nat) (F : kv_D) : Prop := kv_S cX3_append 2 RX3 wX3_append (some .boolean) false 0 0 none pc F
def fX3_append_11 : kv_D := o_aload 0 (o_getf 3 0 (o_aload 0 (o_getf 3 2 (o_iload 1 (o_iast 1 (vp_nar .char) (o_aload 0 (o_dup (o_getf 3 2 (o_const 1 (o_iadd (o_putf 3 2 .int (o_const 1 (o_iret .boolean)))))))))))))
theorem sX3_append_11 : SX3_append 11 (fX3_append_11) := k_aload_n dX3_append_11 rfl (k_getf (C := RX3) (T := TX3) (N := 4) (ci := 3) (index := 9) (kf := 0) dX3_append_12 rfl (fun w h => List.mem_cons_of_mem _ (inX3 w h)) (by decide) (List.mem_cons_of_mem _ mw_124) (k_aload_n dX3_append_15 rfl (k_getf (C := RX3) (T := TX3) (N := 4) (ci := 3) (index := 18) (kf := 2) dX3_append_16 rfl (fun w h => List.mem_cons_of_mem _ (inX3 w h)) (by decide) (List.mem_cons_of_mem _ mw_127) (k_iload_n dX3_append_19 rfl (k_cast dX3_append_20 rfl (k_aload_n dX3_append_21 rfl (k_dup dX3_append_22 (k_getf (C := RX3) (T := TX3) (N := 4) (ci := 3) (index := 18) (kf := 2) dX3_append_23 rfl (fun w h => List.mem_cons_of_mem _ (inX3 w h)) (by decide) (List.mem_cons_of_mem _ mw_127) (k_iconst dX3_append_26 (by decide +kernel) (k_iadd dX3_append_27 (k_putf (C := RX3) (T := TX3) (N := 4) (ci := 3) (index := 18) (kf := 2) (ty := .int) dX3_append_28 rfl (fun w h => List.mem_cons_of_mem _ (inX3 w h)) tyX3 tyX3_ok nmX3 (by decide) (List.mem_cons_of_mem _ mw_127) rfl rfl (k_iconst dX3_append_31 (by decide +kernel) (k_iret dX3_append_32 rfl)))))))))))))
def fX3_append_9 : kv_D := o_const 0 (o_iret .boolean)
theorem sX3_append_9 : SX3_append 9 (fX3_append_9) := k_iconst dX3_append_9 (by decide +kernel) (k_iret dX3_append_10 rfl)
def fX3_append_0 : kv_D := o_aload 0 (o_getf 3 2 (o_const 60 (o_iclt (fX3_append_11) (fX3_append_9))))
theorem sX3_append_0 : SX3_append 0 (fX3_append_0) := k_aload_n dX3_append_0 rfl (k_getf (C := RX3) (T := TX3) (N := 4) (ci := 3) (index := 18) (kf := 2) dX3_append_1 rfl (fun w h => List.mem_cons_of_mem _ (inX3 w h)) (by decide) (List.mem_cons_of_mem _ mw_127) (k_bipush dX3_append_4 (by decide +kernel) (k_iclt dX3_append_6 rfl (sX3_append_11) (sX3_append_9))))
def mX3_append : kv_M := kv_in 2 2 (fX3_append_0)
theorem cX3_append_ct : kv_CT yX3_append wX3_append 0 0 mX3_append := kv_met (by decide) rfl rfl (by decide) (fun h => by cases h) (sX3_append_0)
-- X4_write
def wX4_write : List Cond := Cond.code yX4_write cX4_write 2 (some .boolean) :: kv_tb
abbrev SX4_write (pc : Nat) (F : kv_D) : Prop := kv_S cX4_write 2 RX4 wX4_write (some .boolean) false 1 21 none pc F
def fX4_write_16 : kv_D := o_aload 0 (o_getf 4 3 (o_iload 1 (o_callV 3 1 mX3_append (o_iret .boolean))))
theorem sX4_write_16 : SX4_write 16 (fX4_write_16) := k_aload_n dX4_write_16 rfl (k_getf (C := RX4) (T := TX4) (N := 8) (ci := 4) (index := 30) (kf := 3) dX4_write_17 rfl (fun w h => List.mem_cons_of_mem _ (inX4 w h)) (by decide) (List.mem_cons_of_mem _ mw_156) (k_iload_n dX4_write_20 rfl (k_callV (q := (RX3, TX3, 4)) dX4_write_21 cX3_append_ct rfl (kv_goodV mw_318 mw_319 mw_320 mw_4 mw_321) (by decide +kernel) rfl (by decide) (by decide) (k_iret dX4_write_24 rfl))))
def fX4_write_14 : kv_D := o_const 0 (o_iret .boolean)
theorem sX4_write_14 : SX4_write 14 (fX4_write_14) := k_iconst dX4_write_14 (by decide +kernel) (k_iret dX4_write_15 rfl)
def fX4_write_7 : kv_D := o_iload 1 (o_callS 1 mX4_isSmall (o_ifne (fX4_write_16) (fX4_write_14)))
theorem sX4_write_7 : SX4_write 7 (fX4_write_7) := k_iload_n dX4_write_7 rfl (k_callS dX4_write_8 cX4_isSmall_ct rfl (kv_goodS mw_317 mw_206 mw_1 mw_207) (by decide +kernel) (by decide) (by decide) (k_ifne dX4_write_11 rfl (sX4_write_16) (sX4_write_14)))
def fX4_write_0 : kv_D := o_aload 0 (o_getf 4 7 (o_ifne (fX4_write_14) (fX4_write_7)))
theorem sX4_write_0 : SX4_write 0 (fX4_write_0) := k_aload_n dX4_write_0 rfl (k_getf (C := RX4) (T := TX4) (N := 8) (ci := 4) (index := 47) (kf := 7) dX4_write_1 rfl (fun w h => List.mem_cons_of_mem _ (inX4 w h)) (by decide) (List.mem_cons_of_mem _ mw_160) (k_ifne dX4_write_4 rfl (sX4_write_14) (sX4_write_7)))
def mX4_write : kv_M := kv_in 2 2 (fX4_write_0)
theorem cX4_write_ct : kv_CT yX4_write wX4_write 1 21 mX4_write := kv_met (by decide) rfl rfl (by decide) (fun h => by cases h) (sX4_write_0)
-- X3_isIn
def wX3_isIn : List Cond := Cond.code yX3_isIn cX3_isIn 3 (some .boolean) :: kv_tb
abbrev SX3_isIn (pc : Nat) (F : kv_D) : Prop := kv_S cX3_isIn 3 RX3 wX3_isIn (some .boolean) false 0 0 none pc F
def fX3_isIn_21 : kv_D := o_iret .boolean
theorem sX3_isIn_21 : SX3_isIn 21 (fX3_isIn_21) := k_iret dX3_isIn_21 rfl
def fX3_isIn_20 : kv_D := o_const 0 ((fX3_isIn_21))
theorem sX3_isIn_20 : SX3_isIn 20 (fX3_isIn_20) := k_iconst dX3_isIn_20 (by decide +kernel) ((sX3_isIn_21))
def fX3_isIn_16 : kv_D := o_const 1 ((fX3_isIn_21))
theorem sX3_isIn_16 : SX3_isIn 16 (fX3_isIn_16) := k_iconst dX3_isIn_16 (by decide +kernel) (k_goto dX3_isIn_17 rfl (sX3_isIn_21))
def fX3_isIn_0 : kv_D := o_iload 1 (o_aload 0 (o_getf 3 0 (o_iload 2 (o_iald 1 (o_const 97 (o_isub (o_ishr (o_const 1 (o_iand (o_ifeq (fX3_isIn_20) (fX3_isIn_16)))))))))))
theorem sX3_isIn_0 : SX3_isIn 0 (fX3_isIn_0) := k_iload_n dX3_isIn_0 rfl (k_aload_n dX3_isIn_1 rfl (k_getf (C := RX3) (T := TX3) (N := 4) (ci := 3) (index := 9) (kf := 0) dX3_isIn_2 rfl (fun w h => List.mem_cons_of_mem _ (inX3 w h)) (by decide) (List.mem_cons_of_mem _ mw_124) (k_iload_n dX3_isIn_5 rfl (k_cald dX3_isIn_6 rfl (k_bipush dX3_isIn_7 (by decide +kernel) (k_isub dX3_isIn_9 (k_ishr dX3_isIn_10 (k_iconst dX3_isIn_11 (by decide +kernel) (k_iand dX3_isIn_12 (k_ifeq dX3_isIn_13 rfl (sX3_isIn_20) (sX3_isIn_16)))))))))))
def mX3_isIn : kv_M := kv_in 3 3 (fX3_isIn_0)
theorem cX3_isIn_ct : kv_CT yX3_isIn wX3_isIn 0 0 mX3_isIn := kv_met (by decide) rfl rfl (by decide) (fun h => by cases h) (sX3_isIn_0)
-- X0_takeBefore
def wX0_takeBefore : List Cond := Cond.code yX0_takeBefore cX0_takeBefore 6 (some .boolean) :: kv_tb
abbrev SX0_takeBefore (pc : Nat) (F : kv_D) : Prop := kv_S cX0_takeBefore 6 RX0 wX0_takeBefore (some .boolean) false 1 22 none pc F
def fX0_takeBefore_83 (K : Nat → kv_D) : kv_D := o_const 1 (o_iret .boolean)
theorem sX0_takeBefore_83 {K : Nat → kv_D} (hK : ∀ pc, SX0_takeBefore pc (K pc)) : SX0_takeBefore 83 (fX0_takeBefore_83 K) := k_iconst dX0_takeBefore_83 (by decide +kernel) (k_iret dX0_takeBefore_84 rfl)
theorem nX0_takeBefore_83 : kv_cn (fun K => fX0_takeBefore_83 K) := cn_const 1 (cn_c _)
def fX0_takeBefore_77 (K : Nat → kv_D) : kv_D := o_iinc 4 (-1) ((K 13))
theorem sX0_takeBefore_77 {K : Nat → kv_D} (hK : ∀ pc, SX0_takeBefore pc (K pc)) : SX0_takeBefore 77 (fX0_takeBefore_77 K) := k_iinc dX0_takeBefore_77 (by decide +kernel) (by decide) (k_goto dX0_takeBefore_80 rfl (hK 13))
theorem nX0_takeBefore_77 : kv_cn (fun K => fX0_takeBefore_77 K) := cn_iinc 4 (-1) ((cn_K 13))
def fX0_takeBefore_75 (K : Nat → kv_D) : kv_D := o_const 0 (o_iret .boolean)
theorem sX0_takeBefore_75 {K : Nat → kv_D} (hK : ∀ pc, SX0_takeBefore pc (K pc)) : SX0_takeBefore 75 (fX0_takeBefore_75 K) := k_iconst dX0_takeBefore_75 (by decide +kernel) (k_iret dX0_takeBefore_76 rfl)
theorem nX0_takeBefore_75 : kv_cn (fun K => fX0_takeBefore_75 K) := cn_const 0 (cn_c _)
def fX0_takeBefore_63 (K : Nat → kv_D) : kv_D := o_iload 5 (o_aload 1 (o_getf 1 1 (o_iload 4 (o_iald 0 (o_icge (fX0_takeBefore_77 K) (fX0_takeBefore_75 K))))))
theorem sX0_takeBefore_63 {K : Nat → kv_D} (hK : ∀ pc, SX0_takeBefore pc (K pc)) : SX0_takeBefore 63 (fX0_takeBefore_63 K) := k_iload dX0_takeBefore_63 (k_aload_n dX0_takeBefore_65 rfl (k_getN (C := RX1) (T := TX1) (N := 14) (ci := 1) (index := 50) (kf := 1) dX0_takeBefore_66 rfl (fun w h => List.mem_cons_of_mem _ (inX1 w h)) (by decide) mw_59 (k_iload dX0_takeBefore_69 (k_iald dX0_takeBefore_71 rfl (k_icge dX0_takeBefore_72 rfl (sX0_takeBefore_77 hK) (sX0_takeBefore_75 hK))))))
theorem nX0_takeBefore_63 : kv_cn (fun K => fX0_takeBefore_63 K) := cn_iload 5 (cn_aload 1 (cn_getf 1 1 (cn_iload 4 (cn_iald 0 (cn_icge nX0_takeBefore_77 nX0_takeBefore_75)))))
def fX0_takeBefore_54 (K : Nat → kv_D) : kv_D := o_iinc 5 1 (o_iinc 3 (-1) ((K 21)))
theorem sX0_takeBefore_54 {K : Nat → kv_D} (hK : ∀ pc, SX0_takeBefore pc (K pc)) : SX0_takeBefore 54 (fX0_takeBefore_54 K) := k_iinc dX0_takeBefore_54 (by decide +kernel) (by decide) (k_iinc dX0_takeBefore_57 (by decide +kernel) (by decide) (k_goto dX0_takeBefore_60 rfl (hK 21)))
theorem nX0_takeBefore_54 : kv_cn (fun K => fX0_takeBefore_54 K) := cn_iinc 5 1 (cn_iinc 3 (-1) ((cn_K 21)))
def fX0_takeBefore_37 (K : Nat → kv_D) : kv_D := o_aload 2 (o_aload 1 (o_getf 1 0 (o_iload 4 (o_iald 0 (o_iload 3 (o_const 1 (o_isub (o_callV 3 2 mX3_isIn (o_ifeq (fX0_takeBefore_63 K) (fX0_takeBefore_54 K))))))))))
theorem sX0_takeBefore_37 {K : Nat → kv_D} (hK : ∀ pc, SX0_takeBefore pc (K pc)) : SX0_takeBefore 37 (fX0_takeBefore_37 K) := k_aload_n dX0_takeBefore_37 rfl (k_aload_n dX0_takeBefore_38 rfl (k_getN (C := RX1) (T := TX1) (N := 14) (ci := 1) (index := 43) (kf := 0) dX0_takeBefore_39 rfl (fun w h => List.mem_cons_of_mem _ (inX1 w h)) (by decide) mw_57 (k_iload dX0_takeBefore_42 (k_iald dX0_takeBefore_44 rfl (k_iload_n dX0_takeBefore_45 rfl (k_iconst dX0_takeBefore_46 (by decide +kernel) (k_isub dX0_takeBefore_47 (k_callV (q := (RX3, TX3, 4)) dX0_takeBefore_48 cX3_isIn_ct rfl (kv_goodV mw_342 mw_343 mw_344 mw_4 mw_345) (by decide +kernel) rfl (by decide) (by decide) (k_ifeq dX0_takeBefore_51 rfl (sX0_takeBefore_63 hK) (sX0_takeBefore_54 hK))))))))))
theorem nX0_takeBefore_37 : kv_cn (fun K => fX0_takeBefore_37 K) := cn_aload 2 (cn_aload 1 (cn_getf 1 0 (cn_iload 4 (cn_iald 0 (cn_iload 3 (cn_const 1 (cn_isub (cn_callV 3 2 mX3_isIn (cn_ifeq nX0_takeBefore_63 nX0_takeBefore_54)))))))))
def fX0_takeBefore_33 (K : Nat → kv_D) : kv_D := o_iload 3 (o_ifle (fX0_takeBefore_63 K) (fX0_takeBefore_37 K))
theorem sX0_takeBefore_33 {K : Nat → kv_D} (hK : ∀ pc, SX0_takeBefore pc (K pc)) : SX0_takeBefore 33 (fX0_takeBefore_33 K) := k_iload_n dX0_takeBefore_33 rfl (k_ifle dX0_takeBefore_34 rfl (sX0_takeBefore_63 hK) (sX0_takeBefore_37 hK))
theorem nX0_takeBefore_33 : kv_cn (fun K => fX0_takeBefore_33 K) := cn_iload 3 (cn_ifle nX0_takeBefore_63 nX0_takeBefore_37)
def fX0_takeBefore_21 (K : Nat → kv_D) : kv_D := o_iload 5 (o_aload 1 (o_getf 1 2 (o_iload 4 (o_iald 0 (o_icge (fX0_takeBefore_63 K) (fX0_takeBefore_33 K))))))
theorem sX0_takeBefore_21 {K : Nat → kv_D} (hK : ∀ pc, SX0_takeBefore pc (K pc)) : SX0_takeBefore 21 (fX0_takeBefore_21 K) := k_iload dX0_takeBefore_21 (k_aload_n dX0_takeBefore_23 rfl (k_getN (C := RX1) (T := TX1) (N := 14) (ci := 1) (index := 40) (kf := 2) dX0_takeBefore_24 rfl (fun w h => List.mem_cons_of_mem _ (inX1 w h)) (by decide) mw_61 (k_iload dX0_takeBefore_27 (k_iald dX0_takeBefore_29 rfl (k_icge dX0_takeBefore_30 rfl (sX0_takeBefore_63 hK) (sX0_takeBefore_33 hK))))))
theorem nX0_takeBefore_21 : kv_cn (fun K => fX0_takeBefore_21 K) := cn_iload 5 (cn_aload 1 (cn_getf 1 2 (cn_iload 4 (cn_iald 0 (cn_icge nX0_takeBefore_63 nX0_takeBefore_33)))))
def fX0_takeBefore_18 (K : Nat → kv_D) : kv_D := o_const 0 (o_istore 5 ((K 21)))
theorem sX0_takeBefore_18 {K : Nat → kv_D} (hK : ∀ pc, SX0_takeBefore pc (K pc)) : SX0_takeBefore 18 (fX0_takeBefore_18 K) := k_iconst dX0_takeBefore_18 (by decide +kernel) (k_istore dX0_takeBefore_19 (by decide) ((hK 21)))
theorem nX0_takeBefore_18 : kv_cn (fun K => fX0_takeBefore_18 K) := cn_const 0 (cn_istore 5 ((cn_K 21)))
def fX0_takeBefore_13 (K : Nat → kv_D) : kv_D := o_iload 4 (o_iflt (fX0_takeBefore_83 K) (fX0_takeBefore_18 K))
theorem sX0_takeBefore_13 {K : Nat → kv_D} (hK : ∀ pc, SX0_takeBefore pc (K pc)) : SX0_takeBefore 13 (fX0_takeBefore_13 K) := k_iload dX0_takeBefore_13 (k_iflt dX0_takeBefore_15 rfl (sX0_takeBefore_83 hK) (sX0_takeBefore_18 hK))
theorem nX0_takeBefore_13 : kv_cn (fun K => fX0_takeBefore_13 K) := cn_iload 4 (cn_iflt nX0_takeBefore_83 nX0_takeBefore_18)
def fX0_takeBefore_0 (K : Nat → kv_D) : kv_D := o_aload 2 (o_getf 3 3 (o_istore 3 (o_aload 1 (o_getf 1 4 (o_const 1 (o_isub (o_istore 4 ((K 13)))))))))
theorem sX0_takeBefore_0 {K : Nat → kv_D} (hK : ∀ pc, SX0_takeBefore pc (K pc)) : SX0_takeBefore 0 (fX0_takeBefore_0 K) := k_aload_n dX0_takeBefore_0 rfl (k_getN (C := RX3) (T := TX3) (N := 4) (ci := 3) (index := 25) (kf := 3) dX0_takeBefore_1 rfl (fun w h => List.mem_cons_of_mem _ (inX3 w h)) (by decide) mw_131 (k_istore_n dX0_takeBefore_4 rfl (by decide) (k_aload_n dX0_takeBefore_5 rfl (k_getN (C := RX1) (T := TX1) (N := 14) (ci := 1) (index := 19) (kf := 4) dX0_takeBefore_6 rfl (fun w h => List.mem_cons_of_mem _ (inX1 w h)) (by decide) mw_66 (k_iconst dX0_takeBefore_9 (by decide +kernel) (k_isub dX0_takeBefore_10 (k_istore dX0_takeBefore_11 (by decide) ((hK 13)))))))))
theorem nX0_takeBefore_0 : kv_cn (fun K => fX0_takeBefore_0 K) := cn_aload 2 (cn_getf 3 3 (cn_istore 3 (cn_aload 1 (cn_getf 1 4 (cn_const 1 (cn_isub (cn_istore 4 ((cn_K 13)))))))))
def bX0_takeBefore (K : Nat → kv_D) (pc : Nat) : kv_D := if pc = 13 then fX0_takeBefore_13 K else if pc = 21 then fX0_takeBefore_21 K else fun _ _ _ _ _ => False
theorem hX0_takeBefore : ∀ pc, SX0_takeBefore pc (kv_lim (bX0_takeBefore) pc) := kv_lim_S (fun K hK pc => by
  unfold bX0_takeBefore
  by_cases q13 : pc = 13
  · rw [if_pos q13, q13]
    exact sX0_takeBefore_13 hK
  rw [if_neg q13]
  by_cases q21 : pc = 21
  · rw [if_pos q21, q21]
    exact sX0_takeBefore_21 hK
  rw [if_neg q21]
  exact kv_none)
theorem uX0_takeBefore_13 {L : List (Option Value)} {st : List Value} {h : kv_H} {v : Option Value} {h' : kv_H} (hx : fX0_takeBefore_13 (kv_lim (bX0_takeBefore)) L st h v h') : kv_lim (bX0_takeBefore) 13 L st h v h' := kv_un (q := 13) (by have e : (fun K => bX0_takeBefore K 13) = fun K => fX0_takeBefore_13 K := (by funext K; rfl); rw [e]; exact nX0_takeBefore_13) (by have e : bX0_takeBefore (kv_lim (bX0_takeBefore)) 13 = fX0_takeBefore_13 (kv_lim (bX0_takeBefore)) := rfl; rw [e]; exact hx)
theorem uX0_takeBefore_21 {L : List (Option Value)} {st : List Value} {h : kv_H} {v : Option Value} {h' : kv_H} (hx : fX0_takeBefore_21 (kv_lim (bX0_takeBefore)) L st h v h') : kv_lim (bX0_takeBefore) 21 L st h v h' := kv_un (q := 21) (by have e : (fun K => bX0_takeBefore K 21) = fun K => fX0_takeBefore_21 K := (by funext K; rfl); rw [e]; exact nX0_takeBefore_21) (by have e : bX0_takeBefore (kv_lim (bX0_takeBefore)) 21 = fX0_takeBefore_21 (kv_lim (bX0_takeBefore)) := rfl; rw [e]; exact hx)
def mX0_takeBefore : kv_M := kv_in 3 6 (fX0_takeBefore_0 (kv_lim (bX0_takeBefore)))
theorem cX0_takeBefore_ct : kv_CT yX0_takeBefore wX0_takeBefore 1 22 mX0_takeBefore := kv_met (by decide) rfl rfl (by decide) (fun h => by cases h) (sX0_takeBefore_0 (hX0_takeBefore))
-- X0_takeOnward
def wX0_takeOnward : List Cond := Cond.code yX0_takeOnward cX0_takeOnward 9 (some .int) :: kv_tb
abbrev SX0_takeOnward (pc : Nat) (F : kv_D) : Prop := kv_S cX0_takeOnward 9 RX0 wX0_takeOnward (some .int) false 1 22 none pc F
def fX0_takeOnward_126 (K : Nat → kv_D) : kv_D := o_const 1 (o_iret .int)
theorem sX0_takeOnward_126 {K : Nat → kv_D} (hK : ∀ pc, SX0_takeOnward pc (K pc)) : SX0_takeOnward 126 (fX0_takeOnward_126 K) := k_iconst dX0_takeOnward_126 (by decide +kernel) (k_iret dX0_takeOnward_127 rfl)
theorem nX0_takeOnward_126 : kv_cn (fun K => fX0_takeOnward_126 K) := cn_const 1 (cn_c _)
def fX0_takeOnward_109 (K : Nat → kv_D) : kv_D := o_aload 0 (o_getf 0 0 (o_iload 7 (o_const 1 (o_iadd (o_iload 6 (o_iast 0 (fun x => x) (o_iinc 7 1 ((K 11)))))))))
theorem sX0_takeOnward_109 {K : Nat → kv_D} (hK : ∀ pc, SX0_takeOnward pc (K pc)) : SX0_takeOnward 109 (fX0_takeOnward_109 K) := k_aload_n dX0_takeOnward_109 rfl (k_getf (C := RX0) (T := TX0) (N := 1) (ci := 0) (index := 9) (kf := 0) dX0_takeOnward_110 rfl (fun w h => List.mem_cons_of_mem _ (inX0 w h)) (by decide) (List.mem_cons_of_mem _ mw_148) (k_iload dX0_takeOnward_113 (k_iconst dX0_takeOnward_115 (by decide +kernel) (k_iadd dX0_takeOnward_116 (k_iload dX0_takeOnward_117 (k_iast dX0_takeOnward_119 rfl (k_iinc dX0_takeOnward_120 (by decide +kernel) (by decide) (k_goto dX0_takeOnward_123 rfl (hK 11)))))))))
theorem nX0_takeOnward_109 : kv_cn (fun K => fX0_takeOnward_109 K) := cn_aload 0 (cn_getf 0 0 (cn_iload 7 (cn_const 1 (cn_iadd (cn_iload 6 (cn_iast 0 (fun x => x) (cn_iinc 7 1 ((cn_K 11)))))))))
def fX0_takeOnward_107 (K : Nat → kv_D) : kv_D := o_const 0 (o_iret .int)
theorem sX0_takeOnward_107 {K : Nat → kv_D} (hK : ∀ pc, SX0_takeOnward pc (K pc)) : SX0_takeOnward 107 (fX0_takeOnward_107 K) := k_iconst dX0_takeOnward_107 (by decide +kernel) (k_iret dX0_takeOnward_108 rfl)
theorem nX0_takeOnward_107 : kv_cn (fun K => fX0_takeOnward_107 K) := cn_const 0 (cn_c _)
def fX0_takeOnward_95 (K : Nat → kv_D) : kv_D := o_iload 8 (o_aload 1 (o_getf 1 1 (o_iload 7 (o_iald 0 (o_icge (fX0_takeOnward_109 K) (fX0_takeOnward_107 K))))))
theorem sX0_takeOnward_95 {K : Nat → kv_D} (hK : ∀ pc, SX0_takeOnward pc (K pc)) : SX0_takeOnward 95 (fX0_takeOnward_95 K) := k_iload dX0_takeOnward_95 (k_aload_n dX0_takeOnward_97 rfl (k_getN (C := RX1) (T := TX1) (N := 14) (ci := 1) (index := 50) (kf := 1) dX0_takeOnward_98 rfl (fun w h => List.mem_cons_of_mem _ (inX1 w h)) (by decide) mw_59 (k_iload dX0_takeOnward_101 (k_iald dX0_takeOnward_103 rfl (k_icge dX0_takeOnward_104 rfl (sX0_takeOnward_109 hK) (sX0_takeOnward_107 hK))))))
theorem nX0_takeOnward_95 : kv_cn (fun K => fX0_takeOnward_95 K) := cn_iload 8 (cn_aload 1 (cn_getf 1 1 (cn_iload 7 (cn_iald 0 (cn_icge nX0_takeOnward_109 nX0_takeOnward_107)))))
def fX0_takeOnward_93 (K : Nat → kv_D) : kv_D := o_const 2 (o_iret .int)
theorem sX0_takeOnward_93 {K : Nat → kv_D} (hK : ∀ pc, SX0_takeOnward pc (K pc)) : SX0_takeOnward 93 (fX0_takeOnward_93 K) := k_iconst dX0_takeOnward_93 (by decide +kernel) (k_iret dX0_takeOnward_94 rfl)
theorem nX0_takeOnward_93 : kv_cn (fun K => fX0_takeOnward_93 K) := cn_const 2 (cn_c _)
def fX0_takeOnward_81 (K : Nat → kv_D) : kv_D := o_iload 8 (o_aload 1 (o_getf 1 2 (o_iload 7 (o_iald 0 (o_icge (fX0_takeOnward_95 K) (fX0_takeOnward_93 K))))))
theorem sX0_takeOnward_81 {K : Nat → kv_D} (hK : ∀ pc, SX0_takeOnward pc (K pc)) : SX0_takeOnward 81 (fX0_takeOnward_81 K) := k_iload dX0_takeOnward_81 (k_aload_n dX0_takeOnward_83 rfl (k_getN (C := RX1) (T := TX1) (N := 14) (ci := 1) (index := 40) (kf := 2) dX0_takeOnward_84 rfl (fun w h => List.mem_cons_of_mem _ (inX1 w h)) (by decide) mw_61 (k_iload dX0_takeOnward_87 (k_iald dX0_takeOnward_89 rfl (k_icge dX0_takeOnward_90 rfl (sX0_takeOnward_95 hK) (sX0_takeOnward_93 hK))))))
theorem nX0_takeOnward_81 : kv_cn (fun K => fX0_takeOnward_81 K) := cn_iload 8 (cn_aload 1 (cn_getf 1 2 (cn_iload 7 (cn_iald 0 (cn_icge nX0_takeOnward_95 nX0_takeOnward_93)))))
def fX0_takeOnward_72 (K : Nat → kv_D) : kv_D := o_iload 6 (o_aload 2 (o_getf 3 2 (o_icne (fX0_takeOnward_95 K) (fX0_takeOnward_81 K))))
theorem sX0_takeOnward_72 {K : Nat → kv_D} (hK : ∀ pc, SX0_takeOnward pc (K pc)) : SX0_takeOnward 72 (fX0_takeOnward_72 K) := k_iload dX0_takeOnward_72 (k_aload_n dX0_takeOnward_74 rfl (k_getN (C := RX3) (T := TX3) (N := 4) (ci := 3) (index := 53) (kf := 2) dX0_takeOnward_75 rfl (fun w h => List.mem_cons_of_mem _ (inX3 w h)) (by decide) mw_128 (k_icne dX0_takeOnward_78 rfl (sX0_takeOnward_95 hK) (sX0_takeOnward_81 hK))))
theorem nX0_takeOnward_72 : kv_cn (fun K => fX0_takeOnward_72 K) := cn_iload 6 (cn_aload 2 (cn_getf 3 2 (cn_icne nX0_takeOnward_95 nX0_takeOnward_81)))
def fX0_takeOnward_67 (K : Nat → kv_D) : kv_D := o_iload 5 (o_ifne (fX0_takeOnward_95 K) (fX0_takeOnward_72 K))
theorem sX0_takeOnward_67 {K : Nat → kv_D} (hK : ∀ pc, SX0_takeOnward pc (K pc)) : SX0_takeOnward 67 (fX0_takeOnward_67 K) := k_iload dX0_takeOnward_67 (k_ifne dX0_takeOnward_69 rfl (sX0_takeOnward_95 hK) (sX0_takeOnward_72 hK))
theorem nX0_takeOnward_67 : kv_cn (fun K => fX0_takeOnward_67 K) := cn_iload 5 (cn_ifne nX0_takeOnward_95 nX0_takeOnward_72)
def fX0_takeOnward_58 (K : Nat → kv_D) : kv_D := o_iinc 8 1 (o_iinc 6 1 ((K 21)))
theorem sX0_takeOnward_58 {K : Nat → kv_D} (hK : ∀ pc, SX0_takeOnward pc (K pc)) : SX0_takeOnward 58 (fX0_takeOnward_58 K) := k_iinc dX0_takeOnward_58 (by decide +kernel) (by decide) (k_iinc dX0_takeOnward_61 (by decide +kernel) (by decide) (k_goto dX0_takeOnward_64 rfl (hK 21)))
theorem nX0_takeOnward_58 : kv_cn (fun K => fX0_takeOnward_58 K) := cn_iinc 8 1 (cn_iinc 6 1 ((cn_K 21)))
def fX0_takeOnward_42 (K : Nat → kv_D) : kv_D := o_aload 2 (o_aload 1 (o_getf 1 0 (o_iload 7 (o_iald 0 (o_iload 6 (o_callV 3 2 mX3_isIn (o_ifeq (fX0_takeOnward_67 K) (fX0_takeOnward_58 K))))))))
theorem sX0_takeOnward_42 {K : Nat → kv_D} (hK : ∀ pc, SX0_takeOnward pc (K pc)) : SX0_takeOnward 42 (fX0_takeOnward_42 K) := k_aload_n dX0_takeOnward_42 rfl (k_aload_n dX0_takeOnward_43 rfl (k_getN (C := RX1) (T := TX1) (N := 14) (ci := 1) (index := 43) (kf := 0) dX0_takeOnward_44 rfl (fun w h => List.mem_cons_of_mem _ (inX1 w h)) (by decide) mw_57 (k_iload dX0_takeOnward_47 (k_iald dX0_takeOnward_49 rfl (k_iload dX0_takeOnward_50 (k_callV (q := (RX3, TX3, 4)) dX0_takeOnward_52 cX3_isIn_ct rfl (kv_goodV mw_342 mw_343 mw_344 mw_4 mw_345) (by decide +kernel) rfl (by decide) (by decide) (k_ifeq dX0_takeOnward_55 rfl (sX0_takeOnward_67 hK) (sX0_takeOnward_58 hK))))))))
theorem nX0_takeOnward_42 : kv_cn (fun K => fX0_takeOnward_42 K) := cn_aload 2 (cn_aload 1 (cn_getf 1 0 (cn_iload 7 (cn_iald 0 (cn_iload 6 (cn_callV 3 2 mX3_isIn (cn_ifeq nX0_takeOnward_67 nX0_takeOnward_58)))))))
def fX0_takeOnward_33 (K : Nat → kv_D) : kv_D := o_iload 6 (o_aload 2 (o_getf 3 2 (o_icge (fX0_takeOnward_67 K) (fX0_takeOnward_42 K))))
theorem sX0_takeOnward_33 {K : Nat → kv_D} (hK : ∀ pc, SX0_takeOnward pc (K pc)) : SX0_takeOnward 33 (fX0_takeOnward_33 K) := k_iload dX0_takeOnward_33 (k_aload_n dX0_takeOnward_35 rfl (k_getN (C := RX3) (T := TX3) (N := 4) (ci := 3) (index := 53) (kf := 2) dX0_takeOnward_36 rfl (fun w h => List.mem_cons_of_mem _ (inX3 w h)) (by decide) mw_128 (k_icge dX0_takeOnward_39 rfl (sX0_takeOnward_67 hK) (sX0_takeOnward_42 hK))))
theorem nX0_takeOnward_33 : kv_cn (fun K => fX0_takeOnward_33 K) := cn_iload 6 (cn_aload 2 (cn_getf 3 2 (cn_icge nX0_takeOnward_67 nX0_takeOnward_42)))
def fX0_takeOnward_21 (K : Nat → kv_D) : kv_D := o_iload 8 (o_aload 1 (o_getf 1 2 (o_iload 7 (o_iald 0 (o_icge (fX0_takeOnward_67 K) (fX0_takeOnward_33 K))))))
theorem sX0_takeOnward_21 {K : Nat → kv_D} (hK : ∀ pc, SX0_takeOnward pc (K pc)) : SX0_takeOnward 21 (fX0_takeOnward_21 K) := k_iload dX0_takeOnward_21 (k_aload_n dX0_takeOnward_23 rfl (k_getN (C := RX1) (T := TX1) (N := 14) (ci := 1) (index := 40) (kf := 2) dX0_takeOnward_24 rfl (fun w h => List.mem_cons_of_mem _ (inX1 w h)) (by decide) mw_61 (k_iload dX0_takeOnward_27 (k_iald dX0_takeOnward_29 rfl (k_icge dX0_takeOnward_30 rfl (sX0_takeOnward_67 hK) (sX0_takeOnward_33 hK))))))
theorem nX0_takeOnward_21 : kv_cn (fun K => fX0_takeOnward_21 K) := cn_iload 8 (cn_aload 1 (cn_getf 1 2 (cn_iload 7 (cn_iald 0 (cn_icge nX0_takeOnward_67 nX0_takeOnward_33)))))
def fX0_takeOnward_18 (K : Nat → kv_D) : kv_D := o_const 0 (o_istore 8 ((K 21)))
theorem sX0_takeOnward_18 {K : Nat → kv_D} (hK : ∀ pc, SX0_takeOnward pc (K pc)) : SX0_takeOnward 18 (fX0_takeOnward_18 K) := k_iconst dX0_takeOnward_18 (by decide +kernel) (k_istore dX0_takeOnward_19 (by decide) ((hK 21)))
theorem nX0_takeOnward_18 : kv_cn (fun K => fX0_takeOnward_18 K) := cn_const 0 (cn_istore 8 ((cn_K 21)))
def fX0_takeOnward_11 (K : Nat → kv_D) : kv_D := o_iload 7 (o_iload 4 (o_icge (fX0_takeOnward_126 K) (fX0_takeOnward_18 K)))
theorem sX0_takeOnward_11 {K : Nat → kv_D} (hK : ∀ pc, SX0_takeOnward pc (K pc)) : SX0_takeOnward 11 (fX0_takeOnward_11 K) := k_iload dX0_takeOnward_11 (k_iload dX0_takeOnward_13 (k_icge dX0_takeOnward_15 rfl (sX0_takeOnward_126 hK) (sX0_takeOnward_18 hK)))
theorem nX0_takeOnward_11 : kv_cn (fun K => fX0_takeOnward_11 K) := cn_iload 7 (cn_iload 4 (cn_icge nX0_takeOnward_126 nX0_takeOnward_18))
def fX0_takeOnward_0 (K : Nat → kv_D) : kv_D := o_aload 0 (o_getf 0 0 (o_iload 3 (o_iald 0 (o_istore 6 (o_iload 3 (o_istore 7 ((K 11))))))))
theorem sX0_takeOnward_0 {K : Nat → kv_D} (hK : ∀ pc, SX0_takeOnward pc (K pc)) : SX0_takeOnward 0 (fX0_takeOnward_0 K) := k_aload_n dX0_takeOnward_0 rfl (k_getf (C := RX0) (T := TX0) (N := 1) (ci := 0) (index := 9) (kf := 0) dX0_takeOnward_1 rfl (fun w h => List.mem_cons_of_mem _ (inX0 w h)) (by decide) (List.mem_cons_of_mem _ mw_148) (k_iload_n dX0_takeOnward_4 rfl (k_iald dX0_takeOnward_5 rfl (k_istore dX0_takeOnward_6 (by decide) (k_iload_n dX0_takeOnward_8 rfl (k_istore dX0_takeOnward_9 (by decide) ((hK 11))))))))
theorem nX0_takeOnward_0 : kv_cn (fun K => fX0_takeOnward_0 K) := cn_aload 0 (cn_getf 0 0 (cn_iload 3 (cn_iald 0 (cn_istore 6 (cn_iload 3 (cn_istore 7 ((cn_K 11))))))))
def bX0_takeOnward (K : Nat → kv_D) (pc : Nat) : kv_D := if pc = 11 then fX0_takeOnward_11 K else if pc = 21 then fX0_takeOnward_21 K else fun _ _ _ _ _ => False
theorem hX0_takeOnward : ∀ pc, SX0_takeOnward pc (kv_lim (bX0_takeOnward) pc) := kv_lim_S (fun K hK pc => by
  unfold bX0_takeOnward
  by_cases q11 : pc = 11
  · rw [if_pos q11, q11]
    exact sX0_takeOnward_11 hK
  rw [if_neg q11]
  by_cases q21 : pc = 21
  · rw [if_pos q21, q21]
    exact sX0_takeOnward_21 hK
  rw [if_neg q21]
  exact kv_none)
theorem uX0_takeOnward_11 {L : List (Option Value)} {st : List Value} {h : kv_H} {v : Option Value} {h' : kv_H} (hx : fX0_takeOnward_11 (kv_lim (bX0_takeOnward)) L st h v h') : kv_lim (bX0_takeOnward) 11 L st h v h' := kv_un (q := 11) (by have e : (fun K => bX0_takeOnward K 11) = fun K => fX0_takeOnward_11 K := (by funext K; rfl); rw [e]; exact nX0_takeOnward_11) (by have e : bX0_takeOnward (kv_lim (bX0_takeOnward)) 11 = fX0_takeOnward_11 (kv_lim (bX0_takeOnward)) := rfl; rw [e]; exact hx)
theorem uX0_takeOnward_21 {L : List (Option Value)} {st : List Value} {h : kv_H} {v : Option Value} {h' : kv_H} (hx : fX0_takeOnward_21 (kv_lim (bX0_takeOnward)) L st h v h') : kv_lim (bX0_takeOnward) 21 L st h v h' := kv_un (q := 21) (by have e : (fun K => bX0_takeOnward K 21) = fun K => fX0_takeOnward_21 K := (by funext K; rfl); rw [e]; exact nX0_takeOnward_21) (by have e : bX0_takeOnward (kv_lim (bX0_takeOnward)) 21 = fX0_takeOnward_21 (kv_lim (bX0_takeOnward)) := rfl; rw [e]; exact hx)
def mX0_takeOnward : kv_M := kv_in 6 9 (fX0_takeOnward_0 (kv_lim (bX0_takeOnward)))
theorem cX0_takeOnward_ct : kv_CT yX0_takeOnward wX0_takeOnward 1 22 mX0_takeOnward := kv_met (by decide) rfl rfl (by decide) (fun h => by cases h) (sX0_takeOnward_0 (hX0_takeOnward))
-- X0_run
def wX0_run : List Cond := Cond.code yX0_run cX0_run 5 (some .int) :: kv_tb
abbrev SX0_run (pc : Nat) (F : kv_D) : Prop := kv_S cX0_run 5 RX0 wX0_run (some .int) false 2 50 none pc F
def fX0_run_68 : kv_D := o_aload 0 (o_aload 1 (o_aload 2 (o_aload 1 (o_getf 1 5 (o_aload 1 (o_getf 1 3 (o_iload 3 (o_callV 0 5 mX0_takeOnward (o_iret .int)))))))))
theorem sX0_run_68 : SX0_run 68 (fX0_run_68) := k_aload_n dX0_run_68 rfl (k_aload_n dX0_run_69 rfl (k_aload_n dX0_run_70 rfl (k_aload_n dX0_run_71 rfl (k_getN (C := RX1) (T := TX1) (N := 14) (ci := 1) (index := 30) (kf := 5) dX0_run_72 rfl (fun w h => List.mem_cons_of_mem _ (inX1 w h)) (by decide) mw_69 (k_aload_n dX0_run_75 rfl (k_getN (C := RX1) (T := TX1) (N := 14) (ci := 1) (index := 37) (kf := 3) dX0_run_76 rfl (fun w h => List.mem_cons_of_mem _ (inX1 w h)) (by decide) mw_63 (k_iload_n dX0_run_79 rfl (k_callV (q := (RX0, TX0, 1)) dX0_run_80 cX0_takeOnward_ct rfl (kv_goodV mw_346 mw_348 sel_X0_takeOnward mw_5 mw_349) (by decide +kernel) rfl (by decide) (by decide) (k_iret dX0_run_83 rfl)))))))))
def fX0_run_66 : kv_D := o_const 0 (o_iret .int)
theorem sX0_run_66 : SX0_run 66 (fX0_run_66) := k_iconst dX0_run_66 (by decide +kernel) (k_iret dX0_run_67 rfl)
def fX0_run_50 : kv_D := o_aload 0 (o_getf 0 0 (o_aload 1 (o_getf 1 5 (o_iald 0 (o_aload 2 (o_getf 3 3 (o_icne (fX0_run_68) (fX0_run_66))))))))
theorem sX0_run_50 : SX0_run 50 (fX0_run_50) := k_aload_n dX0_run_50 rfl (k_getf (C := RX0) (T := TX0) (N := 1) (ci := 0) (index := 9) (kf := 0) dX0_run_51 rfl (fun w h => List.mem_cons_of_mem _ (inX0 w h)) (by decide) (List.mem_cons_of_mem _ mw_148) (k_aload_n dX0_run_54 rfl (k_getN (C := RX1) (T := TX1) (N := 14) (ci := 1) (index := 30) (kf := 5) dX0_run_55 rfl (fun w h => List.mem_cons_of_mem _ (inX1 w h)) (by decide) mw_69 (k_iald dX0_run_58 rfl (k_aload_n dX0_run_59 rfl (k_getN (C := RX3) (T := TX3) (N := 4) (ci := 3) (index := 25) (kf := 3) dX0_run_60 rfl (fun w h => List.mem_cons_of_mem _ (inX3 w h)) (by decide) mw_131 (k_icne dX0_run_63 rfl (sX0_run_68) (sX0_run_66))))))))
def fX0_run_47 : kv_D := o_iload 4 (o_iret .int)
theorem sX0_run_47 : SX0_run 47 (fX0_run_47) := k_iload dX0_run_47 (k_iret dX0_run_49 rfl)
def fX0_run_11 : kv_D := o_aload 0 (o_getf 0 0 (o_aload 1 (o_getf 1 4 (o_aload 2 (o_getf 3 3 (o_iast 0 (fun x => x) (o_aload 0 (o_aload 1 (o_aload 2 (o_aload 1 (o_getf 1 4 (o_aload 1 (o_getf 1 5 (o_iload 3 (o_callV 0 5 mX0_takeOnward (o_istore 4 (o_iload 4 (o_const 1 (o_iceq (fX0_run_50) (fX0_run_47))))))))))))))))))))
theorem sX0_run_11 : SX0_run 11 (fX0_run_11) := k_aload_n dX0_run_11 rfl (k_getf (C := RX0) (T := TX0) (N := 1) (ci := 0) (index := 9) (kf := 0) dX0_run_12 rfl (fun w h => List.mem_cons_of_mem _ (inX0 w h)) (by decide) (List.mem_cons_of_mem _ mw_148) (k_aload_n dX0_run_15 rfl (k_getN (C := RX1) (T := TX1) (N := 14) (ci := 1) (index := 19) (kf := 4) dX0_run_16 rfl (fun w h => List.mem_cons_of_mem _ (inX1 w h)) (by decide) mw_66 (k_aload_n dX0_run_19 rfl (k_getN (C := RX3) (T := TX3) (N := 4) (ci := 3) (index := 25) (kf := 3) dX0_run_20 rfl (fun w h => List.mem_cons_of_mem _ (inX3 w h)) (by decide) mw_131 (k_iast dX0_run_23 rfl (k_aload_n dX0_run_24 rfl (k_aload_n dX0_run_25 rfl (k_aload_n dX0_run_26 rfl (k_aload_n dX0_run_27 rfl (k_getN (C := RX1) (T := TX1) (N := 14) (ci := 1) (index := 19) (kf := 4) dX0_run_28 rfl (fun w h => List.mem_cons_of_mem _ (inX1 w h)) (by decide) mw_66 (k_aload_n dX0_run_31 rfl (k_getN (C := RX1) (T := TX1) (N := 14) (ci := 1) (index := 30) (kf := 5) dX0_run_32 rfl (fun w h => List.mem_cons_of_mem _ (inX1 w h)) (by decide) mw_69 (k_iload_n dX0_run_35 rfl (k_callV (q := (RX0, TX0, 1)) dX0_run_36 cX0_takeOnward_ct rfl (kv_goodV mw_346 mw_348 sel_X0_takeOnward mw_5 mw_349) (by decide +kernel) rfl (by decide) (by decide) (k_istore dX0_run_39 (by decide) (k_iload dX0_run_41 (k_iconst dX0_run_43 (by decide +kernel) (k_iceq dX0_run_44 rfl (sX0_run_50) (sX0_run_47))))))))))))))))))))
def fX0_run_9 : kv_D := o_const 0 (o_iret .int)
theorem sX0_run_9 : SX0_run 9 (fX0_run_9) := k_iconst dX0_run_9 (by decide +kernel) (k_iret dX0_run_10 rfl)
def fX0_run_0 : kv_D := o_aload 0 (o_aload 1 (o_aload 2 (o_callV 0 2 mX0_takeBefore (o_ifne (fX0_run_11) (fX0_run_9)))))
theorem sX0_run_0 : SX0_run 0 (fX0_run_0) := k_aload_n dX0_run_0 rfl (k_aload_n dX0_run_1 rfl (k_aload_n dX0_run_2 rfl (k_callV (q := (RX0, TX0, 1)) dX0_run_3 cX0_takeBefore_ct rfl (kv_goodV mw_338 mw_340 sel_X0_takeBefore mw_5 mw_341) (by decide +kernel) rfl (by decide) (by decide) (k_ifne dX0_run_6 rfl (sX0_run_11) (sX0_run_9)))))
def mX0_run : kv_M := kv_in 4 5 (fX0_run_0)
theorem cX0_run_ct : kv_CT yX0_run wX0_run 2 50 mX0_run := kv_met (by decide) rfl rfl (by decide) (fun h => by cases h) (sX0_run_0)
-- X0_segmentWidth
def wX0_segmentWidth : List Cond := Cond.code yX0_segmentWidth cX0_segmentWidth 4 (some .int) :: kv_tb
abbrev SX0_segmentWidth (pc : Nat) (F : kv_D) : Prop := kv_S cX0_segmentWidth 4 RX0 wX0_segmentWidth (some .int) false 0 0 none pc F
def fX0_segmentWidth_0 : kv_D := o_iload 2 (o_const 49 (o_isub (o_istore 3 (o_aload 0 (o_getf 0 0 (o_aload 1 (o_getf 1 8 (o_iload 3 (o_iald 0 (o_iald 0 (o_aload 0 (o_getf 0 0 (o_aload 1 (o_getf 1 7 (o_iload 3 (o_iald 0 (o_iald 0 (o_isub (o_iret .int)))))))))))))))))))
theorem sX0_segmentWidth_0 : SX0_segmentWidth 0 (fX0_segmentWidth_0) := k_iload_n dX0_segmentWidth_0 rfl (k_bipush dX0_segmentWidth_1 (by decide +kernel) (k_isub dX0_segmentWidth_3 (k_istore_n dX0_segmentWidth_4 rfl (by decide) (k_aload_n dX0_segmentWidth_5 rfl (k_getf (C := RX0) (T := TX0) (N := 1) (ci := 0) (index := 9) (kf := 0) dX0_segmentWidth_6 rfl (fun w h => List.mem_cons_of_mem _ (inX0 w h)) (by decide) (List.mem_cons_of_mem _ mw_148) (k_aload_n dX0_segmentWidth_9 rfl (k_getN (C := RX1) (T := TX1) (N := 14) (ci := 1) (index := 59) (kf := 8) dX0_segmentWidth_10 rfl (fun w h => List.mem_cons_of_mem _ (inX1 w h)) (by decide) mw_76 (k_iload_n dX0_segmentWidth_13 rfl (k_iald dX0_segmentWidth_14 rfl (k_iald dX0_segmentWidth_15 rfl (k_aload_n dX0_segmentWidth_16 rfl (k_getf (C := RX0) (T := TX0) (N := 1) (ci := 0) (index := 9) (kf := 0) dX0_segmentWidth_17 rfl (fun w h => List.mem_cons_of_mem _ (inX0 w h)) (by decide) (List.mem_cons_of_mem _ mw_148) (k_aload_n dX0_segmentWidth_20 rfl (k_getN (C := RX1) (T := TX1) (N := 14) (ci := 1) (index := 56) (kf := 7) dX0_segmentWidth_21 rfl (fun w h => List.mem_cons_of_mem _ (inX1 w h)) (by decide) mw_74 (k_iload_n dX0_segmentWidth_24 rfl (k_iald dX0_segmentWidth_25 rfl (k_iald dX0_segmentWidth_26 rfl (k_isub dX0_segmentWidth_27 (k_iret dX0_segmentWidth_28 rfl)))))))))))))))))))
def mX0_segmentWidth : kv_M := kv_in 3 4 (fX0_segmentWidth_0)
theorem cX0_segmentWidth_ct : kv_CT yX0_segmentWidth wX0_segmentWidth 0 0 mX0_segmentWidth := kv_met (by decide) rfl rfl (by decide) (fun h => by cases h) (sX0_segmentWidth_0)
-- X3_widthOf
def wX3_widthOf : List Cond := Cond.code yX3_widthOf cX3_widthOf 6 (some .int) :: kv_tb
abbrev SX3_widthOf (pc : Nat) (F : kv_D) : Prop := kv_S cX3_widthOf 6 RX3 wX3_widthOf (some .int) false 1 23 none pc F
def fX3_widthOf_48 (K : Nat → kv_D) : kv_D := o_iload 3 (o_iret .int)
theorem sX3_widthOf_48 {K : Nat → kv_D} (hK : ∀ pc, SX3_widthOf pc (K pc)) : SX3_widthOf 48 (fX3_widthOf_48 K) := k_iload_n dX3_widthOf_48 rfl (k_iret dX3_widthOf_49 rfl)
theorem nX3_widthOf_48 : kv_cn (fun K => fX3_widthOf_48 K) := cn_iload 3 (cn_c _)
def fX3_widthOf_40 (K : Nat → kv_D) : kv_D := o_iadd (o_istore 3 (o_iinc 4 1 ((K 5))))
theorem sX3_widthOf_40 {K : Nat → kv_D} (hK : ∀ pc, SX3_widthOf pc (K pc)) : SX3_widthOf 40 (fX3_widthOf_40 K) := k_iadd dX3_widthOf_40 (k_istore_n dX3_widthOf_41 rfl (by decide) (k_iinc dX3_widthOf_42 (by decide +kernel) (by decide) (k_goto dX3_widthOf_45 rfl (hK 5))))
theorem nX3_widthOf_40 : kv_cn (fun K => fX3_widthOf_40 K) := cn_iadd (cn_istore 3 (cn_iinc 4 1 ((cn_K 5))))
def fX3_widthOf_33 (K : Nat → kv_D) : kv_D := o_aload 1 (o_aload 0 (o_iload 5 (o_callV 0 2 mX0_segmentWidth ((fX3_widthOf_40 K)))))
theorem sX3_widthOf_33 {K : Nat → kv_D} (hK : ∀ pc, SX3_widthOf pc (K pc)) : SX3_widthOf 33 (fX3_widthOf_33 K) := k_aload_n dX3_widthOf_33 rfl (k_aload_n dX3_widthOf_34 rfl (k_iload dX3_widthOf_35 (k_callV (q := (RX0, TX0, 1)) dX3_widthOf_37 cX0_segmentWidth_ct rfl (kv_goodV mw_362 mw_363 mw_364 mw_5 mw_365) (by decide +kernel) rfl (by decide) (by decide) ((sX3_widthOf_40 hK)))))
theorem nX3_widthOf_33 : kv_cn (fun K => fX3_widthOf_33 K) := cn_aload 1 (cn_aload 0 (cn_iload 5 (cn_callV 0 2 mX0_segmentWidth (nX3_widthOf_40))))
def fX3_widthOf_29 (K : Nat → kv_D) : kv_D := o_const 1 ((fX3_widthOf_40 K))
theorem sX3_widthOf_29 {K : Nat → kv_D} (hK : ∀ pc, SX3_widthOf pc (K pc)) : SX3_widthOf 29 (fX3_widthOf_29 K) := k_iconst dX3_widthOf_29 (by decide +kernel) (k_goto dX3_widthOf_30 rfl (sX3_widthOf_40 hK))
theorem nX3_widthOf_29 : kv_cn (fun K => fX3_widthOf_29 K) := cn_const 1 (nX3_widthOf_40)
def fX3_widthOf_11 (K : Nat → kv_D) : kv_D := o_aload 0 (o_getf 1 10 (o_iload 4 (o_iald 1 (o_istore 5 (o_iload 3 (o_iload 5 (o_callS 1 mX4_isSmall (o_ifeq (fX3_widthOf_33 K) (fX3_widthOf_29 K)))))))))
theorem sX3_widthOf_11 {K : Nat → kv_D} (hK : ∀ pc, SX3_widthOf pc (K pc)) : SX3_widthOf 11 (fX3_widthOf_11 K) := k_aload_n dX3_widthOf_11 rfl (k_getN (C := RX1) (T := TX1) (N := 14) (ci := 1) (index := 56) (kf := 10) dX3_widthOf_12 rfl (fun w h => List.mem_cons_of_mem _ (inX1 w h)) (by decide) mw_80 (k_iload dX3_widthOf_15 (k_cald dX3_widthOf_17 rfl (k_istore dX3_widthOf_18 (by decide) (k_iload_n dX3_widthOf_20 rfl (k_iload dX3_widthOf_21 (k_callSN dX3_widthOf_23 cX4_isSmall_ct rfl (kv_goodC mw_207) mw_361 (List.mem_cons_of_mem _ mw_1) (List.mem_cons_of_mem _ mw_206) (by decide +kernel) (by decide) (by decide) (k_ifeq dX3_widthOf_26 rfl (sX3_widthOf_33 hK) (sX3_widthOf_29 hK)))))))))
theorem nX3_widthOf_11 : kv_cn (fun K => fX3_widthOf_11 K) := cn_aload 0 (cn_getf 1 10 (cn_iload 4 (cn_iald 1 (cn_istore 5 (cn_iload 3 (cn_iload 5 (cn_callS 1 mX4_isSmall (cn_ifeq nX3_widthOf_33 nX3_widthOf_29))))))))
def fX3_widthOf_5 (K : Nat → kv_D) : kv_D := o_iload 4 (o_iload 2 (o_icge (fX3_widthOf_48 K) (fX3_widthOf_11 K)))
theorem sX3_widthOf_5 {K : Nat → kv_D} (hK : ∀ pc, SX3_widthOf pc (K pc)) : SX3_widthOf 5 (fX3_widthOf_5 K) := k_iload dX3_widthOf_5 (k_iload_n dX3_widthOf_7 rfl (k_icge dX3_widthOf_8 rfl (sX3_widthOf_48 hK) (sX3_widthOf_11 hK)))
theorem nX3_widthOf_5 : kv_cn (fun K => fX3_widthOf_5 K) := cn_iload 4 (cn_iload 2 (cn_icge nX3_widthOf_48 nX3_widthOf_11))
def fX3_widthOf_0 (K : Nat → kv_D) : kv_D := o_const 0 (o_istore 3 (o_const 0 (o_istore 4 ((K 5)))))
theorem sX3_widthOf_0 {K : Nat → kv_D} (hK : ∀ pc, SX3_widthOf pc (K pc)) : SX3_widthOf 0 (fX3_widthOf_0 K) := k_iconst dX3_widthOf_0 (by decide +kernel) (k_istore_n dX3_widthOf_1 rfl (by decide) (k_iconst dX3_widthOf_2 (by decide +kernel) (k_istore dX3_widthOf_3 (by decide) ((hK 5)))))
theorem nX3_widthOf_0 : kv_cn (fun K => fX3_widthOf_0 K) := cn_const 0 (cn_istore 3 (cn_const 0 (cn_istore 4 ((cn_K 5)))))
def bX3_widthOf (K : Nat → kv_D) (pc : Nat) : kv_D := if pc = 5 then fX3_widthOf_5 K else fun _ _ _ _ _ => False
theorem hX3_widthOf : ∀ pc, SX3_widthOf pc (kv_lim (bX3_widthOf) pc) := kv_lim_S (fun K hK pc => by
  unfold bX3_widthOf
  by_cases q5 : pc = 5
  · rw [if_pos q5, q5]
    exact sX3_widthOf_5 hK
  rw [if_neg q5]
  exact kv_none)
theorem uX3_widthOf_5 {L : List (Option Value)} {st : List Value} {h : kv_H} {v : Option Value} {h' : kv_H} (hx : fX3_widthOf_5 (kv_lim (bX3_widthOf)) L st h v h') : kv_lim (bX3_widthOf) 5 L st h v h' := kv_un (q := 5) (by have e : (fun K => bX3_widthOf K 5) = fun K => fX3_widthOf_5 K := (by funext K; rfl); rw [e]; exact nX3_widthOf_5) (by have e : bX3_widthOf (kv_lim (bX3_widthOf)) 5 = fX3_widthOf_5 (kv_lim (bX3_widthOf)) := rfl; rw [e]; exact hx)
def mX3_widthOf : kv_M := kv_in 3 6 (fX3_widthOf_0 (kv_lim (bX3_widthOf)))
theorem cX3_widthOf_ct : kv_CT yX3_widthOf wX3_widthOf 1 23 mX3_widthOf := kv_met (by decide) rfl rfl (by decide) (fun h => by cases h) (sX3_widthOf_0 (hX3_widthOf))
-- X3_sizeAfter
def wX3_sizeAfter : List Cond := Cond.code yX3_sizeAfter cX3_sizeAfter 4 (some .int) :: kv_tb
abbrev SX3_sizeAfter (pc : Nat) (F : kv_D) : Prop := kv_S cX3_sizeAfter 4 RX3 wX3_sizeAfter (some .int) false 2 48 none pc F
def fX3_sizeAfter_0 : kv_D := o_aload 2 (o_getf 0 0 (o_aload 1 (o_getf 1 5 (o_iald 0 (o_aload 0 (o_getf 3 3 (o_isub (o_istore 3 (o_aload 0 (o_getf 3 2 (o_iload 3 (o_isub (o_aload 1 (o_aload 2 (o_aload 1 (o_getf 1 11 (o_callS 3 mX3_widthOf (o_iadd (o_iret .int)))))))))))))))))))
theorem sX3_sizeAfter_0 : SX3_sizeAfter 0 (fX3_sizeAfter_0) := k_aload_n dX3_sizeAfter_0 rfl (k_getN (C := RX0) (T := TX0) (N := 1) (ci := 0) (index := 25) (kf := 0) dX3_sizeAfter_1 rfl (fun w h => List.mem_cons_of_mem _ (inX0 w h)) (by decide) mw_149 (k_aload_n dX3_sizeAfter_4 rfl (k_getN (C := RX1) (T := TX1) (N := 14) (ci := 1) (index := 31) (kf := 5) dX3_sizeAfter_5 rfl (fun w h => List.mem_cons_of_mem _ (inX1 w h)) (by decide) mw_70 (k_iald dX3_sizeAfter_8 rfl (k_aload_n dX3_sizeAfter_9 rfl (k_getf (C := RX3) (T := TX3) (N := 4) (ci := 3) (index := 22) (kf := 3) dX3_sizeAfter_10 rfl (fun w h => List.mem_cons_of_mem _ (inX3 w h)) (by decide) (List.mem_cons_of_mem _ mw_130) (k_isub dX3_sizeAfter_13 (k_istore_n dX3_sizeAfter_14 rfl (by decide) (k_aload_n dX3_sizeAfter_15 rfl (k_getf (C := RX3) (T := TX3) (N := 4) (ci := 3) (index := 18) (kf := 2) dX3_sizeAfter_16 rfl (fun w h => List.mem_cons_of_mem _ (inX3 w h)) (by decide) (List.mem_cons_of_mem _ mw_127) (k_iload_n dX3_sizeAfter_19 rfl (k_isub dX3_sizeAfter_20 (k_aload_n dX3_sizeAfter_21 rfl (k_aload_n dX3_sizeAfter_22 rfl (k_aload_n dX3_sizeAfter_23 rfl (k_getN (C := RX1) (T := TX1) (N := 14) (ci := 1) (index := 36) (kf := 11) dX3_sizeAfter_24 rfl (fun w h => List.mem_cons_of_mem _ (inX1 w h)) (by decide) mw_82 (k_callS dX3_sizeAfter_27 cX3_widthOf_ct rfl (kv_goodS mw_358 mw_359 mw_4 mw_360) (by decide +kernel) (by decide) (by decide) (k_iadd dX3_sizeAfter_30 (k_iret dX3_sizeAfter_31 rfl)))))))))))))))))))
def mX3_sizeAfter : kv_M := kv_in 3 4 (fX3_sizeAfter_0)
theorem cX3_sizeAfter_ct : kv_CT yX3_sizeAfter wX3_sizeAfter 2 48 mX3_sizeAfter := kv_met (by decide) rfl rfl (by decide) (fun h => by cases h) (sX3_sizeAfter_0)
-- X0_segmentBegin
def wX0_segmentBegin : List Cond := Cond.code yX0_segmentBegin cX0_segmentBegin 3 (some .int) :: kv_tb
abbrev SX0_segmentBegin (pc : Nat) (F : kv_D) : Prop := kv_S cX0_segmentBegin 3 RX0 wX0_segmentBegin (some .int) false 0 0 none pc F
def fX0_segmentBegin_0 : kv_D := o_aload 0 (o_getf 0 0 (o_aload 1 (o_getf 1 7 (o_iload 2 (o_const 49 (o_isub (o_iald 0 (o_iald 0 (o_iret .int)))))))))
theorem sX0_segmentBegin_0 : SX0_segmentBegin 0 (fX0_segmentBegin_0) := k_aload_n dX0_segmentBegin_0 rfl (k_getf (C := RX0) (T := TX0) (N := 1) (ci := 0) (index := 9) (kf := 0) dX0_segmentBegin_1 rfl (fun w h => List.mem_cons_of_mem _ (inX0 w h)) (by decide) (List.mem_cons_of_mem _ mw_148) (k_aload_n dX0_segmentBegin_4 rfl (k_getN (C := RX1) (T := TX1) (N := 14) (ci := 1) (index := 56) (kf := 7) dX0_segmentBegin_5 rfl (fun w h => List.mem_cons_of_mem _ (inX1 w h)) (by decide) mw_74 (k_iload_n dX0_segmentBegin_8 rfl (k_bipush dX0_segmentBegin_9 (by decide +kernel) (k_isub dX0_segmentBegin_11 (k_iald dX0_segmentBegin_12 rfl (k_iald dX0_segmentBegin_13 rfl (k_iret dX0_segmentBegin_14 rfl)))))))))
def mX0_segmentBegin : kv_M := kv_in 3 3 (fX0_segmentBegin_0)
theorem cX0_segmentBegin_ct : kv_CT yX0_segmentBegin wX0_segmentBegin 0 0 mX0_segmentBegin := kv_met (by decide) rfl rfl (by decide) (fun h => by cases h) (sX0_segmentBegin_0)
