theorem dX5_element_114 : decode cX5_element 114 = .ok (.ireturn, 1) := by decide +kernel
theorem dX5_element_113 : decode cX5_element 113 = .ok (.iconst (-1), 1) := by decide +kernel
theorem dX5_element_104 : decode cX5_element 104 = .ok (.aload_n 0, 1) := by decide +kernel
theorem dX5_element_105 : decode cX5_element 105 = .ok (.iload_n 1, 1) := by decide +kernel
theorem dX5_element_106 : decode cX5_element 106 = .ok (.iload_n 2, 1) := by decide +kernel
theorem dX5_element_107 : decode cX5_element 107 = .ok (.invokevirtual 96, 3) := by decide +kernel
theorem dX5_element_110 : decode cX5_element 110 = .ok (.goto 4, 3) := by decide +kernel
theorem dX5_element_98 : decode cX5_element 98 = .ok (.iload_n 3, 1) := by decide +kernel
theorem dX5_element_99 : decode cX5_element 99 = .ok (.bipush 91, 2) := by decide +kernel
theorem dX5_element_101 : decode cX5_element 101 = .ok (.if_icmp .ne 12, 3) := by decide +kernel
theorem dX5_element_97 : decode cX5_element 97 = .ok (.ireturn, 1) := by decide +kernel
theorem dX5_element_88 : decode cX5_element 88 = .ok (.aload_n 0, 1) := by decide +kernel
theorem dX5_element_89 : decode cX5_element 89 = .ok (.getfield 13, 3) := by decide +kernel
theorem dX5_element_92 : decode cX5_element 92 = .ok (.iload_n 3, 1) := by decide +kernel
theorem dX5_element_93 : decode cX5_element 93 = .ok (.bipush 65, 2) := by decide +kernel
theorem dX5_element_95 : decode cX5_element 95 = .ok (.isub, 1) := by decide +kernel
theorem dX5_element_96 : decode cX5_element 96 = .ok (.iaload, 1) := by decide +kernel
theorem dX5_element_84 : decode cX5_element 84 = .ok (.iconst 0, 1) := by decide +kernel
theorem dX5_element_85 : decode cX5_element 85 = .ok (.goto 12, 3) := by decide +kernel
theorem dX5_element_69 : decode cX5_element 69 = .ok (.putfield 92, 3) := by decide +kernel
theorem dX5_element_72 : decode cX5_element 72 = .ok (.aload_n 0, 1) := by decide +kernel
theorem dX5_element_73 : decode cX5_element 73 = .ok (.getfield 13, 3) := by decide +kernel
theorem dX5_element_76 : decode cX5_element 76 = .ok (.iload_n 3, 1) := by decide +kernel
theorem dX5_element_77 : decode cX5_element 77 = .ok (.bipush 65, 2) := by decide +kernel
theorem dX5_element_79 : decode cX5_element 79 = .ok (.isub, 1) := by decide +kernel
theorem dX5_element_80 : decode cX5_element 80 = .ok (.iaload, 1) := by decide +kernel
theorem dX5_element_81 : decode cX5_element 81 = .ok (.ifCond .ge 7, 3) := by decide +kernel
theorem dX5_element_68 : decode cX5_element 68 = .ok (.iconst 0, 1) := by decide +kernel
theorem dX5_element_64 : decode cX5_element 64 = .ok (.iconst 1, 1) := by decide +kernel
theorem dX5_element_65 : decode cX5_element 65 = .ok (.goto 4, 3) := by decide +kernel
theorem dX5_element_52 : decode cX5_element 52 = .ok (.aload_n 0, 1) := by decide +kernel
theorem dX5_element_53 : decode cX5_element 53 = .ok (.getfield 13, 3) := by decide +kernel
theorem dX5_element_56 : decode cX5_element 56 = .ok (.iload_n 3, 1) := by decide +kernel
theorem dX5_element_57 : decode cX5_element 57 = .ok (.bipush 65, 2) := by decide +kernel
theorem dX5_element_59 : decode cX5_element 59 = .ok (.isub, 1) := by decide +kernel
theorem dX5_element_60 : decode cX5_element 60 = .ok (.iaload, 1) := by decide +kernel
theorem dX5_element_61 : decode cX5_element 61 = .ok (.ifCond .ge 7, 3) := by decide +kernel
theorem dX5_element_44 : decode cX5_element 44 = .ok (.aload_n 0, 1) := by decide +kernel
theorem dX5_element_45 : decode cX5_element 45 = .ok (.aload_n 0, 1) := by decide +kernel
theorem dX5_element_46 : decode cX5_element 46 = .ok (.getfield 92, 3) := by decide +kernel
theorem dX5_element_49 : decode cX5_element 49 = .ok (.ifCond .ne 15, 3) := by decide +kernel
theorem dX5_element_37 : decode cX5_element 37 = .ok (.iload_n 3, 1) := by decide +kernel
theorem dX5_element_38 : decode cX5_element 38 = .ok (.invokestatic 89, 3) := by decide +kernel
theorem dX5_element_41 : decode cX5_element 41 = .ok (.ifCond .eq 57, 3) := by decide +kernel
theorem dX5_element_30 : decode cX5_element 30 = .ok (.iconst 1, 1) := by decide +kernel
theorem dX5_element_31 : decode cX5_element 31 = .ok (.iload_n 3, 1) := by decide +kernel
theorem dX5_element_32 : decode cX5_element 32 = .ok (.bipush 97, 2) := by decide +kernel
theorem dX5_element_34 : decode cX5_element 34 = .ok (.isub, 1) := by decide +kernel
theorem dX5_element_35 : decode cX5_element 35 = .ok (.ishl, 1) := by decide +kernel
theorem dX5_element_36 : decode cX5_element 36 = .ok (.ireturn, 1) := by decide +kernel
theorem dX5_element_23 : decode cX5_element 23 = .ok (.iload_n 3, 1) := by decide +kernel
theorem dX5_element_24 : decode cX5_element 24 = .ok (.invokestatic 81, 3) := by decide +kernel
theorem dX5_element_27 : decode cX5_element 27 = .ok (.ifCond .eq 10, 3) := by decide +kernel
theorem dX5_element_20 : decode cX5_element 20 = .ok (.ldc 88, 2) := by decide +kernel
theorem dX5_element_22 : decode cX5_element 22 = .ok (.ireturn, 1) := by decide +kernel
theorem dX5_element_0 : decode cX5_element 0 = .ok (.aload_n 0, 1) := by decide +kernel
theorem dX5_element_1 : decode cX5_element 1 = .ok (.iload_n 1, 1) := by decide +kernel
theorem dX5_element_2 : decode cX5_element 2 = .ok (.iload_n 2, 1) := by decide +kernel
theorem dX5_element_3 : decode cX5_element 3 = .ok (.invokevirtual 77, 3) := by decide +kernel
theorem dX5_element_6 : decode cX5_element 6 = .ok (.istore_n 3, 1) := by decide +kernel
theorem dX5_element_7 : decode cX5_element 7 = .ok (.aload_n 0, 1) := by decide +kernel
theorem dX5_element_8 : decode cX5_element 8 = .ok (.iload_n 1, 1) := by decide +kernel
theorem dX5_element_9 : decode cX5_element 9 = .ok (.iconst 1, 1) := by decide +kernel
theorem dX5_element_10 : decode cX5_element 10 = .ok (.iadd, 1) := by decide +kernel
theorem dX5_element_11 : decode cX5_element 11 = .ok (.putfield 85, 3) := by decide +kernel
theorem dX5_element_14 : decode cX5_element 14 = .ok (.iload_n 3, 1) := by decide +kernel
theorem dX5_element_15 : decode cX5_element 15 = .ok (.bipush 46, 2) := by decide +kernel
theorem dX5_element_17 : decode cX5_element 17 = .ok (.if_icmp .ne 6, 3) := by decide +kernel
theorem dX5_define_37 : decode cX5_define 37 = .ok (.aload_n 0, 1) := by decide +kernel
theorem dX5_define_38 : decode cX5_define 38 = .ok (.getfield 13, 3) := by decide +kernel
theorem dX5_define_41 : decode cX5_define 41 = .ok (.aload_n 0, 1) := by decide +kernel
theorem dX5_define_42 : decode cX5_define 42 = .ok (.getfield 7, 3) := by decide +kernel
theorem dX5_define_45 : decode cX5_define 45 = .ok (.iconst 0, 1) := by decide +kernel
theorem dX5_define_46 : decode cX5_define 46 = .ok (.iaload, 1) := by decide +kernel
theorem dX5_define_47 : decode cX5_define 47 = .ok (.bipush 65, 2) := by decide +kernel
theorem dX5_define_49 : decode cX5_define 49 = .ok (.isub, 1) := by decide +kernel
theorem dX5_define_50 : decode cX5_define 50 = .ok (.iload_n 1, 1) := by decide +kernel
theorem dX5_define_51 : decode cX5_define 51 = .ok (.iastore, 1) := by decide +kernel
theorem dX5_define_52 : decode cX5_define 52 = .ok (.iconst 1, 1) := by decide +kernel
theorem dX5_define_53 : decode cX5_define 53 = .ok (.ireturn, 1) := by decide +kernel
theorem dX5_define_34 : decode cX5_define 34 = .ok (.bipush (-2), 2) := by decide +kernel
theorem dX5_define_36 : decode cX5_define 36 = .ok (.ireturn, 1) := by decide +kernel
theorem dX5_define_27 : decode cX5_define 27 = .ok (.aload_n 0, 1) := by decide +kernel
theorem dX5_define_28 : decode cX5_define 28 = .ok (.getfield 92, 3) := by decide +kernel
theorem dX5_define_31 : decode cX5_define 31 = .ok (.ifCond .eq 6, 3) := by decide +kernel
theorem dX5_define_25 : decode cX5_define 25 = .ok (.iconst (-1), 1) := by decide +kernel
theorem dX5_define_26 : decode cX5_define 26 = .ok (.ireturn, 1) := by decide +kernel
theorem dX5_define_14 : decode cX5_define 14 = .ok (.aload_n 0, 1) := by decide +kernel
theorem dX5_define_15 : decode cX5_define 15 = .ok (.getfield 85, 3) := by decide +kernel
theorem dX5_define_18 : decode cX5_define 18 = .ok (.aload_n 0, 1) := by decide +kernel
theorem dX5_define_19 : decode cX5_define 19 = .ok (.getfield 74, 3) := by decide +kernel
theorem dX5_define_22 : decode cX5_define 22 = .ok (.if_icmp .eq 5, 3) := by decide +kernel
theorem dX5_define_0 : decode cX5_define 0 = .ok (.aload_n 0, 1) := by decide +kernel
theorem dX5_define_1 : decode cX5_define 1 = .ok (.iconst 2, 1) := by decide +kernel
theorem dX5_define_2 : decode cX5_define 2 = .ok (.aload_n 0, 1) := by decide +kernel
theorem dX5_define_3 : decode cX5_define 3 = .ok (.getfield 74, 3) := by decide +kernel
theorem dX5_define_6 : decode cX5_define 6 = .ok (.invokevirtual 105, 3) := by decide +kernel
theorem dX5_define_9 : decode cX5_define 9 = .ok (.istore_n 1, 1) := by decide +kernel
theorem dX5_define_10 : decode cX5_define 10 = .ok (.iload_n 1, 1) := by decide +kernel
theorem dX5_define_11 : decode cX5_define 11 = .ok (.ifCond .lt 14, 3) := by decide +kernel
theorem dX5_place_26 : decode cX5_place 26 = .ok (.iload_n 2, 1) := by decide +kernel
theorem dX5_place_27 : decode cX5_place 27 = .ok (.ireturn, 1) := by decide +kernel
theorem dX5_place_20 : decode cX5_place 20 = .ok (.iinc 2 1, 3) := by decide +kernel
theorem dX5_place_23 : decode cX5_place 23 = .ok (.goto (-21), 3) := by decide +kernel
theorem dX5_place_10 : decode cX5_place 10 = .ok (.aload_n 0, 1) := by decide +kernel
theorem dX5_place_11 : decode cX5_place 11 = .ok (.getfield 7, 3) := by decide +kernel
theorem dX5_place_14 : decode cX5_place 14 = .ok (.iload_n 2, 1) := by decide +kernel
theorem dX5_place_15 : decode cX5_place 15 = .ok (.iaload, 1) := by decide +kernel
theorem dX5_place_16 : decode cX5_place 16 = .ok (.iload_n 1, 1) := by decide +kernel
theorem dX5_place_17 : decode cX5_place 17 = .ok (.if_icmp .eq 9, 3) := by decide +kernel
theorem dX5_place_2 : decode cX5_place 2 = .ok (.iload_n 2, 1) := by decide +kernel
theorem dX5_place_3 : decode cX5_place 3 = .ok (.aload_n 0, 1) := by decide +kernel
theorem dX5_place_4 : decode cX5_place 4 = .ok (.getfield 74, 3) := by decide +kernel
theorem dX5_place_7 : decode cX5_place 7 = .ok (.if_icmp .ge 19, 3) := by decide +kernel
theorem dX5_place_0 : decode cX5_place 0 = .ok (.iconst 0, 1) := by decide +kernel
theorem dX5_place_1 : decode cX5_place 1 = .ok (.istore_n 2, 1) := by decide +kernel
theorem dX5_count_39 : decode cX5_count 39 = .ok (.iload 4, 2) := by decide +kernel
theorem dX5_count_41 : decode cX5_count 41 = .ok (.ireturn, 1) := by decide +kernel
theorem dX5_count_30 : decode cX5_count 30 = .ok (.iadd, 1) := by decide +kernel
theorem dX5_count_31 : decode cX5_count 31 = .ok (.istore 4, 2) := by decide +kernel
theorem dX5_count_33 : decode cX5_count 33 = .ok (.iinc 5 1, 3) := by decide +kernel
theorem dX5_count_36 : decode cX5_count 36 = .ok (.goto (-30), 3) := by decide +kernel
theorem dX5_count_29 : decode cX5_count 29 = .ok (.iconst 0, 1) := by decide +kernel
theorem dX5_count_25 : decode cX5_count 25 = .ok (.iconst 1, 1) := by decide +kernel
theorem dX5_count_26 : decode cX5_count 26 = .ok (.goto 4, 3) := by decide +kernel
theorem dX5_count_12 : decode cX5_count 12 = .ok (.iload 4, 2) := by decide +kernel
theorem dX5_count_14 : decode cX5_count 14 = .ok (.aload_n 0, 1) := by decide +kernel
theorem dX5_count_15 : decode cX5_count 15 = .ok (.getfield 7, 3) := by decide +kernel
theorem dX5_count_18 : decode cX5_count 18 = .ok (.iload 5, 2) := by decide +kernel
theorem dX5_count_20 : decode cX5_count 20 = .ok (.iaload, 1) := by decide +kernel
theorem dX5_count_21 : decode cX5_count 21 = .ok (.iload_n 1, 1) := by decide +kernel
theorem dX5_count_22 : decode cX5_count 22 = .ok (.if_icmp .ne 7, 3) := by decide +kernel
theorem dX5_count_6 : decode cX5_count 6 = .ok (.iload 5, 2) := by decide +kernel
theorem dX5_count_8 : decode cX5_count 8 = .ok (.iload_n 3, 1) := by decide +kernel
theorem dX5_count_9 : decode cX5_count 9 = .ok (.if_icmp .ge 30, 3) := by decide +kernel
theorem dX5_count_0 : decode cX5_count 0 = .ok (.iconst 0, 1) := by decide +kernel
theorem dX5_count_1 : decode cX5_count 1 = .ok (.istore 4, 2) := by decide +kernel
theorem dX5_count_3 : decode cX5_count 3 = .ok (.iload_n 2, 1) := by decide +kernel
theorem dX5_count_4 : decode cX5_count 4 = .ok (.istore 5, 2) := by decide +kernel
theorem dX5_replacement_76 : decode cX5_replacement 76 = .ok (.ireturn, 1) := by decide +kernel
theorem dX5_replacement_75 : decode cX5_replacement 75 = .ok (.iconst 0, 1) := by decide +kernel
theorem dX5_replacement_71 : decode cX5_replacement 71 = .ok (.iconst 1, 1) := by decide +kernel
theorem dX5_replacement_72 : decode cX5_replacement 72 = .ok (.goto 4, 3) := by decide +kernel
theorem dX5_replacement_56 : decode cX5_replacement 56 = .ok (.aload_n 0, 1) := by decide +kernel
theorem dX5_replacement_57 : decode cX5_replacement 57 = .ok (.bipush 124, 2) := by decide +kernel
theorem dX5_replacement_59 : decode cX5_replacement 59 = .ok (.iload_n 1, 1) := by decide +kernel
theorem dX5_replacement_60 : decode cX5_replacement 60 = .ok (.aload_n 0, 1) := by decide +kernel
theorem dX5_replacement_61 : decode cX5_replacement 61 = .ok (.getfield 74, 3) := by decide +kernel
theorem dX5_replacement_64 : decode cX5_replacement 64 = .ok (.invokevirtual 112, 3) := by decide +kernel
theorem dX5_replacement_67 : decode cX5_replacement 67 = .ok (.iconst 1, 1) := by decide +kernel
theorem dX5_replacement_68 : decode cX5_replacement 68 = .ok (.if_icmp .gt 7, 3) := by decide +kernel
theorem dX5_replacement_50 : decode cX5_replacement 50 = .ok (.iinc 2 1, 3) := by decide +kernel
theorem dX5_replacement_53 : decode cX5_replacement 53 = .ok (.goto (-51), 3) := by decide +kernel
theorem dX5_replacement_48 : decode cX5_replacement 48 = .ok (.iconst 0, 1) := by decide +kernel
theorem dX5_replacement_49 : decode cX5_replacement 49 = .ok (.ireturn, 1) := by decide +kernel
theorem dX5_replacement_42 : decode cX5_replacement 42 = .ok (.iload_n 3, 1) := by decide +kernel
theorem dX5_replacement_43 : decode cX5_replacement 43 = .ok (.bipush 124, 2) := by decide +kernel
theorem dX5_replacement_45 : decode cX5_replacement 45 = .ok (.if_icmp .eq 5, 3) := by decide +kernel
theorem dX5_replacement_36 : decode cX5_replacement 36 = .ok (.iload_n 3, 1) := by decide +kernel
theorem dX5_replacement_37 : decode cX5_replacement 37 = .ok (.bipush 51, 2) := by decide +kernel
theorem dX5_replacement_39 : decode cX5_replacement 39 = .ok (.if_icmp .eq 11, 3) := by decide +kernel
theorem dX5_replacement_30 : decode cX5_replacement 30 = .ok (.iload_n 3, 1) := by decide +kernel
theorem dX5_replacement_31 : decode cX5_replacement 31 = .ok (.bipush 50, 2) := by decide +kernel
theorem dX5_replacement_33 : decode cX5_replacement 33 = .ok (.if_icmp .eq 17, 3) := by decide +kernel
theorem dX5_replacement_24 : decode cX5_replacement 24 = .ok (.iload_n 3, 1) := by decide +kernel
theorem dX5_replacement_25 : decode cX5_replacement 25 = .ok (.bipush 49, 2) := by decide +kernel
theorem dX5_replacement_27 : decode cX5_replacement 27 = .ok (.if_icmp .eq 23, 3) := by decide +kernel
theorem dX5_replacement_10 : decode cX5_replacement 10 = .ok (.aload_n 0, 1) := by decide +kernel
theorem dX5_replacement_11 : decode cX5_replacement 11 = .ok (.getfield 7, 3) := by decide +kernel
theorem dX5_replacement_14 : decode cX5_replacement 14 = .ok (.iload_n 2, 1) := by decide +kernel
theorem dX5_replacement_15 : decode cX5_replacement 15 = .ok (.iaload, 1) := by decide +kernel
theorem dX5_replacement_16 : decode cX5_replacement 16 = .ok (.istore_n 3, 1) := by decide +kernel
theorem dX5_replacement_17 : decode cX5_replacement 17 = .ok (.iload_n 3, 1) := by decide +kernel
theorem dX5_replacement_18 : decode cX5_replacement 18 = .ok (.invokestatic 81, 3) := by decide +kernel
theorem dX5_replacement_21 : decode cX5_replacement 21 = .ok (.ifCond .ne 29, 3) := by decide +kernel
theorem dX5_replacement_2 : decode cX5_replacement 2 = .ok (.iload_n 2, 1) := by decide +kernel
theorem dX5_replacement_3 : decode cX5_replacement 3 = .ok (.aload_n 0, 1) := by decide +kernel
theorem dX5_replacement_4 : decode cX5_replacement 4 = .ok (.getfield 74, 3) := by decide +kernel
theorem dX5_replacement_7 : decode cX5_replacement 7 = .ok (.if_icmp .ge 49, 3) := by decide +kernel
theorem dX5_replacement_0 : decode cX5_replacement 0 = .ok (.iload_n 1, 1) := by decide +kernel
theorem dX5_replacement_1 : decode cX5_replacement 1 = .ok (.istore_n 2, 1) := by decide +kernel
theorem dX5_add_68 : decode cX5_add 68 = .ok (.iastore, 1) := by decide +kernel
theorem dX5_add_69 : decode cX5_add 69 = .ok (.aload_n 0, 1) := by decide +kernel
theorem dX5_add_70 : decode cX5_add 70 = .ok (.getfield 25, 3) := by decide +kernel
theorem dX5_add_73 : decode cX5_add 73 = .ok (.aload_n 0, 1) := by decide +kernel
theorem dX5_add_74 : decode cX5_add 74 = .ok (.getfield 99, 3) := by decide +kernel
theorem dX5_add_77 : decode cX5_add 77 = .ok (.iload_n 3, 1) := by decide +kernel
theorem dX5_add_78 : decode cX5_add 78 = .ok (.iastore, 1) := by decide +kernel
theorem dX5_add_79 : decode cX5_add 79 = .ok (.aload_n 0, 1) := by decide +kernel
theorem dX5_add_80 : decode cX5_add 80 = .ok (.dup, 1) := by decide +kernel
theorem dX5_add_81 : decode cX5_add 81 = .ok (.getfield 99, 3) := by decide +kernel
theorem dX5_add_84 : decode cX5_add 84 = .ok (.iconst 1, 1) := by decide +kernel
theorem dX5_add_85 : decode cX5_add 85 = .ok (.iadd, 1) := by decide +kernel
theorem dX5_add_86 : decode cX5_add 86 = .ok (.putfield 99, 3) := by decide +kernel
theorem dX5_add_89 : decode cX5_add 89 = .ok (.iconst 1, 1) := by decide +kernel
theorem dX5_add_90 : decode cX5_add 90 = .ok (.ireturn, 1) := by decide +kernel
theorem dX5_add_67 : decode cX5_add 67 = .ok (.iconst 1, 1) := by decide +kernel
theorem dX5_add_62 : decode cX5_add 62 = .ok (.bipush 100, 2) := by decide +kernel
theorem dX5_add_64 : decode cX5_add 64 = .ok (.goto 4, 3) := by decide +kernel
theorem dX5_add_56 : decode cX5_add 56 = .ok (.iload_n 2, 1) := by decide +kernel
theorem dX5_add_57 : decode cX5_add 57 = .ok (.bipush 43, 2) := by decide +kernel
theorem dX5_add_59 : decode cX5_add 59 = .ok (.if_icmp .ne 8, 3) := by decide +kernel
theorem dX5_add_41 : decode cX5_add 41 = .ok (.iastore, 1) := by decide +kernel
theorem dX5_add_42 : decode cX5_add 42 = .ok (.aload_n 0, 1) := by decide +kernel
theorem dX5_add_43 : decode cX5_add 43 = .ok (.getfield 22, 3) := by decide +kernel
theorem dX5_add_46 : decode cX5_add 46 = .ok (.aload_n 0, 1) := by decide +kernel
theorem dX5_add_47 : decode cX5_add 47 = .ok (.getfield 99, 3) := by decide +kernel
theorem dX5_add_50 : decode cX5_add 50 = .ok (.iload_n 2, 1) := by decide +kernel
theorem dX5_add_51 : decode cX5_add 51 = .ok (.bipush 42, 2) := by decide +kernel
theorem dX5_add_53 : decode cX5_add 53 = .ok (.if_icmp .eq 9, 3) := by decide +kernel
theorem dX5_add_40 : decode cX5_add 40 = .ok (.iconst 1, 1) := by decide +kernel
theorem dX5_add_36 : decode cX5_add 36 = .ok (.iconst 0, 1) := by decide +kernel
theorem dX5_add_37 : decode cX5_add 37 = .ok (.goto 4, 3) := by decide +kernel
theorem dX5_add_30 : decode cX5_add 30 = .ok (.iload_n 2, 1) := by decide +kernel
theorem dX5_add_31 : decode cX5_add 31 = .ok (.bipush 63, 2) := by decide +kernel
theorem dX5_add_33 : decode cX5_add 33 = .ok (.if_icmp .ne 7, 3) := by decide +kernel
theorem dX5_add_6 : decode cX5_add 6 = .ok (.aload_n 0, 1) := by decide +kernel
theorem dX5_add_7 : decode cX5_add 7 = .ok (.getfield 16, 3) := by decide +kernel
theorem dX5_add_10 : decode cX5_add 10 = .ok (.aload_n 0, 1) := by decide +kernel
theorem dX5_add_11 : decode cX5_add 11 = .ok (.getfield 99, 3) := by decide +kernel
theorem dX5_add_14 : decode cX5_add 14 = .ok (.iload_n 1, 1) := by decide +kernel
theorem dX5_add_15 : decode cX5_add 15 = .ok (.iastore, 1) := by decide +kernel
theorem dX5_add_16 : decode cX5_add 16 = .ok (.aload_n 0, 1) := by decide +kernel
theorem dX5_add_17 : decode cX5_add 17 = .ok (.getfield 19, 3) := by decide +kernel
theorem dX5_add_20 : decode cX5_add 20 = .ok (.aload_n 0, 1) := by decide +kernel
theorem dX5_add_21 : decode cX5_add 21 = .ok (.getfield 99, 3) := by decide +kernel
theorem dX5_add_24 : decode cX5_add 24 = .ok (.iload_n 2, 1) := by decide +kernel
theorem dX5_add_25 : decode cX5_add 25 = .ok (.bipush 42, 2) := by decide +kernel
theorem dX5_add_27 : decode cX5_add 27 = .ok (.if_icmp .eq 9, 3) := by decide +kernel
theorem dX5_add_4 : decode cX5_add 4 = .ok (.iconst 0, 1) := by decide +kernel
theorem dX5_add_5 : decode cX5_add 5 = .ok (.ireturn, 1) := by decide +kernel
theorem dX5_add_0 : decode cX5_add 0 = .ok (.iload_n 1, 1) := by decide +kernel
theorem dX5_add_1 : decode cX5_add 1 = .ok (.ifCond .ge 5, 3) := by decide +kernel
-- X5_element
def wX5_element : List Cond := Cond.code yX5_element cX5_element 4 (some .int) :: kv_tb
abbrev SX5_element (pc : Nat) (F : kv_D) : Prop := kv_S cX5_element 4 RX5 wX5_element (some .int) false 2 51 none pc F
def fX5_element_114 : kv_D := o_iret .int
theorem sX5_element_114 : SX5_element 114 (fX5_element_114) := k_iret dX5_element_114 rfl
def fX5_element_113 : kv_D := o_const (-1) ((fX5_element_114))
theorem sX5_element_113 : SX5_element 113 (fX5_element_113) := k_iconst dX5_element_113 (by decide +kernel) ((sX5_element_114))
def fX5_element_104 : kv_D := o_aload 0 (o_iload 1 (o_iload 2 (o_callV 5 2 mX5_brackets ((fX5_element_114)))))
theorem sX5_element_104 : SX5_element 104 (fX5_element_104) := k_aload_n dX5_element_104 rfl (k_iload_n dX5_element_105 rfl (k_iload_n dX5_element_106 rfl (k_callV (q := (RX5, TX5, 32)) dX5_element_107 cX5_brackets_ct rfl (kv_goodV mw_543 mw_545 sel_X5_brackets mw_6 mw_546) (by decide +kernel) rfl (by decide) (by decide) (k_goto dX5_element_110 rfl (sX5_element_114)))))
def fX5_element_98 : kv_D := o_iload 3 (o_const 91 (o_icne (fX5_element_113) (fX5_element_104)))
theorem sX5_element_98 : SX5_element 98 (fX5_element_98) := k_iload_n dX5_element_98 rfl (k_bipush dX5_element_99 (by decide +kernel) (k_icne dX5_element_101 rfl (sX5_element_113) (sX5_element_104)))
def fX5_element_97 : kv_D := o_iret .int
theorem sX5_element_97 : SX5_element 97 (fX5_element_97) := k_iret dX5_element_97 rfl
def fX5_element_88 : kv_D := o_aload 0 (o_getf 5 2 (o_iload 3 (o_const 65 (o_isub (o_iald 0 ((fX5_element_97)))))))
theorem sX5_element_88 : SX5_element 88 (fX5_element_88) := k_aload_n dX5_element_88 rfl (k_getf (C := RX5) (T := TX5) (N := 32) (ci := 5) (index := 13) (kf := 2) dX5_element_89 rfl (fun w h => List.mem_cons_of_mem _ (inX5 w h)) (by decide) (List.mem_cons_of_mem _ mw_421) (k_iload_n dX5_element_92 rfl (k_bipush dX5_element_93 (by decide +kernel) (k_isub dX5_element_95 (k_iald dX5_element_96 rfl ((sX5_element_97)))))))
def fX5_element_84 : kv_D := o_const 0 ((fX5_element_97))
theorem sX5_element_84 : SX5_element 84 (fX5_element_84) := k_iconst dX5_element_84 (by decide +kernel) (k_goto dX5_element_85 rfl (sX5_element_97))
def fX5_element_69 : kv_D := o_putf 5 9 .boolean (o_aload 0 (o_getf 5 2 (o_iload 3 (o_const 65 (o_isub (o_iald 0 (o_ifge (fX5_element_88) (fX5_element_84))))))))
theorem sX5_element_69 : SX5_element 69 (fX5_element_69) := k_putf (C := RX5) (T := TX5) (N := 32) (ci := 5) (index := 92) (kf := 9) (ty := .boolean) dX5_element_69 rfl (fun w h => List.mem_cons_of_mem _ (inX5 w h)) tyX5 tyX5_ok nmX5 (by decide) (List.mem_cons_of_mem _ mw_428) rfl rfl (k_aload_n dX5_element_72 rfl (k_getf (C := RX5) (T := TX5) (N := 32) (ci := 5) (index := 13) (kf := 2) dX5_element_73 rfl (fun w h => List.mem_cons_of_mem _ (inX5 w h)) (by decide) (List.mem_cons_of_mem _ mw_421) (k_iload_n dX5_element_76 rfl (k_bipush dX5_element_77 (by decide +kernel) (k_isub dX5_element_79 (k_iald dX5_element_80 rfl (k_ifge dX5_element_81 rfl (sX5_element_88) (sX5_element_84))))))))
def fX5_element_68 : kv_D := o_const 0 ((fX5_element_69))
theorem sX5_element_68 : SX5_element 68 (fX5_element_68) := k_iconst dX5_element_68 (by decide +kernel) ((sX5_element_69))
def fX5_element_64 : kv_D := o_const 1 ((fX5_element_69))
theorem sX5_element_64 : SX5_element 64 (fX5_element_64) := k_iconst dX5_element_64 (by decide +kernel) (k_goto dX5_element_65 rfl (sX5_element_69))
def fX5_element_52 : kv_D := o_aload 0 (o_getf 5 2 (o_iload 3 (o_const 65 (o_isub (o_iald 0 (o_ifge (fX5_element_68) (fX5_element_64)))))))
theorem sX5_element_52 : SX5_element 52 (fX5_element_52) := k_aload_n dX5_element_52 rfl (k_getf (C := RX5) (T := TX5) (N := 32) (ci := 5) (index := 13) (kf := 2) dX5_element_53 rfl (fun w h => List.mem_cons_of_mem _ (inX5 w h)) (by decide) (List.mem_cons_of_mem _ mw_421) (k_iload_n dX5_element_56 rfl (k_bipush dX5_element_57 (by decide +kernel) (k_isub dX5_element_59 (k_iald dX5_element_60 rfl (k_ifge dX5_element_61 rfl (sX5_element_68) (sX5_element_64)))))))
def fX5_element_44 : kv_D := o_aload 0 (o_aload 0 (o_getf 5 9 (o_ifne (fX5_element_64) (fX5_element_52))))
theorem sX5_element_44 : SX5_element 44 (fX5_element_44) := k_aload_n dX5_element_44 rfl (k_aload_n dX5_element_45 rfl (k_getf (C := RX5) (T := TX5) (N := 32) (ci := 5) (index := 92) (kf := 9) dX5_element_46 rfl (fun w h => List.mem_cons_of_mem _ (inX5 w h)) (by decide) (List.mem_cons_of_mem _ mw_428) (k_ifne dX5_element_49 rfl (sX5_element_64) (sX5_element_52))))
def fX5_element_37 : kv_D := o_iload 3 (o_callS 1 mX5_capital (o_ifeq (fX5_element_98) (fX5_element_44)))
theorem sX5_element_37 : SX5_element 37 (fX5_element_37) := k_iload_n dX5_element_37 rfl (k_callS dX5_element_38 cX5_capital_ct rfl (kv_goodS mw_524 mw_525 mw_6 mw_526) (by decide +kernel) (by decide) (by decide) (k_ifeq dX5_element_41 rfl (sX5_element_98) (sX5_element_44)))
def fX5_element_30 : kv_D := o_const 1 (o_iload 3 (o_const 97 (o_isub (o_ishl (o_iret .int)))))
theorem sX5_element_30 : SX5_element 30 (fX5_element_30) := k_iconst dX5_element_30 (by decide +kernel) (k_iload_n dX5_element_31 rfl (k_bipush dX5_element_32 (by decide +kernel) (k_isub dX5_element_34 (k_ishl dX5_element_35 (k_iret dX5_element_36 rfl)))))
def fX5_element_23 : kv_D := o_iload 3 (o_callS 1 mX5_small (o_ifeq (fX5_element_37) (fX5_element_30)))
theorem sX5_element_23 : SX5_element 23 (fX5_element_23) := k_iload_n dX5_element_23 rfl (k_callS dX5_element_24 cX5_small_ct rfl (kv_goodS mw_540 mw_541 mw_6 mw_542) (by decide +kernel) (by decide) (by decide) (k_ifeq dX5_element_27 rfl (sX5_element_37) (sX5_element_30)))
def fX5_element_20 : kv_D := o_const 67108863 (o_iret .int)
theorem sX5_element_20 : SX5_element 20 (fX5_element_20) := k_ldc dX5_element_20 (List.mem_cons_of_mem _ mw_539) (k_iret dX5_element_22 rfl)
def fX5_element_0 : kv_D := o_aload 0 (o_iload 1 (o_iload 2 (o_callV 5 2 mX5_at (o_istore 3 (o_aload 0 (o_iload 1 (o_const 1 (o_iadd (o_putf 5 10 .int (o_iload 3 (o_const 46 (o_icne (fX5_element_23) (fX5_element_20)))))))))))))
theorem sX5_element_0 : SX5_element 0 (fX5_element_0) := k_aload_n dX5_element_0 rfl (k_iload_n dX5_element_1 rfl (k_iload_n dX5_element_2 rfl (k_callV (q := (RX5, TX5, 32)) dX5_element_3 cX5_at_ct rfl (kv_goodV mw_535 mw_537 sel_X5_at mw_6 mw_538) (by decide +kernel) rfl (by decide) (by decide) (k_istore_n dX5_element_6 rfl (by decide) (k_aload_n dX5_element_7 rfl (k_iload_n dX5_element_8 rfl (k_iconst dX5_element_9 (by decide +kernel) (k_iadd dX5_element_10 (k_putf (C := RX5) (T := TX5) (N := 32) (ci := 5) (index := 85) (kf := 10) (ty := .int) dX5_element_11 rfl (fun w h => List.mem_cons_of_mem _ (inX5 w h)) tyX5 tyX5_ok nmX5 (by decide) (List.mem_cons_of_mem _ mw_429) rfl rfl (k_iload_n dX5_element_14 rfl (k_bipush dX5_element_15 (by decide +kernel) (k_icne dX5_element_17 rfl (sX5_element_23) (sX5_element_20)))))))))))))
def mX5_element : kv_M := kv_in 3 4 (fX5_element_0)
theorem cX5_element_ct : kv_CT yX5_element wX5_element 2 51 mX5_element := kv_met (by decide) rfl rfl (by decide) (fun h => by cases h) (sX5_element_0)
-- X5_define
def wX5_define : List Cond := Cond.code yX5_define cX5_define 2 (some .int) :: kv_tb
abbrev SX5_define (pc : Nat) (F : kv_D) : Prop := kv_S cX5_define 2 RX5 wX5_define (some .int) false 3 74 none pc F
def fX5_define_37 : kv_D := o_aload 0 (o_getf 5 2 (o_aload 0 (o_getf 5 1 (o_const 0 (o_iald 0 (o_const 65 (o_isub (o_iload 1 (o_iast 0 (fun x => x) (o_const 1 (o_iret .int)))))))))))
theorem sX5_define_37 : SX5_define 37 (fX5_define_37) := k_aload_n dX5_define_37 rfl (k_getf (C := RX5) (T := TX5) (N := 32) (ci := 5) (index := 13) (kf := 2) dX5_define_38 rfl (fun w h => List.mem_cons_of_mem _ (inX5 w h)) (by decide) (List.mem_cons_of_mem _ mw_421) (k_aload_n dX5_define_41 rfl (k_getf (C := RX5) (T := TX5) (N := 32) (ci := 5) (index := 7) (kf := 1) dX5_define_42 rfl (fun w h => List.mem_cons_of_mem _ (inX5 w h)) (by decide) (List.mem_cons_of_mem _ mw_420) (k_iconst dX5_define_45 (by decide +kernel) (k_iald dX5_define_46 rfl (k_bipush dX5_define_47 (by decide +kernel) (k_isub dX5_define_49 (k_iload_n dX5_define_50 rfl (k_iast dX5_define_51 rfl (k_iconst dX5_define_52 (by decide +kernel) (k_iret dX5_define_53 rfl)))))))))))
def fX5_define_34 : kv_D := o_const (-2) (o_iret .int)
theorem sX5_define_34 : SX5_define 34 (fX5_define_34) := k_bipush dX5_define_34 (by decide +kernel) (k_iret dX5_define_36 rfl)
def fX5_define_27 : kv_D := o_aload 0 (o_getf 5 9 (o_ifeq (fX5_define_37) (fX5_define_34)))
theorem sX5_define_27 : SX5_define 27 (fX5_define_27) := k_aload_n dX5_define_27 rfl (k_getf (C := RX5) (T := TX5) (N := 32) (ci := 5) (index := 92) (kf := 9) dX5_define_28 rfl (fun w h => List.mem_cons_of_mem _ (inX5 w h)) (by decide) (List.mem_cons_of_mem _ mw_428) (k_ifeq dX5_define_31 rfl (sX5_define_37) (sX5_define_34)))
def fX5_define_25 : kv_D := o_const (-1) (o_iret .int)
theorem sX5_define_25 : SX5_define 25 (fX5_define_25) := k_iconst dX5_define_25 (by decide +kernel) (k_iret dX5_define_26 rfl)
def fX5_define_14 : kv_D := o_aload 0 (o_getf 5 10 (o_aload 0 (o_getf 5 0 (o_iceq (fX5_define_27) (fX5_define_25)))))
theorem sX5_define_14 : SX5_define 14 (fX5_define_14) := k_aload_n dX5_define_14 rfl (k_getf (C := RX5) (T := TX5) (N := 32) (ci := 5) (index := 85) (kf := 10) dX5_define_15 rfl (fun w h => List.mem_cons_of_mem _ (inX5 w h)) (by decide) (List.mem_cons_of_mem _ mw_429) (k_aload_n dX5_define_18 rfl (k_getf (C := RX5) (T := TX5) (N := 32) (ci := 5) (index := 74) (kf := 0) dX5_define_19 rfl (fun w h => List.mem_cons_of_mem _ (inX5 w h)) (by decide) (List.mem_cons_of_mem _ mw_419) (k_iceq dX5_define_22 rfl (sX5_define_27) (sX5_define_25)))))
def fX5_define_0 : kv_D := o_aload 0 (o_const 2 (o_aload 0 (o_getf 5 0 (o_callV 5 2 mX5_element (o_istore 1 (o_iload 1 (o_iflt (fX5_define_25) (fX5_define_14))))))))
theorem sX5_define_0 : SX5_define 0 (fX5_define_0) := k_aload_n dX5_define_0 rfl (k_iconst dX5_define_1 (by decide +kernel) (k_aload_n dX5_define_2 rfl (k_getf (C := RX5) (T := TX5) (N := 32) (ci := 5) (index := 74) (kf := 0) dX5_define_3 rfl (fun w h => List.mem_cons_of_mem _ (inX5 w h)) (by decide) (List.mem_cons_of_mem _ mw_419) (k_callV (q := (RX5, TX5, 32)) dX5_define_6 cX5_element_ct rfl (kv_goodV mw_531 mw_533 sel_X5_element mw_6 mw_534) (by decide +kernel) rfl (by decide) (by decide) (k_istore_n dX5_define_9 rfl (by decide) (k_iload_n dX5_define_10 rfl (k_iflt dX5_define_11 rfl (sX5_define_25) (sX5_define_14))))))))
def mX5_define : kv_M := kv_in 1 2 (fX5_define_0)
theorem cX5_define_ct : kv_CT yX5_define wX5_define 3 74 mX5_define := kv_met (by decide) rfl rfl (by decide) (fun h => by cases h) (sX5_define_0)
-- X5_place
def wX5_place : List Cond := Cond.code yX5_place cX5_place 3 (some .int) :: kv_tb
abbrev SX5_place (pc : Nat) (F : kv_D) : Prop := kv_S cX5_place 3 RX5 wX5_place (some .int) false 0 0 none pc F
def fX5_place_26 (K : Nat → kv_D) : kv_D := o_iload 2 (o_iret .int)
theorem sX5_place_26 {K : Nat → kv_D} (hK : ∀ pc, SX5_place pc (K pc)) : SX5_place 26 (fX5_place_26 K) := k_iload_n dX5_place_26 rfl (k_iret dX5_place_27 rfl)
theorem nX5_place_26 : kv_cn (fun K => fX5_place_26 K) := cn_iload 2 (cn_c _)
def fX5_place_20 (K : Nat → kv_D) : kv_D := o_iinc 2 1 ((K 2))
theorem sX5_place_20 {K : Nat → kv_D} (hK : ∀ pc, SX5_place pc (K pc)) : SX5_place 20 (fX5_place_20 K) := k_iinc dX5_place_20 (by decide +kernel) (by decide) (k_goto dX5_place_23 rfl (hK 2))
theorem nX5_place_20 : kv_cn (fun K => fX5_place_20 K) := cn_iinc 2 1 ((cn_K 2))
def fX5_place_10 (K : Nat → kv_D) : kv_D := o_aload 0 (o_getf 5 1 (o_iload 2 (o_iald 0 (o_iload 1 (o_iceq (fX5_place_26 K) (fX5_place_20 K))))))
theorem sX5_place_10 {K : Nat → kv_D} (hK : ∀ pc, SX5_place pc (K pc)) : SX5_place 10 (fX5_place_10 K) := k_aload_n dX5_place_10 rfl (k_getf (C := RX5) (T := TX5) (N := 32) (ci := 5) (index := 7) (kf := 1) dX5_place_11 rfl (fun w h => List.mem_cons_of_mem _ (inX5 w h)) (by decide) (List.mem_cons_of_mem _ mw_420) (k_iload_n dX5_place_14 rfl (k_iald dX5_place_15 rfl (k_iload_n dX5_place_16 rfl (k_iceq dX5_place_17 rfl (sX5_place_26 hK) (sX5_place_20 hK))))))
theorem nX5_place_10 : kv_cn (fun K => fX5_place_10 K) := cn_aload 0 (cn_getf 5 1 (cn_iload 2 (cn_iald 0 (cn_iload 1 (cn_iceq nX5_place_26 nX5_place_20)))))
def fX5_place_2 (K : Nat → kv_D) : kv_D := o_iload 2 (o_aload 0 (o_getf 5 0 (o_icge (fX5_place_26 K) (fX5_place_10 K))))
theorem sX5_place_2 {K : Nat → kv_D} (hK : ∀ pc, SX5_place pc (K pc)) : SX5_place 2 (fX5_place_2 K) := k_iload_n dX5_place_2 rfl (k_aload_n dX5_place_3 rfl (k_getf (C := RX5) (T := TX5) (N := 32) (ci := 5) (index := 74) (kf := 0) dX5_place_4 rfl (fun w h => List.mem_cons_of_mem _ (inX5 w h)) (by decide) (List.mem_cons_of_mem _ mw_419) (k_icge dX5_place_7 rfl (sX5_place_26 hK) (sX5_place_10 hK))))
theorem nX5_place_2 : kv_cn (fun K => fX5_place_2 K) := cn_iload 2 (cn_aload 0 (cn_getf 5 0 (cn_icge nX5_place_26 nX5_place_10)))
def fX5_place_0 (K : Nat → kv_D) : kv_D := o_const 0 (o_istore 2 ((K 2)))
theorem sX5_place_0 {K : Nat → kv_D} (hK : ∀ pc, SX5_place pc (K pc)) : SX5_place 0 (fX5_place_0 K) := k_iconst dX5_place_0 (by decide +kernel) (k_istore_n dX5_place_1 rfl (by decide) ((hK 2)))
theorem nX5_place_0 : kv_cn (fun K => fX5_place_0 K) := cn_const 0 (cn_istore 2 ((cn_K 2)))
def bX5_place (K : Nat → kv_D) (pc : Nat) : kv_D := if pc = 2 then fX5_place_2 K else fun _ _ _ _ _ => False
theorem hX5_place : ∀ pc, SX5_place pc (kv_lim (bX5_place) pc) := kv_lim_S (fun K hK pc => by
  unfold bX5_place
  by_cases q2 : pc = 2
  · rw [if_pos q2, q2]
    exact sX5_place_2 hK
  rw [if_neg q2]
  exact kv_none)
theorem uX5_place_2 {L : List (Option Value)} {st : List Value} {h : kv_H} {v : Option Value} {h' : kv_H} (hx : fX5_place_2 (kv_lim (bX5_place)) L st h v h') : kv_lim (bX5_place) 2 L st h v h' := kv_un (q := 2) (by have e : (fun K => bX5_place K 2) = fun K => fX5_place_2 K := (by funext K; rfl); rw [e]; exact nX5_place_2) (by have e : bX5_place (kv_lim (bX5_place)) 2 = fX5_place_2 (kv_lim (bX5_place)) := rfl; rw [e]; exact hx)
def mX5_place : kv_M := kv_in 2 3 (fX5_place_0 (kv_lim (bX5_place)))
theorem cX5_place_ct : kv_CT yX5_place wX5_place 0 0 mX5_place := kv_met (by decide) rfl rfl (by decide) (fun h => by cases h) (sX5_place_0 (hX5_place))
-- X5_count
def wX5_count : List Cond := Cond.code yX5_count cX5_count 6 (some .int) :: kv_tb
abbrev SX5_count (pc : Nat) (F : kv_D) : Prop := kv_S cX5_count 6 RX5 wX5_count (some .int) false 0 0 none pc F
def fX5_count_39 (K : Nat → kv_D) : kv_D := o_iload 4 (o_iret .int)
theorem sX5_count_39 {K : Nat → kv_D} (hK : ∀ pc, SX5_count pc (K pc)) : SX5_count 39 (fX5_count_39 K) := k_iload dX5_count_39 (k_iret dX5_count_41 rfl)
theorem nX5_count_39 : kv_cn (fun K => fX5_count_39 K) := cn_iload 4 (cn_c _)
def fX5_count_30 (K : Nat → kv_D) : kv_D := o_iadd (o_istore 4 (o_iinc 5 1 ((K 6))))
theorem sX5_count_30 {K : Nat → kv_D} (hK : ∀ pc, SX5_count pc (K pc)) : SX5_count 30 (fX5_count_30 K) := k_iadd dX5_count_30 (k_istore dX5_count_31 (by decide) (k_iinc dX5_count_33 (by decide +kernel) (by decide) (k_goto dX5_count_36 rfl (hK 6))))
theorem nX5_count_30 : kv_cn (fun K => fX5_count_30 K) := cn_iadd (cn_istore 4 (cn_iinc 5 1 ((cn_K 6))))
def fX5_count_29 (K : Nat → kv_D) : kv_D := o_const 0 ((fX5_count_30 K))
theorem sX5_count_29 {K : Nat → kv_D} (hK : ∀ pc, SX5_count pc (K pc)) : SX5_count 29 (fX5_count_29 K) := k_iconst dX5_count_29 (by decide +kernel) ((sX5_count_30 hK))
theorem nX5_count_29 : kv_cn (fun K => fX5_count_29 K) := cn_const 0 (nX5_count_30)
def fX5_count_25 (K : Nat → kv_D) : kv_D := o_const 1 ((fX5_count_30 K))
theorem sX5_count_25 {K : Nat → kv_D} (hK : ∀ pc, SX5_count pc (K pc)) : SX5_count 25 (fX5_count_25 K) := k_iconst dX5_count_25 (by decide +kernel) (k_goto dX5_count_26 rfl (sX5_count_30 hK))
theorem nX5_count_25 : kv_cn (fun K => fX5_count_25 K) := cn_const 1 (nX5_count_30)
def fX5_count_12 (K : Nat → kv_D) : kv_D := o_iload 4 (o_aload 0 (o_getf 5 1 (o_iload 5 (o_iald 0 (o_iload 1 (o_icne (fX5_count_29 K) (fX5_count_25 K)))))))
theorem sX5_count_12 {K : Nat → kv_D} (hK : ∀ pc, SX5_count pc (K pc)) : SX5_count 12 (fX5_count_12 K) := k_iload dX5_count_12 (k_aload_n dX5_count_14 rfl (k_getf (C := RX5) (T := TX5) (N := 32) (ci := 5) (index := 7) (kf := 1) dX5_count_15 rfl (fun w h => List.mem_cons_of_mem _ (inX5 w h)) (by decide) (List.mem_cons_of_mem _ mw_420) (k_iload dX5_count_18 (k_iald dX5_count_20 rfl (k_iload_n dX5_count_21 rfl (k_icne dX5_count_22 rfl (sX5_count_29 hK) (sX5_count_25 hK)))))))
theorem nX5_count_12 : kv_cn (fun K => fX5_count_12 K) := cn_iload 4 (cn_aload 0 (cn_getf 5 1 (cn_iload 5 (cn_iald 0 (cn_iload 1 (cn_icne nX5_count_29 nX5_count_25))))))
def fX5_count_6 (K : Nat → kv_D) : kv_D := o_iload 5 (o_iload 3 (o_icge (fX5_count_39 K) (fX5_count_12 K)))
theorem sX5_count_6 {K : Nat → kv_D} (hK : ∀ pc, SX5_count pc (K pc)) : SX5_count 6 (fX5_count_6 K) := k_iload dX5_count_6 (k_iload_n dX5_count_8 rfl (k_icge dX5_count_9 rfl (sX5_count_39 hK) (sX5_count_12 hK)))
theorem nX5_count_6 : kv_cn (fun K => fX5_count_6 K) := cn_iload 5 (cn_iload 3 (cn_icge nX5_count_39 nX5_count_12))
def fX5_count_0 (K : Nat → kv_D) : kv_D := o_const 0 (o_istore 4 (o_iload 2 (o_istore 5 ((K 6)))))
theorem sX5_count_0 {K : Nat → kv_D} (hK : ∀ pc, SX5_count pc (K pc)) : SX5_count 0 (fX5_count_0 K) := k_iconst dX5_count_0 (by decide +kernel) (k_istore dX5_count_1 (by decide) (k_iload_n dX5_count_3 rfl (k_istore dX5_count_4 (by decide) ((hK 6)))))
theorem nX5_count_0 : kv_cn (fun K => fX5_count_0 K) := cn_const 0 (cn_istore 4 (cn_iload 2 (cn_istore 5 ((cn_K 6)))))
def bX5_count (K : Nat → kv_D) (pc : Nat) : kv_D := if pc = 6 then fX5_count_6 K else fun _ _ _ _ _ => False
theorem hX5_count : ∀ pc, SX5_count pc (kv_lim (bX5_count) pc) := kv_lim_S (fun K hK pc => by
  unfold bX5_count
  by_cases q6 : pc = 6
  · rw [if_pos q6, q6]
    exact sX5_count_6 hK
  rw [if_neg q6]
  exact kv_none)
theorem uX5_count_6 {L : List (Option Value)} {st : List Value} {h : kv_H} {v : Option Value} {h' : kv_H} (hx : fX5_count_6 (kv_lim (bX5_count)) L st h v h') : kv_lim (bX5_count) 6 L st h v h' := kv_un (q := 6) (by have e : (fun K => bX5_count K 6) = fun K => fX5_count_6 K := (by funext K; rfl); rw [e]; exact nX5_count_6) (by have e : bX5_count (kv_lim (bX5_count)) 6 = fX5_count_6 (kv_lim (bX5_count)) := rfl; rw [e]; exact hx)
def mX5_count : kv_M := kv_in 4 6 (fX5_count_0 (kv_lim (bX5_count)))
theorem cX5_count_ct : kv_CT yX5_count wX5_count 0 0 mX5_count := kv_met (by decide) rfl rfl (by decide) (fun h => by cases h) (sX5_count_0 (hX5_count))
-- X5_replacement
def wX5_replacement : List Cond := Cond.code yX5_replacement cX5_replacement 4 (some .boolean) :: kv_tb
abbrev SX5_replacement (pc : Nat) (F : kv_D) : Prop := kv_S cX5_replacement 4 RX5 wX5_replacement (some .boolean) false 1 25 none pc F
def fX5_replacement_76 (K : Nat → kv_D) : kv_D := o_iret .boolean
theorem sX5_replacement_76 {K : Nat → kv_D} (hK : ∀ pc, SX5_replacement pc (K pc)) : SX5_replacement 76 (fX5_replacement_76 K) := k_iret dX5_replacement_76 rfl
theorem nX5_replacement_76 : kv_cn (fun K => fX5_replacement_76 K) := cn_c _
def fX5_replacement_75 (K : Nat → kv_D) : kv_D := o_const 0 ((fX5_replacement_76 K))
theorem sX5_replacement_75 {K : Nat → kv_D} (hK : ∀ pc, SX5_replacement pc (K pc)) : SX5_replacement 75 (fX5_replacement_75 K) := k_iconst dX5_replacement_75 (by decide +kernel) ((sX5_replacement_76 hK))
theorem nX5_replacement_75 : kv_cn (fun K => fX5_replacement_75 K) := cn_const 0 (nX5_replacement_76)
def fX5_replacement_71 (K : Nat → kv_D) : kv_D := o_const 1 ((fX5_replacement_76 K))
theorem sX5_replacement_71 {K : Nat → kv_D} (hK : ∀ pc, SX5_replacement pc (K pc)) : SX5_replacement 71 (fX5_replacement_71 K) := k_iconst dX5_replacement_71 (by decide +kernel) (k_goto dX5_replacement_72 rfl (sX5_replacement_76 hK))
theorem nX5_replacement_71 : kv_cn (fun K => fX5_replacement_71 K) := cn_const 1 (nX5_replacement_76)
def fX5_replacement_56 (K : Nat → kv_D) : kv_D := o_aload 0 (o_const 124 (o_iload 1 (o_aload 0 (o_getf 5 0 (o_callV 5 3 mX5_count (o_const 1 (o_icgt (fX5_replacement_75 K) (fX5_replacement_71 K))))))))
theorem sX5_replacement_56 {K : Nat → kv_D} (hK : ∀ pc, SX5_replacement pc (K pc)) : SX5_replacement 56 (fX5_replacement_56 K) := k_aload_n dX5_replacement_56 rfl (k_bipush dX5_replacement_57 (by decide +kernel) (k_iload_n dX5_replacement_59 rfl (k_aload_n dX5_replacement_60 rfl (k_getf (C := RX5) (T := TX5) (N := 32) (ci := 5) (index := 74) (kf := 0) dX5_replacement_61 rfl (fun w h => List.mem_cons_of_mem _ (inX5 w h)) (by decide) (List.mem_cons_of_mem _ mw_419) (k_callV (q := (RX5, TX5, 32)) dX5_replacement_64 cX5_count_ct rfl (kv_goodV mw_555 mw_557 sel_X5_count mw_6 mw_558) (by decide +kernel) rfl (by decide) (by decide) (k_iconst dX5_replacement_67 (by decide +kernel) (k_icgt dX5_replacement_68 rfl (sX5_replacement_75 hK) (sX5_replacement_71 hK))))))))
theorem nX5_replacement_56 : kv_cn (fun K => fX5_replacement_56 K) := cn_aload 0 (cn_const 124 (cn_iload 1 (cn_aload 0 (cn_getf 5 0 (cn_callV 5 3 mX5_count (cn_const 1 (cn_icgt nX5_replacement_75 nX5_replacement_71)))))))
def fX5_replacement_50 (K : Nat → kv_D) : kv_D := o_iinc 2 1 ((K 2))
theorem sX5_replacement_50 {K : Nat → kv_D} (hK : ∀ pc, SX5_replacement pc (K pc)) : SX5_replacement 50 (fX5_replacement_50 K) := k_iinc dX5_replacement_50 (by decide +kernel) (by decide) (k_goto dX5_replacement_53 rfl (hK 2))
theorem nX5_replacement_50 : kv_cn (fun K => fX5_replacement_50 K) := cn_iinc 2 1 ((cn_K 2))
def fX5_replacement_48 (K : Nat → kv_D) : kv_D := o_const 0 (o_iret .boolean)
theorem sX5_replacement_48 {K : Nat → kv_D} (hK : ∀ pc, SX5_replacement pc (K pc)) : SX5_replacement 48 (fX5_replacement_48 K) := k_iconst dX5_replacement_48 (by decide +kernel) (k_iret dX5_replacement_49 rfl)
theorem nX5_replacement_48 : kv_cn (fun K => fX5_replacement_48 K) := cn_const 0 (cn_c _)
def fX5_replacement_42 (K : Nat → kv_D) : kv_D := o_iload 3 (o_const 124 (o_iceq (fX5_replacement_50 K) (fX5_replacement_48 K)))
theorem sX5_replacement_42 {K : Nat → kv_D} (hK : ∀ pc, SX5_replacement pc (K pc)) : SX5_replacement 42 (fX5_replacement_42 K) := k_iload_n dX5_replacement_42 rfl (k_bipush dX5_replacement_43 (by decide +kernel) (k_iceq dX5_replacement_45 rfl (sX5_replacement_50 hK) (sX5_replacement_48 hK)))
theorem nX5_replacement_42 : kv_cn (fun K => fX5_replacement_42 K) := cn_iload 3 (cn_const 124 (cn_iceq nX5_replacement_50 nX5_replacement_48))
def fX5_replacement_36 (K : Nat → kv_D) : kv_D := o_iload 3 (o_const 51 (o_iceq (fX5_replacement_50 K) (fX5_replacement_42 K)))
theorem sX5_replacement_36 {K : Nat → kv_D} (hK : ∀ pc, SX5_replacement pc (K pc)) : SX5_replacement 36 (fX5_replacement_36 K) := k_iload_n dX5_replacement_36 rfl (k_bipush dX5_replacement_37 (by decide +kernel) (k_iceq dX5_replacement_39 rfl (sX5_replacement_50 hK) (sX5_replacement_42 hK)))
theorem nX5_replacement_36 : kv_cn (fun K => fX5_replacement_36 K) := cn_iload 3 (cn_const 51 (cn_iceq nX5_replacement_50 nX5_replacement_42))
def fX5_replacement_30 (K : Nat → kv_D) : kv_D := o_iload 3 (o_const 50 (o_iceq (fX5_replacement_50 K) (fX5_replacement_36 K)))
theorem sX5_replacement_30 {K : Nat → kv_D} (hK : ∀ pc, SX5_replacement pc (K pc)) : SX5_replacement 30 (fX5_replacement_30 K) := k_iload_n dX5_replacement_30 rfl (k_bipush dX5_replacement_31 (by decide +kernel) (k_iceq dX5_replacement_33 rfl (sX5_replacement_50 hK) (sX5_replacement_36 hK)))
theorem nX5_replacement_30 : kv_cn (fun K => fX5_replacement_30 K) := cn_iload 3 (cn_const 50 (cn_iceq nX5_replacement_50 nX5_replacement_36))
def fX5_replacement_24 (K : Nat → kv_D) : kv_D := o_iload 3 (o_const 49 (o_iceq (fX5_replacement_50 K) (fX5_replacement_30 K)))
theorem sX5_replacement_24 {K : Nat → kv_D} (hK : ∀ pc, SX5_replacement pc (K pc)) : SX5_replacement 24 (fX5_replacement_24 K) := k_iload_n dX5_replacement_24 rfl (k_bipush dX5_replacement_25 (by decide +kernel) (k_iceq dX5_replacement_27 rfl (sX5_replacement_50 hK) (sX5_replacement_30 hK)))
theorem nX5_replacement_24 : kv_cn (fun K => fX5_replacement_24 K) := cn_iload 3 (cn_const 49 (cn_iceq nX5_replacement_50 nX5_replacement_30))
def fX5_replacement_10 (K : Nat → kv_D) : kv_D := o_aload 0 (o_getf 5 1 (o_iload 2 (o_iald 0 (o_istore 3 (o_iload 3 (o_callS 1 mX5_small (o_ifne (fX5_replacement_50 K) (fX5_replacement_24 K))))))))
theorem sX5_replacement_10 {K : Nat → kv_D} (hK : ∀ pc, SX5_replacement pc (K pc)) : SX5_replacement 10 (fX5_replacement_10 K) := k_aload_n dX5_replacement_10 rfl (k_getf (C := RX5) (T := TX5) (N := 32) (ci := 5) (index := 7) (kf := 1) dX5_replacement_11 rfl (fun w h => List.mem_cons_of_mem _ (inX5 w h)) (by decide) (List.mem_cons_of_mem _ mw_420) (k_iload_n dX5_replacement_14 rfl (k_iald dX5_replacement_15 rfl (k_istore_n dX5_replacement_16 rfl (by decide) (k_iload_n dX5_replacement_17 rfl (k_callS dX5_replacement_18 cX5_small_ct rfl (kv_goodS mw_540 mw_541 mw_6 mw_542) (by decide +kernel) (by decide) (by decide) (k_ifne dX5_replacement_21 rfl (sX5_replacement_50 hK) (sX5_replacement_24 hK))))))))
theorem nX5_replacement_10 : kv_cn (fun K => fX5_replacement_10 K) := cn_aload 0 (cn_getf 5 1 (cn_iload 2 (cn_iald 0 (cn_istore 3 (cn_iload 3 (cn_callS 1 mX5_small (cn_ifne nX5_replacement_50 nX5_replacement_24)))))))
def fX5_replacement_2 (K : Nat → kv_D) : kv_D := o_iload 2 (o_aload 0 (o_getf 5 0 (o_icge (fX5_replacement_56 K) (fX5_replacement_10 K))))
theorem sX5_replacement_2 {K : Nat → kv_D} (hK : ∀ pc, SX5_replacement pc (K pc)) : SX5_replacement 2 (fX5_replacement_2 K) := k_iload_n dX5_replacement_2 rfl (k_aload_n dX5_replacement_3 rfl (k_getf (C := RX5) (T := TX5) (N := 32) (ci := 5) (index := 74) (kf := 0) dX5_replacement_4 rfl (fun w h => List.mem_cons_of_mem _ (inX5 w h)) (by decide) (List.mem_cons_of_mem _ mw_419) (k_icge dX5_replacement_7 rfl (sX5_replacement_56 hK) (sX5_replacement_10 hK))))
theorem nX5_replacement_2 : kv_cn (fun K => fX5_replacement_2 K) := cn_iload 2 (cn_aload 0 (cn_getf 5 0 (cn_icge nX5_replacement_56 nX5_replacement_10)))
def fX5_replacement_0 (K : Nat → kv_D) : kv_D := o_iload 1 (o_istore 2 ((K 2)))
theorem sX5_replacement_0 {K : Nat → kv_D} (hK : ∀ pc, SX5_replacement pc (K pc)) : SX5_replacement 0 (fX5_replacement_0 K) := k_iload_n dX5_replacement_0 rfl (k_istore_n dX5_replacement_1 rfl (by decide) ((hK 2)))
theorem nX5_replacement_0 : kv_cn (fun K => fX5_replacement_0 K) := cn_iload 1 (cn_istore 2 ((cn_K 2)))
def bX5_replacement (K : Nat → kv_D) (pc : Nat) : kv_D := if pc = 2 then fX5_replacement_2 K else fun _ _ _ _ _ => False
theorem hX5_replacement : ∀ pc, SX5_replacement pc (kv_lim (bX5_replacement) pc) := kv_lim_S (fun K hK pc => by
  unfold bX5_replacement
  by_cases q2 : pc = 2
  · rw [if_pos q2, q2]
    exact sX5_replacement_2 hK
  rw [if_neg q2]
  exact kv_none)
theorem uX5_replacement_2 {L : List (Option Value)} {st : List Value} {h : kv_H} {v : Option Value} {h' : kv_H} (hx : fX5_replacement_2 (kv_lim (bX5_replacement)) L st h v h') : kv_lim (bX5_replacement) 2 L st h v h' := kv_un (q := 2) (by have e : (fun K => bX5_replacement K 2) = fun K => fX5_replacement_2 K := (by funext K; rfl); rw [e]; exact nX5_replacement_2) (by have e : bX5_replacement (kv_lim (bX5_replacement)) 2 = fX5_replacement_2 (kv_lim (bX5_replacement)) := rfl; rw [e]; exact hx)
def mX5_replacement : kv_M := kv_in 2 4 (fX5_replacement_0 (kv_lim (bX5_replacement)))
theorem cX5_replacement_ct : kv_CT yX5_replacement wX5_replacement 1 25 mX5_replacement := kv_met (by decide) rfl rfl (by decide) (fun h => by cases h) (sX5_replacement_0 (hX5_replacement))
-- X5_add
def wX5_add : List Cond := Cond.code yX5_add cX5_add 4 (some .boolean) :: kv_tb
abbrev SX5_add (pc : Nat) (F : kv_D) : Prop := kv_S cX5_add 4 RX5 wX5_add (some .boolean) false 0 0 none pc F
def fX5_add_68 : kv_D := o_iast 0 (fun x => x) (o_aload 0 (o_getf 5 7 (o_aload 0 (o_getf 5 3 (o_iload 3 (o_iast 0 (fun x => x) (o_aload 0 (o_dup (o_getf 5 3 (o_const 1 (o_iadd (o_putf 5 3 .int (o_const 1 (o_iret .boolean))))))))))))))
theorem sX5_add_68 : SX5_add 68 (fX5_add_68) := k_iast dX5_add_68 rfl (k_aload_n dX5_add_69 rfl (k_getf (C := RX5) (T := TX5) (N := 32) (ci := 5) (index := 25) (kf := 7) dX5_add_70 rfl (fun w h => List.mem_cons_of_mem _ (inX5 w h)) (by decide) (List.mem_cons_of_mem _ mw_426) (k_aload_n dX5_add_73 rfl (k_getf (C := RX5) (T := TX5) (N := 32) (ci := 5) (index := 99) (kf := 3) dX5_add_74 rfl (fun w h => List.mem_cons_of_mem _ (inX5 w h)) (by decide) (List.mem_cons_of_mem _ mw_422) (k_iload_n dX5_add_77 rfl (k_iast dX5_add_78 rfl (k_aload_n dX5_add_79 rfl (k_dup dX5_add_80 (k_getf (C := RX5) (T := TX5) (N := 32) (ci := 5) (index := 99) (kf := 3) dX5_add_81 rfl (fun w h => List.mem_cons_of_mem _ (inX5 w h)) (by decide) (List.mem_cons_of_mem _ mw_422) (k_iconst dX5_add_84 (by decide +kernel) (k_iadd dX5_add_85 (k_putf (C := RX5) (T := TX5) (N := 32) (ci := 5) (index := 99) (kf := 3) (ty := .int) dX5_add_86 rfl (fun w h => List.mem_cons_of_mem _ (inX5 w h)) tyX5 tyX5_ok nmX5 (by decide) (List.mem_cons_of_mem _ mw_422) rfl rfl (k_iconst dX5_add_89 (by decide +kernel) (k_iret dX5_add_90 rfl))))))))))))))
def fX5_add_67 : kv_D := o_const 1 ((fX5_add_68))
theorem sX5_add_67 : SX5_add 67 (fX5_add_67) := k_iconst dX5_add_67 (by decide +kernel) ((sX5_add_68))
def fX5_add_62 : kv_D := o_const 100 ((fX5_add_68))
theorem sX5_add_62 : SX5_add 62 (fX5_add_62) := k_bipush dX5_add_62 (by decide +kernel) (k_goto dX5_add_64 rfl (sX5_add_68))
def fX5_add_56 : kv_D := o_iload 2 (o_const 43 (o_icne (fX5_add_67) (fX5_add_62)))
theorem sX5_add_56 : SX5_add 56 (fX5_add_56) := k_iload_n dX5_add_56 rfl (k_bipush dX5_add_57 (by decide +kernel) (k_icne dX5_add_59 rfl (sX5_add_67) (sX5_add_62)))
def fX5_add_41 : kv_D := o_iast 0 (fun x => x) (o_aload 0 (o_getf 5 6 (o_aload 0 (o_getf 5 3 (o_iload 2 (o_const 42 (o_iceq (fX5_add_62) (fX5_add_56))))))))
theorem sX5_add_41 : SX5_add 41 (fX5_add_41) := k_iast dX5_add_41 rfl (k_aload_n dX5_add_42 rfl (k_getf (C := RX5) (T := TX5) (N := 32) (ci := 5) (index := 22) (kf := 6) dX5_add_43 rfl (fun w h => List.mem_cons_of_mem _ (inX5 w h)) (by decide) (List.mem_cons_of_mem _ mw_425) (k_aload_n dX5_add_46 rfl (k_getf (C := RX5) (T := TX5) (N := 32) (ci := 5) (index := 99) (kf := 3) dX5_add_47 rfl (fun w h => List.mem_cons_of_mem _ (inX5 w h)) (by decide) (List.mem_cons_of_mem _ mw_422) (k_iload_n dX5_add_50 rfl (k_bipush dX5_add_51 (by decide +kernel) (k_iceq dX5_add_53 rfl (sX5_add_62) (sX5_add_56))))))))
def fX5_add_40 : kv_D := o_const 1 ((fX5_add_41))
theorem sX5_add_40 : SX5_add 40 (fX5_add_40) := k_iconst dX5_add_40 (by decide +kernel) ((sX5_add_41))
def fX5_add_36 : kv_D := o_const 0 ((fX5_add_41))
theorem sX5_add_36 : SX5_add 36 (fX5_add_36) := k_iconst dX5_add_36 (by decide +kernel) (k_goto dX5_add_37 rfl (sX5_add_41))
def fX5_add_30 : kv_D := o_iload 2 (o_const 63 (o_icne (fX5_add_40) (fX5_add_36)))
theorem sX5_add_30 : SX5_add 30 (fX5_add_30) := k_iload_n dX5_add_30 rfl (k_bipush dX5_add_31 (by decide +kernel) (k_icne dX5_add_33 rfl (sX5_add_40) (sX5_add_36)))
def fX5_add_6 : kv_D := o_aload 0 (o_getf 5 4 (o_aload 0 (o_getf 5 3 (o_iload 1 (o_iast 0 (fun x => x) (o_aload 0 (o_getf 5 5 (o_aload 0 (o_getf 5 3 (o_iload 2 (o_const 42 (o_iceq (fX5_add_36) (fX5_add_30)))))))))))))
theorem sX5_add_6 : SX5_add 6 (fX5_add_6) := k_aload_n dX5_add_6 rfl (k_getf (C := RX5) (T := TX5) (N := 32) (ci := 5) (index := 16) (kf := 4) dX5_add_7 rfl (fun w h => List.mem_cons_of_mem _ (inX5 w h)) (by decide) (List.mem_cons_of_mem _ mw_423) (k_aload_n dX5_add_10 rfl (k_getf (C := RX5) (T := TX5) (N := 32) (ci := 5) (index := 99) (kf := 3) dX5_add_11 rfl (fun w h => List.mem_cons_of_mem _ (inX5 w h)) (by decide) (List.mem_cons_of_mem _ mw_422) (k_iload_n dX5_add_14 rfl (k_iast dX5_add_15 rfl (k_aload_n dX5_add_16 rfl (k_getf (C := RX5) (T := TX5) (N := 32) (ci := 5) (index := 19) (kf := 5) dX5_add_17 rfl (fun w h => List.mem_cons_of_mem _ (inX5 w h)) (by decide) (List.mem_cons_of_mem _ mw_424) (k_aload_n dX5_add_20 rfl (k_getf (C := RX5) (T := TX5) (N := 32) (ci := 5) (index := 99) (kf := 3) dX5_add_21 rfl (fun w h => List.mem_cons_of_mem _ (inX5 w h)) (by decide) (List.mem_cons_of_mem _ mw_422) (k_iload_n dX5_add_24 rfl (k_bipush dX5_add_25 (by decide +kernel) (k_iceq dX5_add_27 rfl (sX5_add_36) (sX5_add_30)))))))))))))
def fX5_add_4 : kv_D := o_const 0 (o_iret .boolean)
theorem sX5_add_4 : SX5_add 4 (fX5_add_4) := k_iconst dX5_add_4 (by decide +kernel) (k_iret dX5_add_5 rfl)
def fX5_add_0 : kv_D := o_iload 1 (o_ifge (fX5_add_6) (fX5_add_4))
theorem sX5_add_0 : SX5_add 0 (fX5_add_0) := k_iload_n dX5_add_0 rfl (k_ifge dX5_add_1 rfl (sX5_add_6) (sX5_add_4))
def mX5_add : kv_M := kv_in 4 4 (fX5_add_0)
theorem cX5_add_ct : kv_CT yX5_add wX5_add 0 0 mX5_add := kv_met (by decide) rfl rfl (by decide) (fun h => by cases h) (sX5_add_0)
