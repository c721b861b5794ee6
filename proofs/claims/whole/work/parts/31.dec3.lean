theorem dX4_paint_30 : decode cX4_paint 30 = .ok (.putfield 42, 3) := by decide +kernel
theorem dX4_paint_33 : decode cX4_paint 33 = .ok (.aload_n 0, 1) := by decide +kernel
theorem dX4_paint_34 : decode cX4_paint 34 = .ok (.getfield 42, 3) := by decide +kernel
theorem dX4_paint_37 : decode cX4_paint 37 = .ok (.ifCond .eq 5, 3) := by decide +kernel
theorem dX4_paint_40 : decode cX4_paint 40 = .ok (.iconst 0, 1) := by decide +kernel
theorem dX4_paint_41 : decode cX4_paint 41 = .ok (.ireturn, 1) := by decide +kernel
theorem dX4_paint_42 : decode cX4_paint 42 = .ok (.aload_n 0, 1) := by decide +kernel
theorem dX4_paint_43 : decode cX4_paint 43 = .ok (.getfield 36, 3) := by decide +kernel
theorem dX4_paint_46 : decode cX4_paint 46 = .ok (.bipush 30, 2) := by decide +kernel
theorem dX4_paint_48 : decode cX4_paint 48 = .ok (.iload_n 2, 1) := by decide +kernel
theorem dX4_paint_49 : decode cX4_paint 49 = .ok (.imul, 1) := by decide +kernel
theorem dX4_paint_50 : decode cX4_paint 50 = .ok (.iload_n 1, 1) := by decide +kernel
theorem dX4_paint_51 : decode cX4_paint 51 = .ok (.iadd, 1) := by decide +kernel
theorem dX4_paint_52 : decode cX4_paint 52 = .ok (.baload, 1) := by decide +kernel
theorem dX4_paint_53 : decode cX4_paint 53 = .ok (.istore 4, 2) := by decide +kernel
theorem dX4_paint_55 : decode cX4_paint 55 = .ok (.aload_n 0, 1) := by decide +kernel
theorem dX4_paint_56 : decode cX4_paint 56 = .ok (.getfield 36, 3) := by decide +kernel
theorem dX4_paint_59 : decode cX4_paint 59 = .ok (.bipush 30, 2) := by decide +kernel
theorem dX4_paint_61 : decode cX4_paint 61 = .ok (.iload_n 2, 1) := by decide +kernel
theorem dX4_paint_62 : decode cX4_paint 62 = .ok (.imul, 1) := by decide +kernel
theorem dX4_paint_63 : decode cX4_paint 63 = .ok (.iload_n 1, 1) := by decide +kernel
theorem dX4_paint_64 : decode cX4_paint 64 = .ok (.iadd, 1) := by decide +kernel
theorem dX4_paint_65 : decode cX4_paint 65 = .ok (.iload_n 3, 1) := by decide +kernel
theorem dX4_paint_66 : decode cX4_paint 66 = .ok (.bastore, 1) := by decide +kernel
theorem dX4_paint_67 : decode cX4_paint 67 = .ok (.iload 4, 2) := by decide +kernel
theorem dX4_paint_69 : decode cX4_paint 69 = .ok (.ireturn, 1) := by decide +kernel
theorem dX4_samePainted_0 : decode cX4_samePainted 0 = .ok (.iconst 1, 1) := by decide +kernel
theorem dX4_samePainted_1 : decode cX4_samePainted 1 = .ok (.istore 4, 2) := by decide +kernel
theorem dX4_samePainted_3 : decode cX4_samePainted 3 = .ok (.iload_n 1, 1) := by decide +kernel
theorem dX4_samePainted_4 : decode cX4_samePainted 4 = .ok (.ifCond .eq 10, 3) := by decide +kernel
theorem dX4_samePainted_7 : decode cX4_samePainted 7 = .ok (.aload_n 0, 1) := by decide +kernel
theorem dX4_samePainted_8 : decode cX4_samePainted 8 = .ok (.getfield 33, 3) := by decide +kernel
theorem dX4_samePainted_11 : decode cX4_samePainted 11 = .ok (.goto 7, 3) := by decide +kernel
theorem dX4_samePainted_14 : decode cX4_samePainted 14 = .ok (.aload_n 0, 1) := by decide +kernel
theorem dX4_samePainted_15 : decode cX4_samePainted 15 = .ok (.getfield 29, 3) := by decide +kernel
theorem dX4_samePainted_18 : decode cX4_samePainted 18 = .ok (.istore 5, 2) := by decide +kernel
theorem dX4_samePainted_20 : decode cX4_samePainted 20 = .ok (.iconst 0, 1) := by decide +kernel
theorem dX4_samePainted_21 : decode cX4_samePainted 21 = .ok (.istore 6, 2) := by decide +kernel
theorem dX4_samePainted_23 : decode cX4_samePainted 23 = .ok (.iload 6, 2) := by decide +kernel
theorem dX4_samePainted_25 : decode cX4_samePainted 25 = .ok (.iload 5, 2) := by decide +kernel
theorem dX4_samePainted_27 : decode cX4_samePainted 27 = .ok (.if_icmp .ge 82, 3) := by decide +kernel
theorem dX4_samePainted_30 : decode cX4_samePainted 30 = .ok (.iload 4, 2) := by decide +kernel
theorem dX4_samePainted_32 : decode cX4_samePainted 32 = .ok (.ifCond .eq 68, 3) := by decide +kernel
theorem dX4_samePainted_35 : decode cX4_samePainted 35 = .ok (.iload_n 1, 1) := by decide +kernel
theorem dX4_samePainted_36 : decode cX4_samePainted 36 = .ok (.ifCond .eq 33, 3) := by decide +kernel
theorem dX4_samePainted_39 : decode cX4_samePainted 39 = .ok (.aload_n 0, 1) := by decide +kernel
theorem dX4_samePainted_40 : decode cX4_samePainted 40 = .ok (.getfield 36, 3) := by decide +kernel
theorem dX4_samePainted_43 : decode cX4_samePainted 43 = .ok (.bipush 30, 2) := by decide +kernel
theorem dX4_samePainted_45 : decode cX4_samePainted 45 = .ok (.iload 6, 2) := by decide +kernel
theorem dX4_samePainted_47 : decode cX4_samePainted 47 = .ok (.imul, 1) := by decide +kernel
theorem dX4_samePainted_48 : decode cX4_samePainted 48 = .ok (.iload_n 2, 1) := by decide +kernel
theorem dX4_samePainted_49 : decode cX4_samePainted 49 = .ok (.iadd, 1) := by decide +kernel
theorem dX4_samePainted_50 : decode cX4_samePainted 50 = .ok (.baload, 1) := by decide +kernel
theorem dX4_samePainted_51 : decode cX4_samePainted 51 = .ok (.aload_n 0, 1) := by decide +kernel
theorem dX4_samePainted_52 : decode cX4_samePainted 52 = .ok (.getfield 36, 3) := by decide +kernel
theorem dX4_samePainted_55 : decode cX4_samePainted 55 = .ok (.bipush 30, 2) := by decide +kernel
theorem dX4_samePainted_57 : decode cX4_samePainted 57 = .ok (.iload 6, 2) := by decide +kernel
theorem dX4_samePainted_59 : decode cX4_samePainted 59 = .ok (.imul, 1) := by decide +kernel
theorem dX4_samePainted_60 : decode cX4_samePainted 60 = .ok (.iload_n 3, 1) := by decide +kernel
theorem dX4_samePainted_61 : decode cX4_samePainted 61 = .ok (.iadd, 1) := by decide +kernel
theorem dX4_samePainted_62 : decode cX4_samePainted 62 = .ok (.baload, 1) := by decide +kernel
theorem dX4_samePainted_63 : decode cX4_samePainted 63 = .ok (.if_icmp .ne 37, 3) := by decide +kernel
theorem dX4_samePainted_66 : decode cX4_samePainted 66 = .ok (.goto 30, 3) := by decide +kernel
theorem dX4_samePainted_69 : decode cX4_samePainted 69 = .ok (.aload_n 0, 1) := by decide +kernel
theorem dX4_samePainted_70 : decode cX4_samePainted 70 = .ok (.getfield 36, 3) := by decide +kernel
theorem dX4_samePainted_73 : decode cX4_samePainted 73 = .ok (.bipush 30, 2) := by decide +kernel
theorem dX4_samePainted_75 : decode cX4_samePainted 75 = .ok (.iload_n 2, 1) := by decide +kernel
theorem dX4_samePainted_76 : decode cX4_samePainted 76 = .ok (.imul, 1) := by decide +kernel
theorem dX4_samePainted_77 : decode cX4_samePainted 77 = .ok (.iload 6, 2) := by decide +kernel
theorem dX4_samePainted_79 : decode cX4_samePainted 79 = .ok (.iadd, 1) := by decide +kernel
theorem dX4_samePainted_80 : decode cX4_samePainted 80 = .ok (.baload, 1) := by decide +kernel
theorem dX4_samePainted_81 : decode cX4_samePainted 81 = .ok (.aload_n 0, 1) := by decide +kernel
theorem dX4_samePainted_82 : decode cX4_samePainted 82 = .ok (.getfield 36, 3) := by decide +kernel
theorem dX4_samePainted_85 : decode cX4_samePainted 85 = .ok (.bipush 30, 2) := by decide +kernel
theorem dX4_samePainted_87 : decode cX4_samePainted 87 = .ok (.iload_n 3, 1) := by decide +kernel
theorem dX4_samePainted_88 : decode cX4_samePainted 88 = .ok (.imul, 1) := by decide +kernel
theorem dX4_samePainted_89 : decode cX4_samePainted 89 = .ok (.iload 6, 2) := by decide +kernel
theorem dX4_samePainted_91 : decode cX4_samePainted 91 = .ok (.iadd, 1) := by decide +kernel
theorem dX4_samePainted_92 : decode cX4_samePainted 92 = .ok (.baload, 1) := by decide +kernel
theorem dX4_samePainted_93 : decode cX4_samePainted 93 = .ok (.if_icmp .ne 7, 3) := by decide +kernel
theorem dX4_samePainted_96 : decode cX4_samePainted 96 = .ok (.iconst 1, 1) := by decide +kernel
theorem dX4_samePainted_97 : decode cX4_samePainted 97 = .ok (.goto 4, 3) := by decide +kernel
theorem dX4_samePainted_100 : decode cX4_samePainted 100 = .ok (.iconst 0, 1) := by decide +kernel
theorem dX4_samePainted_101 : decode cX4_samePainted 101 = .ok (.istore 4, 2) := by decide +kernel
theorem dX4_samePainted_103 : decode cX4_samePainted 103 = .ok (.iinc 6 1, 3) := by decide +kernel
theorem dX4_samePainted_106 : decode cX4_samePainted 106 = .ok (.goto (-83), 3) := by decide +kernel
theorem dX4_samePainted_109 : decode cX4_samePainted 109 = .ok (.iload 4, 2) := by decide +kernel
theorem dX4_samePainted_111 : decode cX4_samePainted 111 = .ok (.ireturn, 1) := by decide +kernel
theorem dX4_sort_0 : decode cX4_sort 0 = .ok (.iload_n 1, 1) := by decide +kernel
theorem dX4_sort_1 : decode cX4_sort 1 = .ok (.ifCond .eq 10, 3) := by decide +kernel
theorem dX4_sort_4 : decode cX4_sort 4 = .ok (.aload_n 0, 1) := by decide +kernel
theorem dX4_sort_5 : decode cX4_sort 5 = .ok (.getfield 29, 3) := by decide +kernel
theorem dX4_sort_8 : decode cX4_sort 8 = .ok (.goto 7, 3) := by decide +kernel
theorem dX4_sort_11 : decode cX4_sort 11 = .ok (.aload_n 0, 1) := by decide +kernel
theorem dX4_sort_12 : decode cX4_sort 12 = .ok (.getfield 33, 3) := by decide +kernel
theorem dX4_sort_15 : decode cX4_sort 15 = .ok (.istore_n 2, 1) := by decide +kernel
theorem dX4_sort_16 : decode cX4_sort 16 = .ok (.iload_n 1, 1) := by decide +kernel
theorem dX4_sort_17 : decode cX4_sort 17 = .ok (.ifCond .eq 7, 3) := by decide +kernel
theorem dX4_sort_20 : decode cX4_sort 20 = .ok (.iconst 0, 1) := by decide +kernel
theorem dX4_sort_21 : decode cX4_sort 21 = .ok (.goto 5, 3) := by decide +kernel
theorem dX4_sort_24 : decode cX4_sort 24 = .ok (.bipush 30, 2) := by decide +kernel
theorem dX4_sort_26 : decode cX4_sort 26 = .ok (.istore_n 3, 1) := by decide +kernel
theorem dX4_sort_27 : decode cX4_sort 27 = .ok (.iconst 0, 1) := by decide +kernel
theorem dX4_sort_28 : decode cX4_sort 28 = .ok (.istore 4, 2) := by decide +kernel
theorem dX4_sort_30 : decode cX4_sort 30 = .ok (.iconst 0, 1) := by decide +kernel
theorem dX4_sort_31 : decode cX4_sort 31 = .ok (.istore 5, 2) := by decide +kernel
theorem dX4_sort_33 : decode cX4_sort 33 = .ok (.iload 5, 2) := by decide +kernel
theorem dX4_sort_35 : decode cX4_sort 35 = .ok (.iload_n 2, 1) := by decide +kernel
theorem dX4_sort_36 : decode cX4_sort 36 = .ok (.if_icmp .ge 107, 3) := by decide +kernel
theorem dX4_sort_39 : decode cX4_sort 39 = .ok (.aload_n 0, 1) := by decide +kernel
theorem dX4_sort_40 : decode cX4_sort 40 = .ok (.getfield 39, 3) := by decide +kernel
theorem dX4_sort_43 : decode cX4_sort 43 = .ok (.iload_n 3, 1) := by decide +kernel
theorem dX4_sort_44 : decode cX4_sort 44 = .ok (.iload 5, 2) := by decide +kernel
theorem dX4_sort_46 : decode cX4_sort 46 = .ok (.iadd, 1) := by decide +kernel
theorem dX4_sort_47 : decode cX4_sort 47 = .ok (.iconst (-1), 1) := by decide +kernel
theorem dX4_sort_48 : decode cX4_sort 48 = .ok (.iastore, 1) := by decide +kernel
theorem dX4_sort_49 : decode cX4_sort 49 = .ok (.iload 5, 2) := by decide +kernel
theorem dX4_sort_51 : decode cX4_sort 51 = .ok (.iconst 1, 1) := by decide +kernel
theorem dX4_sort_52 : decode cX4_sort 52 = .ok (.isub, 1) := by decide +kernel
theorem dX4_sort_53 : decode cX4_sort 53 = .ok (.istore 6, 2) := by decide +kernel
theorem dX4_sort_55 : decode cX4_sort 55 = .ok (.iload 6, 2) := by decide +kernel
theorem dX4_sort_57 : decode cX4_sort 57 = .ok (.ifCond .lt 51, 3) := by decide +kernel
theorem dX4_sort_60 : decode cX4_sort 60 = .ok (.aload_n 0, 1) := by decide +kernel
theorem dX4_sort_61 : decode cX4_sort 61 = .ok (.getfield 39, 3) := by decide +kernel
theorem dX4_sort_64 : decode cX4_sort 64 = .ok (.iload_n 3, 1) := by decide +kernel
theorem dX4_sort_65 : decode cX4_sort 65 = .ok (.iload 5, 2) := by decide +kernel
theorem dX4_sort_67 : decode cX4_sort 67 = .ok (.iadd, 1) := by decide +kernel
theorem dX4_sort_68 : decode cX4_sort 68 = .ok (.aload_n 0, 1) := by decide +kernel
theorem dX4_sort_69 : decode cX4_sort 69 = .ok (.iload_n 1, 1) := by decide +kernel
theorem dX4_sort_70 : decode cX4_sort 70 = .ok (.iload 5, 2) := by decide +kernel
theorem dX4_sort_72 : decode cX4_sort 72 = .ok (.iload 6, 2) := by decide +kernel
theorem dX4_sort_74 : decode cX4_sort 74 = .ok (.invokevirtual 105, 3) := by decide +kernel
theorem dX4_sort_77 : decode cX4_sort 77 = .ok (.ifCond .eq 15, 3) := by decide +kernel
theorem dX4_sort_80 : decode cX4_sort 80 = .ok (.aload_n 0, 1) := by decide +kernel
theorem dX4_sort_81 : decode cX4_sort 81 = .ok (.getfield 39, 3) := by decide +kernel
theorem dX4_sort_84 : decode cX4_sort 84 = .ok (.iload_n 3, 1) := by decide +kernel
theorem dX4_sort_85 : decode cX4_sort 85 = .ok (.iload 6, 2) := by decide +kernel
theorem dX4_sort_87 : decode cX4_sort 87 = .ok (.iadd, 1) := by decide +kernel
theorem dX4_sort_88 : decode cX4_sort 88 = .ok (.iaload, 1) := by decide +kernel
theorem dX4_sort_89 : decode cX4_sort 89 = .ok (.goto 12, 3) := by decide +kernel
theorem dX4_sort_92 : decode cX4_sort 92 = .ok (.aload_n 0, 1) := by decide +kernel
theorem dX4_sort_93 : decode cX4_sort 93 = .ok (.getfield 39, 3) := by decide +kernel
theorem dX4_sort_96 : decode cX4_sort 96 = .ok (.iload_n 3, 1) := by decide +kernel
theorem dX4_sort_97 : decode cX4_sort 97 = .ok (.iload 5, 2) := by decide +kernel
theorem dX4_sort_99 : decode cX4_sort 99 = .ok (.iadd, 1) := by decide +kernel
theorem dX4_sort_100 : decode cX4_sort 100 = .ok (.iaload, 1) := by decide +kernel
theorem dX4_sort_101 : decode cX4_sort 101 = .ok (.iastore, 1) := by decide +kernel
theorem dX4_sort_102 : decode cX4_sort 102 = .ok (.iinc 6 (-1), 3) := by decide +kernel
theorem dX4_sort_105 : decode cX4_sort 105 = .ok (.goto (-50), 3) := by decide +kernel
theorem dX4_sort_108 : decode cX4_sort 108 = .ok (.aload_n 0, 1) := by decide +kernel
theorem dX4_sort_109 : decode cX4_sort 109 = .ok (.getfield 39, 3) := by decide +kernel
theorem dX4_sort_112 : decode cX4_sort 112 = .ok (.iload_n 3, 1) := by decide +kernel
theorem dX4_sort_113 : decode cX4_sort 113 = .ok (.iload 5, 2) := by decide +kernel
theorem dX4_sort_115 : decode cX4_sort 115 = .ok (.iadd, 1) := by decide +kernel
theorem dX4_sort_116 : decode cX4_sort 116 = .ok (.iaload, 1) := by decide +kernel
theorem dX4_sort_117 : decode cX4_sort 117 = .ok (.ifCond .lt 6, 3) := by decide +kernel
theorem dX4_sort_120 : decode cX4_sort 120 = .ok (.goto 17, 3) := by decide +kernel
theorem dX4_sort_123 : decode cX4_sort 123 = .ok (.aload_n 0, 1) := by decide +kernel
theorem dX4_sort_124 : decode cX4_sort 124 = .ok (.getfield 39, 3) := by decide +kernel
theorem dX4_sort_127 : decode cX4_sort 127 = .ok (.iload_n 3, 1) := by decide +kernel
theorem dX4_sort_128 : decode cX4_sort 128 = .ok (.iload 5, 2) := by decide +kernel
theorem dX4_sort_130 : decode cX4_sort 130 = .ok (.iadd, 1) := by decide +kernel
theorem dX4_sort_131 : decode cX4_sort 131 = .ok (.iload 4, 2) := by decide +kernel
theorem dX4_sort_133 : decode cX4_sort 133 = .ok (.iastore, 1) := by decide +kernel
theorem dX4_sort_134 : decode cX4_sort 134 = .ok (.iinc 4 1, 3) := by decide +kernel
theorem dX4_sort_137 : decode cX4_sort 137 = .ok (.iinc 5 1, 3) := by decide +kernel
theorem dX4_sort_140 : decode cX4_sort 140 = .ok (.goto (-107), 3) := by decide +kernel
theorem dX4_sort_143 : decode cX4_sort 143 = .ok (.iload 4, 2) := by decide +kernel
theorem dX4_sort_145 : decode cX4_sort 145 = .ok (.ireturn, 1) := by decide +kernel
theorem dX4_factor_0 : decode cX4_factor 0 = .ok (.aload_n 0, 1) := by decide +kernel
theorem dX4_factor_1 : decode cX4_factor 1 = .ok (.iconst 1, 1) := by decide +kernel
theorem dX4_factor_2 : decode cX4_factor 2 = .ok (.invokevirtual 109, 3) := by decide +kernel
theorem dX4_factor_5 : decode cX4_factor 5 = .ok (.istore_n 2, 1) := by decide +kernel
theorem dX4_factor_6 : decode cX4_factor 6 = .ok (.aload_n 0, 1) := by decide +kernel
theorem dX4_factor_7 : decode cX4_factor 7 = .ok (.iconst 0, 1) := by decide +kernel
theorem dX4_factor_8 : decode cX4_factor 8 = .ok (.invokevirtual 109, 3) := by decide +kernel
theorem dX4_factor_11 : decode cX4_factor 11 = .ok (.istore_n 3, 1) := by decide +kernel
theorem dX4_factor_12 : decode cX4_factor 12 = .ok (.aload_n 0, 1) := by decide +kernel
theorem dX4_factor_13 : decode cX4_factor 13 = .ok (.iload_n 1, 1) := by decide +kernel
theorem dX4_factor_14 : decode cX4_factor 14 = .ok (.ifCond .eq 19, 3) := by decide +kernel
theorem dX4_factor_17 : decode cX4_factor 17 = .ok (.iload_n 2, 1) := by decide +kernel
theorem dX4_factor_18 : decode cX4_factor 18 = .ok (.bipush 12, 2) := by decide +kernel
theorem dX4_factor_20 : decode cX4_factor 20 = .ok (.if_icmp .gt 9, 3) := by decide +kernel
theorem dX4_factor_23 : decode cX4_factor 23 = .ok (.iload_n 3, 1) := by decide +kernel
theorem dX4_factor_24 : decode cX4_factor 24 = .ok (.bipush 12, 2) := by decide +kernel
theorem dX4_factor_26 : decode cX4_factor 26 = .ok (.if_icmp .le 7, 3) := by decide +kernel
theorem dX4_factor_29 : decode cX4_factor 29 = .ok (.iconst 1, 1) := by decide +kernel
theorem dX4_factor_30 : decode cX4_factor 30 = .ok (.goto 4, 3) := by decide +kernel
theorem dX4_factor_33 : decode cX4_factor 33 = .ok (.iconst 0, 1) := by decide +kernel
theorem dX4_factor_34 : decode cX4_factor 34 = .ok (.putfield 42, 3) := by decide +kernel
theorem dX4_factor_37 : decode cX4_factor 37 = .ok (.aload_n 0, 1) := by decide +kernel
theorem dX4_factor_38 : decode cX4_factor 38 = .ok (.getfield 42, 3) := by decide +kernel
theorem dX4_factor_41 : decode cX4_factor 41 = .ok (.ifCond .eq 5, 3) := by decide +kernel
theorem dX4_factor_44 : decode cX4_factor 44 = .ok (.iconst 0, 1) := by decide +kernel
theorem dX4_factor_45 : decode cX4_factor 45 = .ok (.ireturn, 1) := by decide +kernel
theorem dX4_factor_46 : decode cX4_factor 46 = .ok (.iload_n 1, 1) := by decide +kernel
theorem dX4_factor_47 : decode cX4_factor 47 = .ok (.ifCond .ne 10, 3) := by decide +kernel
theorem dX4_factor_50 : decode cX4_factor 50 = .ok (.bipush 100, 2) := by decide +kernel
theorem dX4_factor_52 : decode cX4_factor 52 = .ok (.iload_n 2, 1) := by decide +kernel
theorem dX4_factor_53 : decode cX4_factor 53 = .ok (.imul, 1) := by decide +kernel
theorem dX4_factor_54 : decode cX4_factor 54 = .ok (.iload_n 3, 1) := by decide +kernel
theorem dX4_factor_55 : decode cX4_factor 55 = .ok (.iadd, 1) := by decide +kernel
theorem dX4_factor_56 : decode cX4_factor 56 = .ok (.ireturn, 1) := by decide +kernel
theorem dX4_factor_57 : decode cX4_factor 57 = .ok (.aload_n 0, 1) := by decide +kernel
theorem dX4_factor_58 : decode cX4_factor 58 = .ok (.iconst 0, 1) := by decide +kernel
theorem dX4_factor_59 : decode cX4_factor 59 = .ok (.putfield 57, 3) := by decide +kernel
theorem dX4_factor_62 : decode cX4_factor 62 = .ok (.aload_n 0, 1) := by decide +kernel
theorem dX4_factor_63 : decode cX4_factor 63 = .ok (.iconst 0, 1) := by decide +kernel
theorem dX4_factor_64 : decode cX4_factor 64 = .ok (.putfield 45, 3) := by decide +kernel
theorem dX4_factor_67 : decode cX4_factor 67 = .ok (.aload_n 0, 1) := by decide +kernel
theorem dX4_factor_68 : decode cX4_factor 68 = .ok (.iconst 0, 1) := by decide +kernel
theorem dX4_factor_69 : decode cX4_factor 69 = .ok (.putfield 48, 3) := by decide +kernel
theorem dX4_factor_72 : decode cX4_factor 72 = .ok (.iconst 0, 1) := by decide +kernel
theorem dX4_factor_73 : decode cX4_factor 73 = .ok (.istore 4, 2) := by decide +kernel
theorem dX4_factor_75 : decode cX4_factor 75 = .ok (.iload 4, 2) := by decide +kernel
theorem dX4_factor_77 : decode cX4_factor 77 = .ok (.sipush 144, 3) := by decide +kernel
theorem dX4_factor_80 : decode cX4_factor 80 = .ok (.if_icmp .ge 17, 3) := by decide +kernel
theorem dX4_factor_83 : decode cX4_factor 83 = .ok (.aload_n 0, 1) := by decide +kernel
theorem dX4_factor_84 : decode cX4_factor 84 = .ok (.getfield 13, 3) := by decide +kernel
theorem dX4_factor_87 : decode cX4_factor 87 = .ok (.iload 4, 2) := by decide +kernel
theorem dX4_factor_89 : decode cX4_factor 89 = .ok (.iconst 0, 1) := by decide +kernel
theorem dX4_factor_90 : decode cX4_factor 90 = .ok (.bastore, 1) := by decide +kernel
theorem dX4_factor_91 : decode cX4_factor 91 = .ok (.iinc 4 1, 3) := by decide +kernel
theorem dX4_factor_94 : decode cX4_factor 94 = .ok (.goto (-19), 3) := by decide +kernel
theorem dX4_factor_97 : decode cX4_factor 97 = .ok (.iconst 0, 1) := by decide +kernel
theorem dX4_factor_98 : decode cX4_factor 98 = .ok (.istore 4, 2) := by decide +kernel
theorem dX4_factor_100 : decode cX4_factor 100 = .ok (.iload 4, 2) := by decide +kernel
theorem dX4_factor_102 : decode cX4_factor 102 = .ok (.aload_n 0, 1) := by decide +kernel
theorem dX4_factor_103 : decode cX4_factor 103 = .ok (.getfield 29, 3) := by decide +kernel
theorem dX4_factor_106 : decode cX4_factor 106 = .ok (.if_icmp .ge 21, 3) := by decide +kernel
theorem dX4_factor_109 : decode cX4_factor 109 = .ok (.aload_n 0, 1) := by decide +kernel
theorem dX4_factor_110 : decode cX4_factor 110 = .ok (.iconst 1, 1) := by decide +kernel
theorem dX4_factor_111 : decode cX4_factor 111 = .ok (.aload_n 0, 1) := by decide +kernel
theorem dX4_factor_112 : decode cX4_factor 112 = .ok (.getfield 39, 3) := by decide +kernel
theorem dX4_factor_115 : decode cX4_factor 115 = .ok (.iload 4, 2) := by decide +kernel
theorem dX4_factor_117 : decode cX4_factor 117 = .ok (.iaload, 1) := by decide +kernel
theorem dX4_factor_118 : decode cX4_factor 118 = .ok (.invokevirtual 68, 3) := by decide +kernel
theorem dX4_factor_121 : decode cX4_factor 121 = .ok (.iinc 4 1, 3) := by decide +kernel
theorem dX4_factor_124 : decode cX4_factor 124 = .ok (.goto (-24), 3) := by decide +kernel
theorem dX4_factor_127 : decode cX4_factor 127 = .ok (.iconst 0, 1) := by decide +kernel
theorem dX4_factor_128 : decode cX4_factor 128 = .ok (.istore 4, 2) := by decide +kernel
theorem dX4_factor_130 : decode cX4_factor 130 = .ok (.iload 4, 2) := by decide +kernel
theorem dX4_factor_132 : decode cX4_factor 132 = .ok (.aload_n 0, 1) := by decide +kernel
theorem dX4_factor_133 : decode cX4_factor 133 = .ok (.getfield 33, 3) := by decide +kernel
theorem dX4_factor_136 : decode cX4_factor 136 = .ok (.if_icmp .ge 24, 3) := by decide +kernel
theorem dX4_factor_139 : decode cX4_factor 139 = .ok (.aload_n 0, 1) := by decide +kernel
theorem dX4_factor_140 : decode cX4_factor 140 = .ok (.iconst 0, 1) := by decide +kernel
theorem dX4_factor_141 : decode cX4_factor 141 = .ok (.aload_n 0, 1) := by decide +kernel
theorem dX4_factor_142 : decode cX4_factor 142 = .ok (.getfield 39, 3) := by decide +kernel
theorem dX4_factor_145 : decode cX4_factor 145 = .ok (.bipush 30, 2) := by decide +kernel
theorem dX4_factor_147 : decode cX4_factor 147 = .ok (.iload 4, 2) := by decide +kernel
theorem dX4_factor_149 : decode cX4_factor 149 = .ok (.iadd, 1) := by decide +kernel
theorem dX4_factor_150 : decode cX4_factor 150 = .ok (.iaload, 1) := by decide +kernel
theorem dX4_factor_151 : decode cX4_factor 151 = .ok (.invokevirtual 68, 3) := by decide +kernel
theorem dX4_factor_154 : decode cX4_factor 154 = .ok (.iinc 4 1, 3) := by decide +kernel
theorem dX4_factor_157 : decode cX4_factor 157 = .ok (.goto (-27), 3) := by decide +kernel
theorem dX4_factor_160 : decode cX4_factor 160 = .ok (.iconst 0, 1) := by decide +kernel
theorem dX4_factor_161 : decode cX4_factor 161 = .ok (.istore 4, 2) := by decide +kernel
theorem dX4_factor_163 : decode cX4_factor 163 = .ok (.iload 4, 2) := by decide +kernel
theorem dX4_factor_165 : decode cX4_factor 165 = .ok (.aload_n 0, 1) := by decide +kernel
theorem dX4_factor_166 : decode cX4_factor 166 = .ok (.getfield 29, 3) := by decide +kernel
theorem dX4_factor_169 : decode cX4_factor 169 = .ok (.if_icmp .ge 70, 3) := by decide +kernel
theorem dX4_factor_172 : decode cX4_factor 172 = .ok (.iconst 0, 1) := by decide +kernel
theorem dX4_factor_173 : decode cX4_factor 173 = .ok (.istore 5, 2) := by decide +kernel
theorem dX4_factor_175 : decode cX4_factor 175 = .ok (.iload 5, 2) := by decide +kernel
theorem dX4_factor_177 : decode cX4_factor 177 = .ok (.aload_n 0, 1) := by decide +kernel
theorem dX4_factor_178 : decode cX4_factor 178 = .ok (.getfield 33, 3) := by decide +kernel
theorem dX4_factor_181 : decode cX4_factor 181 = .ok (.if_icmp .ge 52, 3) := by decide +kernel
theorem dX4_factor_184 : decode cX4_factor 184 = .ok (.aload_n 0, 1) := by decide +kernel
theorem dX4_factor_185 : decode cX4_factor 185 = .ok (.getfield 36, 3) := by decide +kernel
theorem dX4_factor_188 : decode cX4_factor 188 = .ok (.bipush 30, 2) := by decide +kernel
theorem dX4_factor_190 : decode cX4_factor 190 = .ok (.iload 5, 2) := by decide +kernel
theorem dX4_factor_192 : decode cX4_factor 192 = .ok (.imul, 1) := by decide +kernel
theorem dX4_factor_193 : decode cX4_factor 193 = .ok (.iload 4, 2) := by decide +kernel
theorem dX4_factor_195 : decode cX4_factor 195 = .ok (.iadd, 1) := by decide +kernel
theorem dX4_factor_196 : decode cX4_factor 196 = .ok (.baload, 1) := by decide +kernel
theorem dX4_factor_197 : decode cX4_factor 197 = .ok (.ifCond .eq 30, 3) := by decide +kernel
theorem dX4_factor_200 : decode cX4_factor 200 = .ok (.aload_n 0, 1) := by decide +kernel
theorem dX4_factor_201 : decode cX4_factor 201 = .ok (.getfield 13, 3) := by decide +kernel
theorem dX4_factor_204 : decode cX4_factor 204 = .ok (.bipush 12, 2) := by decide +kernel
theorem dX4_factor_206 : decode cX4_factor 206 = .ok (.aload_n 0, 1) := by decide +kernel
theorem dX4_factor_207 : decode cX4_factor 207 = .ok (.getfield 39, 3) := by decide +kernel
theorem dX4_factor_210 : decode cX4_factor 210 = .ok (.iload 4, 2) := by decide +kernel
theorem dX4_factor_212 : decode cX4_factor 212 = .ok (.iaload, 1) := by decide +kernel
theorem dX4_factor_213 : decode cX4_factor 213 = .ok (.imul, 1) := by decide +kernel
theorem dX4_factor_214 : decode cX4_factor 214 = .ok (.aload_n 0, 1) := by decide +kernel
theorem dX4_factor_215 : decode cX4_factor 215 = .ok (.getfield 39, 3) := by decide +kernel
theorem dX4_factor_218 : decode cX4_factor 218 = .ok (.bipush 30, 2) := by decide +kernel
theorem dX4_factor_220 : decode cX4_factor 220 = .ok (.iload 5, 2) := by decide +kernel
theorem dX4_factor_222 : decode cX4_factor 222 = .ok (.iadd, 1) := by decide +kernel
theorem dX4_factor_223 : decode cX4_factor 223 = .ok (.iaload, 1) := by decide +kernel
theorem dX4_factor_224 : decode cX4_factor 224 = .ok (.iadd, 1) := by decide +kernel
theorem dX4_factor_225 : decode cX4_factor 225 = .ok (.iconst 1, 1) := by decide +kernel
theorem dX4_factor_226 : decode cX4_factor 226 = .ok (.bastore, 1) := by decide +kernel
theorem dX4_factor_227 : decode cX4_factor 227 = .ok (.iinc 5 1, 3) := by decide +kernel
theorem dX4_factor_230 : decode cX4_factor 230 = .ok (.goto (-55), 3) := by decide +kernel
theorem dX4_factor_233 : decode cX4_factor 233 = .ok (.iinc 4 1, 3) := by decide +kernel
theorem dX4_factor_236 : decode cX4_factor 236 = .ok (.goto (-73), 3) := by decide +kernel
theorem dX4_factor_239 : decode cX4_factor 239 = .ok (.bipush 100, 2) := by decide +kernel
theorem dX4_factor_241 : decode cX4_factor 241 = .ok (.iload_n 2, 1) := by decide +kernel
theorem dX4_factor_242 : decode cX4_factor 242 = .ok (.imul, 1) := by decide +kernel
theorem dX4_factor_243 : decode cX4_factor 243 = .ok (.iload_n 3, 1) := by decide +kernel
theorem dX4_factor_244 : decode cX4_factor 244 = .ok (.iadd, 1) := by decide +kernel
theorem dX4_factor_245 : decode cX4_factor 245 = .ok (.ireturn, 1) := by decide +kernel
theorem dJ9_abs_0f7a4_0 : decode cJ9_abs_0f7a4 0 = .ok (.iload_n 0, 1) := by decide +kernel
theorem dJ9_abs_0f7a4_1 : decode cJ9_abs_0f7a4 1 = .ok (.ifCond .ge 8, 3) := by decide +kernel
theorem dJ9_abs_0f7a4_4 : decode cJ9_abs_0f7a4 4 = .ok (.iload_n 0, 1) := by decide +kernel
theorem dJ9_abs_0f7a4_5 : decode cJ9_abs_0f7a4 5 = .ok (.ineg, 1) := by decide +kernel
theorem dJ9_abs_0f7a4_6 : decode cJ9_abs_0f7a4 6 = .ok (.goto 4, 3) := by decide +kernel
theorem dJ9_abs_0f7a4_9 : decode cJ9_abs_0f7a4 9 = .ok (.iload_n 0, 1) := by decide +kernel
theorem dJ9_abs_0f7a4_10 : decode cJ9_abs_0f7a4 10 = .ok (.ireturn, 1) := by decide +kernel
theorem dJ9_max_7cf53_0 : decode cJ9_max_7cf53 0 = .ok (.iload_n 0, 1) := by decide +kernel
theorem dJ9_max_7cf53_1 : decode cJ9_max_7cf53 1 = .ok (.iload_n 1, 1) := by decide +kernel
theorem dJ9_max_7cf53_2 : decode cJ9_max_7cf53 2 = .ok (.if_icmp .lt 7, 3) := by decide +kernel
theorem dJ9_max_7cf53_5 : decode cJ9_max_7cf53 5 = .ok (.iload_n 0, 1) := by decide +kernel
theorem dJ9_max_7cf53_6 : decode cJ9_max_7cf53 6 = .ok (.goto 4, 3) := by decide +kernel
theorem dJ9_max_7cf53_9 : decode cJ9_max_7cf53 9 = .ok (.iload_n 1, 1) := by decide +kernel
theorem dJ9_max_7cf53_10 : decode cJ9_max_7cf53 10 = .ok (.ireturn, 1) := by decide +kernel
theorem dJ9_min_7cf53_0 : decode cJ9_min_7cf53 0 = .ok (.iload_n 0, 1) := by decide +kernel
theorem dJ9_min_7cf53_1 : decode cJ9_min_7cf53 1 = .ok (.iload_n 1, 1) := by decide +kernel
theorem dJ9_min_7cf53_2 : decode cJ9_min_7cf53 2 = .ok (.if_icmp .gt 7, 3) := by decide +kernel
theorem dJ9_min_7cf53_5 : decode cJ9_min_7cf53 5 = .ok (.iload_n 0, 1) := by decide +kernel
theorem dJ9_min_7cf53_6 : decode cJ9_min_7cf53 6 = .ok (.goto 4, 3) := by decide +kernel
theorem dJ9_min_7cf53_9 : decode cJ9_min_7cf53 9 = .ok (.iload_n 1, 1) := by decide +kernel
theorem dJ9_min_7cf53_10 : decode cJ9_min_7cf53 10 = .ok (.ireturn, 1) := by decide +kernel
theorem dJ7_fill_53178_0 : decode cJ7_fill_53178 0 = .ok (.iconst 0, 1) := by decide +kernel
theorem dJ7_fill_53178_1 : decode cJ7_fill_53178 1 = .ok (.istore_n 2, 1) := by decide +kernel
theorem dJ7_fill_53178_2 : decode cJ7_fill_53178 2 = .ok (.aload_n 0, 1) := by decide +kernel
theorem dJ7_fill_53178_3 : decode cJ7_fill_53178 3 = .ok (.arraylength, 1) := by decide +kernel
theorem dJ7_fill_53178_4 : decode cJ7_fill_53178 4 = .ok (.istore_n 3, 1) := by decide +kernel
theorem dJ7_fill_53178_5 : decode cJ7_fill_53178 5 = .ok (.iload_n 2, 1) := by decide +kernel
theorem dJ7_fill_53178_6 : decode cJ7_fill_53178 6 = .ok (.iload_n 3, 1) := by decide +kernel
theorem dJ7_fill_53178_7 : decode cJ7_fill_53178 7 = .ok (.if_icmp .ge 13, 3) := by decide +kernel
theorem dJ7_fill_53178_10 : decode cJ7_fill_53178 10 = .ok (.aload_n 0, 1) := by decide +kernel
theorem dJ7_fill_53178_11 : decode cJ7_fill_53178 11 = .ok (.iload_n 2, 1) := by decide +kernel
theorem dJ7_fill_53178_12 : decode cJ7_fill_53178 12 = .ok (.iload_n 1, 1) := by decide +kernel
theorem dJ7_fill_53178_13 : decode cJ7_fill_53178 13 = .ok (.iastore, 1) := by decide +kernel
theorem dJ7_fill_53178_14 : decode cJ7_fill_53178 14 = .ok (.iinc 2 1, 3) := by decide +kernel
theorem dJ7_fill_53178_17 : decode cJ7_fill_53178 17 = .ok (.goto (-12), 3) := by decide +kernel
theorem dJ7_fill_53178_20 : decode cJ7_fill_53178 20 = .ok (.return_, 1) := by decide +kernel
theorem dL_run_0 : decode cL_run 0 = .ok (.aload 4, 2) := by decide +kernel
theorem dL_run_2 : decode cL_run 2 = .ok (.iconst 0, 1) := by decide +kernel
theorem dL_run_3 : decode cL_run 3 = .ok (.aload_n 0, 1) := by decide +kernel
theorem dL_run_4 : decode cL_run 4 = .ok (.iload_n 1, 1) := by decide +kernel
theorem dL_run_5 : decode cL_run 5 = .ok (.iload_n 2, 1) := by decide +kernel
theorem dL_run_6 : decode cL_run 6 = .ok (.iload_n 3, 1) := by decide +kernel
theorem dL_run_7 : decode cL_run 7 = .ok (.invokevirtual 7, 3) := by decide +kernel
theorem dL_run_10 : decode cL_run 10 = .ok (.i2l, 1) := by decide +kernel
theorem dL_run_11 : decode cL_run 11 = .ok (.lastore, 1) := by decide +kernel
theorem dL_run_12 : decode cL_run 12 = .ok (.goto 11, 3) := by decide +kernel
theorem dL_run_15 : decode cL_run 15 = .ok (.astore 5, 2) := by decide +kernel
theorem dL_run_17 : decode cL_run 17 = .ok (.iconst 1, 1) := by decide +kernel
theorem dL_run_18 : decode cL_run 18 = .ok (.ireturn, 1) := by decide +kernel
theorem dL_run_19 : decode cL_run 19 = .ok (.astore 5, 2) := by decide +kernel
theorem dL_run_21 : decode cL_run 21 = .ok (.iconst 2, 1) := by decide +kernel
theorem dL_run_22 : decode cL_run 22 = .ok (.ireturn, 1) := by decide +kernel
theorem dL_run_23 : decode cL_run 23 = .ok (.iconst 0, 1) := by decide +kernel
theorem dL_run_24 : decode cL_run 24 = .ok (.ireturn, 1) := by decide +kernel
theorem dL_again_0 : decode cL_again 0 = .ok (.aload 5, 2) := by decide +kernel
theorem dL_again_2 : decode cL_again 2 = .ok (.iconst 0, 1) := by decide +kernel
theorem dL_again_3 : decode cL_again 3 = .ok (.aload_n 0, 1) := by decide +kernel
theorem dL_again_4 : decode cL_again 4 = .ok (.iload_n 1, 1) := by decide +kernel
theorem dL_again_5 : decode cL_again 5 = .ok (.iload_n 2, 1) := by decide +kernel
theorem dL_again_6 : decode cL_again 6 = .ok (.iload_n 3, 1) := by decide +kernel
theorem dL_again_7 : decode cL_again 7 = .ok (.iload 4, 2) := by decide +kernel
theorem dL_again_9 : decode cL_again 9 = .ok (.invokevirtual 17, 3) := by decide +kernel
theorem dL_again_12 : decode cL_again 12 = .ok (.i2l, 1) := by decide +kernel
theorem dL_again_13 : decode cL_again 13 = .ok (.lastore, 1) := by decide +kernel
theorem dL_again_14 : decode cL_again 14 = .ok (.goto 11, 3) := by decide +kernel
theorem dL_again_17 : decode cL_again 17 = .ok (.astore 6, 2) := by decide +kernel
theorem dL_again_19 : decode cL_again 19 = .ok (.iconst 1, 1) := by decide +kernel
theorem dL_again_20 : decode cL_again 20 = .ok (.ireturn, 1) := by decide +kernel
theorem dL_again_21 : decode cL_again 21 = .ok (.astore 6, 2) := by decide +kernel
theorem dL_again_23 : decode cL_again 23 = .ok (.iconst 2, 1) := by decide +kernel
theorem dL_again_24 : decode cL_again 24 = .ok (.ireturn, 1) := by decide +kernel
theorem dL_again_25 : decode cL_again 25 = .ok (.iconst 0, 1) := by decide +kernel
theorem dL_again_26 : decode cL_again 26 = .ok (.ireturn, 1) := by decide +kernel
theorem dL_clear_0 : decode cL_clear 0 = .ok (.aload_n 2, 1) := by decide +kernel
theorem dL_clear_1 : decode cL_clear 1 = .ok (.iconst 0, 1) := by decide +kernel
theorem dL_clear_2 : decode cL_clear 2 = .ok (.aload_n 0, 1) := by decide +kernel
theorem dL_clear_3 : decode cL_clear 3 = .ok (.iload_n 1, 1) := by decide +kernel
theorem dL_clear_4 : decode cL_clear 4 = .ok (.invokevirtual 21, 3) := by decide +kernel
theorem dL_clear_7 : decode cL_clear 7 = .ok (.i2l, 1) := by decide +kernel
theorem dL_clear_8 : decode cL_clear 8 = .ok (.lastore, 1) := by decide +kernel
theorem dL_clear_9 : decode cL_clear 9 = .ok (.goto 6, 3) := by decide +kernel
theorem dL_clear_12 : decode cL_clear 12 = .ok (.astore_n 3, 1) := by decide +kernel
theorem dL_clear_13 : decode cL_clear 13 = .ok (.iconst 1, 1) := by decide +kernel
theorem dL_clear_14 : decode cL_clear 14 = .ok (.ireturn, 1) := by decide +kernel
theorem dL_clear_15 : decode cL_clear 15 = .ok (.iconst 0, 1) := by decide +kernel
theorem dL_clear_16 : decode cL_clear 16 = .ok (.ireturn, 1) := by decide +kernel
theorem dL_tie_0 : decode cL_tie 0 = .ok (.aload 4, 2) := by decide +kernel
theorem dL_tie_2 : decode cL_tie 2 = .ok (.iconst 0, 1) := by decide +kernel
theorem dL_tie_3 : decode cL_tie 3 = .ok (.aload_n 0, 1) := by decide +kernel
theorem dL_tie_4 : decode cL_tie 4 = .ok (.iload_n 1, 1) := by decide +kernel
theorem dL_tie_5 : decode cL_tie 5 = .ok (.iload_n 2, 1) := by decide +kernel
theorem dL_tie_6 : decode cL_tie 6 = .ok (.iload_n 3, 1) := by decide +kernel
theorem dL_tie_7 : decode cL_tie 7 = .ok (.invokevirtual 25, 3) := by decide +kernel
theorem dL_tie_10 : decode cL_tie 10 = .ok (.ifCond .eq 7, 3) := by decide +kernel
theorem dL_tie_13 : decode cL_tie 13 = .ok (.lconst 1, 1) := by decide +kernel
theorem dL_tie_14 : decode cL_tie 14 = .ok (.goto 4, 3) := by decide +kernel
theorem dL_tie_17 : decode cL_tie 17 = .ok (.lconst 0, 1) := by decide +kernel
theorem dL_tie_18 : decode cL_tie 18 = .ok (.lastore, 1) := by decide +kernel
theorem dL_tie_19 : decode cL_tie 19 = .ok (.goto 7, 3) := by decide +kernel
theorem dL_tie_22 : decode cL_tie 22 = .ok (.astore 5, 2) := by decide +kernel
theorem dL_tie_24 : decode cL_tie 24 = .ok (.iconst 1, 1) := by decide +kernel
theorem dL_tie_25 : decode cL_tie 25 = .ok (.ireturn, 1) := by decide +kernel
theorem dL_tie_26 : decode cL_tie 26 = .ok (.iconst 0, 1) := by decide +kernel
theorem dL_tie_27 : decode cL_tie 27 = .ok (.ireturn, 1) := by decide +kernel
theorem dL_draft_0 : decode cL_draft 0 = .ok (.aload 4, 2) := by decide +kernel
theorem dL_draft_2 : decode cL_draft 2 = .ok (.iconst 0, 1) := by decide +kernel
theorem dL_draft_3 : decode cL_draft 3 = .ok (.aload_n 0, 1) := by decide +kernel
theorem dL_draft_4 : decode cL_draft 4 = .ok (.iload_n 1, 1) := by decide +kernel
theorem dL_draft_5 : decode cL_draft 5 = .ok (.iload_n 2, 1) := by decide +kernel
theorem dL_draft_6 : decode cL_draft 6 = .ok (.iload_n 3, 1) := by decide +kernel
theorem dL_draft_7 : decode cL_draft 7 = .ok (.invokevirtual 29, 3) := by decide +kernel
theorem dL_draft_10 : decode cL_draft 10 = .ok (.i2l, 1) := by decide +kernel
theorem dL_draft_11 : decode cL_draft 11 = .ok (.lastore, 1) := by decide +kernel
theorem dL_draft_12 : decode cL_draft 12 = .ok (.goto 7, 3) := by decide +kernel
theorem dL_draft_15 : decode cL_draft 15 = .ok (.astore 5, 2) := by decide +kernel
theorem dL_draft_17 : decode cL_draft 17 = .ok (.iconst 1, 1) := by decide +kernel
theorem dL_draft_18 : decode cL_draft 18 = .ok (.ireturn, 1) := by decide +kernel
theorem dL_draft_19 : decode cL_draft 19 = .ok (.iconst 0, 1) := by decide +kernel
theorem dL_draft_20 : decode cL_draft 20 = .ok (.ireturn, 1) := by decide +kernel
theorem dL_colour_0 : decode cL_colour 0 = .ok (.aload 4, 2) := by decide +kernel
theorem dL_colour_2 : decode cL_colour 2 = .ok (.iconst 0, 1) := by decide +kernel
theorem dL_colour_3 : decode cL_colour 3 = .ok (.aload_n 0, 1) := by decide +kernel
theorem dL_colour_4 : decode cL_colour 4 = .ok (.iload_n 1, 1) := by decide +kernel
theorem dL_colour_5 : decode cL_colour 5 = .ok (.iload_n 2, 1) := by decide +kernel
theorem dL_colour_6 : decode cL_colour 6 = .ok (.iload_n 3, 1) := by decide +kernel
theorem dL_colour_7 : decode cL_colour 7 = .ok (.invokevirtual 33, 3) := by decide +kernel
theorem dL_colour_10 : decode cL_colour 10 = .ok (.i2l, 1) := by decide +kernel
theorem dL_colour_11 : decode cL_colour 11 = .ok (.lastore, 1) := by decide +kernel
theorem dL_colour_12 : decode cL_colour 12 = .ok (.goto 7, 3) := by decide +kernel
theorem dL_colour_15 : decode cL_colour 15 = .ok (.astore 5, 2) := by decide +kernel
theorem dL_colour_17 : decode cL_colour 17 = .ok (.iconst 1, 1) := by decide +kernel
theorem dL_colour_18 : decode cL_colour 18 = .ok (.ireturn, 1) := by decide +kernel
theorem dL_colour_19 : decode cL_colour 19 = .ok (.iconst 0, 1) := by decide +kernel
theorem dL_colour_20 : decode cL_colour 20 = .ok (.ireturn, 1) := by decide +kernel
theorem dL_weave_0 : decode cL_weave 0 = .ok (.aload_n 2, 1) := by decide +kernel
theorem dL_weave_1 : decode cL_weave 1 = .ok (.iconst 0, 1) := by decide +kernel
theorem dL_weave_2 : decode cL_weave 2 = .ok (.aload_n 0, 1) := by decide +kernel
theorem dL_weave_3 : decode cL_weave 3 = .ok (.iload_n 1, 1) := by decide +kernel
theorem dL_weave_4 : decode cL_weave 4 = .ok (.invokevirtual 36, 3) := by decide +kernel
theorem dL_weave_7 : decode cL_weave 7 = .ok (.i2l, 1) := by decide +kernel
theorem dL_weave_8 : decode cL_weave 8 = .ok (.lastore, 1) := by decide +kernel
theorem dL_weave_9 : decode cL_weave 9 = .ok (.goto 9, 3) := by decide +kernel
theorem dL_weave_12 : decode cL_weave 12 = .ok (.astore_n 3, 1) := by decide +kernel
theorem dL_weave_13 : decode cL_weave 13 = .ok (.iconst 1, 1) := by decide +kernel
theorem dL_weave_14 : decode cL_weave 14 = .ok (.ireturn, 1) := by decide +kernel
theorem dL_weave_15 : decode cL_weave 15 = .ok (.astore_n 3, 1) := by decide +kernel
theorem dL_weave_16 : decode cL_weave 16 = .ok (.iconst 2, 1) := by decide +kernel
theorem dL_weave_17 : decode cL_weave 17 = .ok (.ireturn, 1) := by decide +kernel
theorem dL_weave_18 : decode cL_weave 18 = .ok (.iconst 0, 1) := by decide +kernel
theorem dL_weave_19 : decode cL_weave 19 = .ok (.ireturn, 1) := by decide +kernel
theorem dL_unweave_0 : decode cL_unweave 0 = .ok (.aload_n 0, 1) := by decide +kernel
theorem dL_unweave_1 : decode cL_unweave 1 = .ok (.iload_n 1, 1) := by decide +kernel
theorem dL_unweave_2 : decode cL_unweave 2 = .ok (.invokevirtual 40, 3) := by decide +kernel
theorem dL_unweave_5 : decode cL_unweave 5 = .ok (.goto 6, 3) := by decide +kernel
theorem dL_unweave_8 : decode cL_unweave 8 = .ok (.astore_n 2, 1) := by decide +kernel
theorem dL_unweave_9 : decode cL_unweave 9 = .ok (.iconst 1, 1) := by decide +kernel
theorem dL_unweave_10 : decode cL_unweave 10 = .ok (.ireturn, 1) := by decide +kernel
theorem dL_unweave_11 : decode cL_unweave 11 = .ok (.iconst 0, 1) := by decide +kernel
theorem dL_unweave_12 : decode cL_unweave 12 = .ok (.ireturn, 1) := by decide +kernel
theorem dL_over_0 : decode cL_over 0 = .ok (.aload_n 3, 1) := by decide +kernel
theorem dL_over_1 : decode cL_over 1 = .ok (.iconst 0, 1) := by decide +kernel
theorem dL_over_2 : decode cL_over 2 = .ok (.aload_n 0, 1) := by decide +kernel
theorem dL_over_3 : decode cL_over 3 = .ok (.iload_n 1, 1) := by decide +kernel
theorem dL_over_4 : decode cL_over 4 = .ok (.iload_n 2, 1) := by decide +kernel
theorem dL_over_5 : decode cL_over 5 = .ok (.invokevirtual 44, 3) := by decide +kernel
theorem dL_over_8 : decode cL_over 8 = .ok (.i2l, 1) := by decide +kernel
theorem dL_over_9 : decode cL_over 9 = .ok (.lastore, 1) := by decide +kernel
theorem dL_over_10 : decode cL_over 10 = .ok (.goto 7, 3) := by decide +kernel
theorem dL_over_13 : decode cL_over 13 = .ok (.astore 4, 2) := by decide +kernel
theorem dL_over_15 : decode cL_over 15 = .ok (.iconst 1, 1) := by decide +kernel
theorem dL_over_16 : decode cL_over 16 = .ok (.ireturn, 1) := by decide +kernel
theorem dL_over_17 : decode cL_over 17 = .ok (.iconst 0, 1) := by decide +kernel
theorem dL_over_18 : decode cL_over 18 = .ok (.ireturn, 1) := by decide +kernel
theorem dL_seen_0 : decode cL_seen 0 = .ok (.aload 4, 2) := by decide +kernel
theorem dL_seen_2 : decode cL_seen 2 = .ok (.iconst 0, 1) := by decide +kernel
theorem dL_seen_3 : decode cL_seen 3 = .ok (.aload_n 0, 1) := by decide +kernel
theorem dL_seen_4 : decode cL_seen 4 = .ok (.iload_n 1, 1) := by decide +kernel
theorem dL_seen_5 : decode cL_seen 5 = .ok (.iload_n 2, 1) := by decide +kernel
theorem dL_seen_6 : decode cL_seen 6 = .ok (.iload_n 3, 1) := by decide +kernel
theorem dL_seen_7 : decode cL_seen 7 = .ok (.invokevirtual 50, 3) := by decide +kernel
theorem dL_seen_10 : decode cL_seen 10 = .ok (.i2l, 1) := by decide +kernel
theorem dL_seen_11 : decode cL_seen 11 = .ok (.lastore, 1) := by decide +kernel
theorem dL_seen_12 : decode cL_seen 12 = .ok (.goto 7, 3) := by decide +kernel
theorem dL_seen_15 : decode cL_seen 15 = .ok (.astore 5, 2) := by decide +kernel
theorem dL_seen_17 : decode cL_seen 17 = .ok (.iconst 1, 1) := by decide +kernel
theorem dL_seen_18 : decode cL_seen 18 = .ok (.ireturn, 1) := by decide +kernel
theorem dL_seen_19 : decode cL_seen 19 = .ok (.iconst 0, 1) := by decide +kernel
theorem dL_seen_20 : decode cL_seen 20 = .ok (.ireturn, 1) := by decide +kernel
theorem dL_longest_0 : decode cL_longest 0 = .ok (.aload_n 3, 1) := by decide +kernel
theorem dL_longest_1 : decode cL_longest 1 = .ok (.iconst 0, 1) := by decide +kernel
theorem dL_longest_2 : decode cL_longest 2 = .ok (.aload_n 0, 1) := by decide +kernel
theorem dL_longest_3 : decode cL_longest 3 = .ok (.iload_n 1, 1) := by decide +kernel
theorem dL_longest_4 : decode cL_longest 4 = .ok (.iload_n 2, 1) := by decide +kernel
theorem dL_longest_5 : decode cL_longest 5 = .ok (.invokevirtual 54, 3) := by decide +kernel
theorem dL_longest_8 : decode cL_longest 8 = .ok (.i2l, 1) := by decide +kernel
theorem dL_longest_9 : decode cL_longest 9 = .ok (.lastore, 1) := by decide +kernel
theorem dL_longest_10 : decode cL_longest 10 = .ok (.goto 7, 3) := by decide +kernel
theorem dL_longest_13 : decode cL_longest 13 = .ok (.astore 4, 2) := by decide +kernel
theorem dL_longest_15 : decode cL_longest 15 = .ok (.iconst 1, 1) := by decide +kernel
theorem dL_longest_16 : decode cL_longest 16 = .ok (.ireturn, 1) := by decide +kernel
theorem dL_longest_17 : decode cL_longest 17 = .ok (.iconst 0, 1) := by decide +kernel
theorem dL_longest_18 : decode cL_longest 18 = .ok (.ireturn, 1) := by decide +kernel
theorem dL_layers_0 : decode cL_layers 0 = .ok (.aload_n 1, 1) := by decide +kernel
theorem dL_layers_1 : decode cL_layers 1 = .ok (.iconst 0, 1) := by decide +kernel
theorem dL_layers_2 : decode cL_layers 2 = .ok (.aload_n 0, 1) := by decide +kernel
theorem dL_layers_3 : decode cL_layers 3 = .ok (.invokevirtual 58, 3) := by decide +kernel
theorem dL_layers_6 : decode cL_layers 6 = .ok (.i2l, 1) := by decide +kernel
theorem dL_layers_7 : decode cL_layers 7 = .ok (.lastore, 1) := by decide +kernel
theorem dL_layers_8 : decode cL_layers 8 = .ok (.goto 6, 3) := by decide +kernel
theorem dL_layers_11 : decode cL_layers 11 = .ok (.astore_n 2, 1) := by decide +kernel
theorem dL_layers_12 : decode cL_layers 12 = .ok (.iconst 1, 1) := by decide +kernel
theorem dL_layers_13 : decode cL_layers 13 = .ok (.ireturn, 1) := by decide +kernel
theorem dL_layers_14 : decode cL_layers 14 = .ok (.iconst 0, 1) := by decide +kernel
theorem dL_layers_15 : decode cL_layers 15 = .ok (.ireturn, 1) := by decide +kernel
theorem dL_layer_0 : decode cL_layer 0 = .ok (.aload_n 2, 1) := by decide +kernel
theorem dL_layer_1 : decode cL_layer 1 = .ok (.iconst 0, 1) := by decide +kernel
theorem dL_layer_2 : decode cL_layer 2 = .ok (.aload_n 0, 1) := by decide +kernel
theorem dL_layer_3 : decode cL_layer 3 = .ok (.iload_n 1, 1) := by decide +kernel
theorem dL_layer_4 : decode cL_layer 4 = .ok (.invokevirtual 62, 3) := by decide +kernel
theorem dL_layer_7 : decode cL_layer 7 = .ok (.i2l, 1) := by decide +kernel
theorem dL_layer_8 : decode cL_layer 8 = .ok (.lastore, 1) := by decide +kernel
theorem dL_layer_9 : decode cL_layer 9 = .ok (.goto 9, 3) := by decide +kernel
theorem dL_layer_12 : decode cL_layer 12 = .ok (.astore_n 3, 1) := by decide +kernel
theorem dL_layer_13 : decode cL_layer 13 = .ok (.iconst 1, 1) := by decide +kernel
theorem dL_layer_14 : decode cL_layer 14 = .ok (.ireturn, 1) := by decide +kernel
theorem dL_layer_15 : decode cL_layer 15 = .ok (.astore_n 3, 1) := by decide +kernel
theorem dL_layer_16 : decode cL_layer 16 = .ok (.iconst 2, 1) := by decide +kernel
theorem dL_layer_17 : decode cL_layer 17 = .ok (.ireturn, 1) := by decide +kernel
theorem dL_layer_18 : decode cL_layer 18 = .ok (.iconst 0, 1) := by decide +kernel
theorem dL_layer_19 : decode cL_layer 19 = .ok (.ireturn, 1) := by decide +kernel
theorem dL_period_0 : decode cL_period 0 = .ok (.aload_n 2, 1) := by decide +kernel
theorem dL_period_1 : decode cL_period 1 = .ok (.iconst 0, 1) := by decide +kernel
theorem dL_period_2 : decode cL_period 2 = .ok (.aload_n 0, 1) := by decide +kernel
theorem dL_period_3 : decode cL_period 3 = .ok (.iload_n 1, 1) := by decide +kernel
theorem dL_period_4 : decode cL_period 4 = .ok (.invokevirtual 65, 3) := by decide +kernel
theorem dL_period_7 : decode cL_period 7 = .ok (.i2l, 1) := by decide +kernel
theorem dL_period_8 : decode cL_period 8 = .ok (.lastore, 1) := by decide +kernel
theorem dL_period_9 : decode cL_period 9 = .ok (.goto 6, 3) := by decide +kernel
theorem dL_period_12 : decode cL_period 12 = .ok (.astore_n 3, 1) := by decide +kernel
theorem dL_period_13 : decode cL_period 13 = .ok (.iconst 1, 1) := by decide +kernel
theorem dL_period_14 : decode cL_period 14 = .ok (.ireturn, 1) := by decide +kernel
theorem dL_period_15 : decode cL_period 15 = .ok (.iconst 0, 1) := by decide +kernel
theorem dL_period_16 : decode cL_period 16 = .ok (.ireturn, 1) := by decide +kernel
theorem dL_picture_0 : decode cL_picture 0 = .ok (.aload_n 0, 1) := by decide +kernel
theorem dL_picture_1 : decode cL_picture 1 = .ok (.iload_n 1, 1) := by decide +kernel
theorem dL_picture_2 : decode cL_picture 2 = .ok (.iload_n 2, 1) := by decide +kernel
theorem dL_picture_3 : decode cL_picture 3 = .ok (.invokevirtual 68, 3) := by decide +kernel
theorem dL_picture_6 : decode cL_picture 6 = .ok (.goto 6, 3) := by decide +kernel
theorem dL_picture_9 : decode cL_picture 9 = .ok (.astore_n 3, 1) := by decide +kernel
theorem dL_picture_10 : decode cL_picture 10 = .ok (.iconst 1, 1) := by decide +kernel
theorem dL_picture_11 : decode cL_picture 11 = .ok (.ireturn, 1) := by decide +kernel
theorem dL_picture_12 : decode cL_picture 12 = .ok (.iconst 0, 1) := by decide +kernel
theorem dL_picture_13 : decode cL_picture 13 = .ok (.ireturn, 1) := by decide +kernel
theorem dL_paint_0 : decode cL_paint 0 = .ok (.aload 4, 2) := by decide +kernel
theorem dL_paint_2 : decode cL_paint 2 = .ok (.iconst 0, 1) := by decide +kernel
theorem dL_paint_3 : decode cL_paint 3 = .ok (.aload_n 0, 1) := by decide +kernel
theorem dL_paint_4 : decode cL_paint 4 = .ok (.iload_n 1, 1) := by decide +kernel
theorem dL_paint_5 : decode cL_paint 5 = .ok (.iload_n 2, 1) := by decide +kernel
theorem dL_paint_6 : decode cL_paint 6 = .ok (.iload_n 3, 1) := by decide +kernel
theorem dL_paint_7 : decode cL_paint 7 = .ok (.invokevirtual 72, 3) := by decide +kernel
theorem dL_paint_10 : decode cL_paint 10 = .ok (.ifCond .eq 7, 3) := by decide +kernel
theorem dL_paint_13 : decode cL_paint 13 = .ok (.lconst 1, 1) := by decide +kernel
theorem dL_paint_14 : decode cL_paint 14 = .ok (.goto 4, 3) := by decide +kernel
theorem dL_paint_17 : decode cL_paint 17 = .ok (.lconst 0, 1) := by decide +kernel
theorem dL_paint_18 : decode cL_paint 18 = .ok (.lastore, 1) := by decide +kernel
theorem dL_paint_19 : decode cL_paint 19 = .ok (.goto 7, 3) := by decide +kernel
theorem dL_paint_22 : decode cL_paint 22 = .ok (.astore 5, 2) := by decide +kernel
theorem dL_paint_24 : decode cL_paint 24 = .ok (.iconst 1, 1) := by decide +kernel
theorem dL_paint_25 : decode cL_paint 25 = .ok (.ireturn, 1) := by decide +kernel
theorem dL_paint_26 : decode cL_paint 26 = .ok (.iconst 0, 1) := by decide +kernel
theorem dL_paint_27 : decode cL_paint 27 = .ok (.ireturn, 1) := by decide +kernel
theorem dL_factor_0 : decode cL_factor 0 = .ok (.aload_n 2, 1) := by decide +kernel
theorem dL_factor_1 : decode cL_factor 1 = .ok (.iconst 0, 1) := by decide +kernel
theorem dL_factor_2 : decode cL_factor 2 = .ok (.aload_n 0, 1) := by decide +kernel
theorem dL_factor_3 : decode cL_factor 3 = .ok (.iload_n 1, 1) := by decide +kernel
theorem dL_factor_4 : decode cL_factor 4 = .ok (.invokevirtual 75, 3) := by decide +kernel
theorem dL_factor_7 : decode cL_factor 7 = .ok (.i2l, 1) := by decide +kernel
theorem dL_factor_8 : decode cL_factor 8 = .ok (.lastore, 1) := by decide +kernel
theorem dL_factor_9 : decode cL_factor 9 = .ok (.goto 6, 3) := by decide +kernel
theorem dL_factor_12 : decode cL_factor 12 = .ok (.astore_n 3, 1) := by decide +kernel
theorem dL_factor_13 : decode cL_factor 13 = .ok (.iconst 1, 1) := by decide +kernel
theorem dL_factor_14 : decode cL_factor 14 = .ok (.ireturn, 1) := by decide +kernel
theorem dL_factor_15 : decode cL_factor 15 = .ok (.iconst 0, 1) := by decide +kernel
theorem dL_factor_16 : decode cL_factor 16 = .ok (.ireturn, 1) := by decide +kernel
theorem dL_law_0 : decode cL_law 0 = .ok (.new 8, 3) := by decide +kernel
theorem dL_law_3 : decode cL_law 3 = .ok (.dup, 1) := by decide +kernel
theorem dL_law_4 : decode cL_law 4 = .ok (.invokespecial 78, 3) := by decide +kernel
theorem dL_law_7 : decode cL_law 7 = .ok (.astore_n 1, 1) := by decide +kernel
theorem dL_law_8 : decode cL_law 8 = .ok (.new 79, 3) := by decide +kernel
theorem dL_law_11 : decode cL_law 11 = .ok (.dup, 1) := by decide +kernel
theorem dL_law_12 : decode cL_law 12 = .ok (.invokespecial 81, 3) := by decide +kernel
theorem dL_law_15 : decode cL_law 15 = .ok (.astore_n 2, 1) := by decide +kernel
theorem dL_law_16 : decode cL_law 16 = .ok (.iconst 1, 1) := by decide +kernel
theorem dL_law_17 : decode cL_law 17 = .ok (.newarray .long, 2) := by decide +kernel
theorem dL_law_19 : decode cL_law 19 = .ok (.astore_n 3, 1) := by decide +kernel
theorem dL_law_20 : decode cL_law 20 = .ok (.iconst 0, 1) := by decide +kernel
theorem dL_law_21 : decode cL_law 21 = .ok (.istore 4, 2) := by decide +kernel
theorem dL_law_23 : decode cL_law 23 = .ok (.iload 4, 2) := by decide +kernel
theorem dL_law_25 : decode cL_law 25 = .ok (.aload_n 0, 1) := by decide +kernel
theorem dL_law_26 : decode cL_law 26 = .ok (.arraylength, 1) := by decide +kernel
theorem dL_law_27 : decode cL_law 27 = .ok (.iconst 5, 1) := by decide +kernel
theorem dL_law_28 : decode cL_law 28 = .ok (.isub, 1) := by decide +kernel
theorem dL_law_29 : decode cL_law 29 = .ok (.if_icmp .gt 1403, 3) := by decide +kernel
theorem dL_law_32 : decode cL_law 32 = .ok (.aload_n 0, 1) := by decide +kernel
theorem dL_law_33 : decode cL_law 33 = .ok (.iload 4, 2) := by decide +kernel
theorem dL_law_35 : decode cL_law 35 = .ok (.iaload, 1) := by decide +kernel
theorem dL_law_36 : decode cL_law 36 = .ok (.bipush 31, 2) := by decide +kernel
theorem dL_law_38 : decode cL_law 38 = .ok (.iand, 1) := by decide +kernel
theorem dL_law_39 : decode cL_law 39 = .ok (.tableswitch 1387 0 16 #[81, 177, 301, 373, 476, 556, 652, 708, 744, 812, 908, 992, 1036, 1092, 1164, 1212, 1315], 81) := by decide +kernel
theorem dL_law_120 : decode cL_law 120 = .ok (.aload_n 1, 1) := by decide +kernel
theorem dL_law_121 : decode cL_law 121 = .ok (.aload_n 0, 1) := by decide +kernel
theorem dL_law_122 : decode cL_law 122 = .ok (.iload 4, 2) := by decide +kernel
theorem dL_law_124 : decode cL_law 124 = .ok (.iconst 1, 1) := by decide +kernel
theorem dL_law_125 : decode cL_law 125 = .ok (.iadd, 1) := by decide +kernel
theorem dL_law_126 : decode cL_law 126 = .ok (.iaload, 1) := by decide +kernel
theorem dL_law_127 : decode cL_law 127 = .ok (.ifCond .eq 7, 3) := by decide +kernel
theorem dL_law_130 : decode cL_law 130 = .ok (.iconst 1, 1) := by decide +kernel
theorem dL_law_131 : decode cL_law 131 = .ok (.goto 4, 3) := by decide +kernel
theorem dL_law_134 : decode cL_law 134 = .ok (.iconst 0, 1) := by decide +kernel
theorem dL_law_135 : decode cL_law 135 = .ok (.aload_n 0, 1) := by decide +kernel
theorem dL_law_136 : decode cL_law 136 = .ok (.iload 4, 2) := by decide +kernel
theorem dL_law_138 : decode cL_law 138 = .ok (.iconst 2, 1) := by decide +kernel
theorem dL_law_139 : decode cL_law 139 = .ok (.iadd, 1) := by decide +kernel
theorem dL_law_140 : decode cL_law 140 = .ok (.iaload, 1) := by decide +kernel
theorem dL_law_141 : decode cL_law 141 = .ok (.aload_n 0, 1) := by decide +kernel
theorem dL_law_142 : decode cL_law 142 = .ok (.iload 4, 2) := by decide +kernel
theorem dL_law_144 : decode cL_law 144 = .ok (.iconst 3, 1) := by decide +kernel
theorem dL_law_145 : decode cL_law 145 = .ok (.iadd, 1) := by decide +kernel
theorem dL_law_146 : decode cL_law 146 = .ok (.iaload, 1) := by decide +kernel
theorem dL_law_147 : decode cL_law 147 = .ok (.aload_n 3, 1) := by decide +kernel
theorem dL_law_148 : decode cL_law 148 = .ok (.invokestatic 82, 3) := by decide +kernel
theorem dL_law_151 : decode cL_law 151 = .ok (.istore 5, 2) := by decide +kernel
theorem dL_law_153 : decode cL_law 153 = .ok (.aload_n 2, 1) := by decide +kernel
theorem dL_law_154 : decode cL_law 154 = .ok (.aload_n 0, 1) := by decide +kernel
theorem dL_law_155 : decode cL_law 155 = .ok (.iload 4, 2) := by decide +kernel
theorem dL_law_157 : decode cL_law 157 = .ok (.iconst 1, 1) := by decide +kernel
theorem dL_law_158 : decode cL_law 158 = .ok (.iadd, 1) := by decide +kernel
theorem dL_law_159 : decode cL_law 159 = .ok (.iaload, 1) := by decide +kernel
theorem dL_law_160 : decode cL_law 160 = .ok (.ifCond .eq 7, 3) := by decide +kernel
theorem dL_law_163 : decode cL_law 163 = .ok (.iconst 1, 1) := by decide +kernel
theorem dL_law_164 : decode cL_law 164 = .ok (.goto 4, 3) := by decide +kernel
theorem dL_law_167 : decode cL_law 167 = .ok (.iconst 0, 1) := by decide +kernel
theorem dL_law_168 : decode cL_law 168 = .ok (.aload_n 0, 1) := by decide +kernel
theorem dL_law_169 : decode cL_law 169 = .ok (.iload 4, 2) := by decide +kernel
theorem dL_law_171 : decode cL_law 171 = .ok (.iconst 2, 1) := by decide +kernel
theorem dL_law_172 : decode cL_law 172 = .ok (.iadd, 1) := by decide +kernel
theorem dL_law_173 : decode cL_law 173 = .ok (.iaload, 1) := by decide +kernel
theorem dL_law_174 : decode cL_law 174 = .ok (.aload_n 0, 1) := by decide +kernel
theorem dL_law_175 : decode cL_law 175 = .ok (.iload 4, 2) := by decide +kernel
theorem dL_law_177 : decode cL_law 177 = .ok (.iconst 3, 1) := by decide +kernel
theorem dL_law_178 : decode cL_law 178 = .ok (.iadd, 1) := by decide +kernel
theorem dL_law_179 : decode cL_law 179 = .ok (.iaload, 1) := by decide +kernel
theorem dL_law_180 : decode cL_law 180 = .ok (.invokevirtual 87, 3) := by decide +kernel
theorem dL_law_183 : decode cL_law 183 = .ok (.istore 6, 2) := by decide +kernel
theorem dL_law_185 : decode cL_law 185 = .ok (.aload_n 2, 1) := by decide +kernel
theorem dL_law_186 : decode cL_law 186 = .ok (.invokevirtual 88, 3) := by decide +kernel
theorem dL_law_189 : decode cL_law 189 = .ok (.iload 5, 2) := by decide +kernel
theorem dL_law_191 : decode cL_law 191 = .ok (.if_icmp .eq 5, 3) := by decide +kernel
theorem dL_law_194 : decode cL_law 194 = .ok (.iconst 0, 1) := by decide +kernel
theorem dL_law_195 : decode cL_law 195 = .ok (.ireturn, 1) := by decide +kernel
theorem dL_law_196 : decode cL_law 196 = .ok (.iload 5, 2) := by decide +kernel
theorem dL_law_198 : decode cL_law 198 = .ok (.ifCond .ne 15, 3) := by decide +kernel
theorem dL_law_201 : decode cL_law 201 = .ok (.aload_n 3, 1) := by decide +kernel
theorem dL_law_202 : decode cL_law 202 = .ok (.iconst 0, 1) := by decide +kernel
theorem dL_law_203 : decode cL_law 203 = .ok (.laload, 1) := by decide +kernel
theorem dL_law_204 : decode cL_law 204 = .ok (.iload 6, 2) := by decide +kernel
theorem dL_law_206 : decode cL_law 206 = .ok (.i2l, 1) := by decide +kernel
theorem dL_law_207 : decode cL_law 207 = .ok (.lcmp, 1) := by decide +kernel
theorem dL_law_208 : decode cL_law 208 = .ok (.ifCond .eq 5, 3) := by decide +kernel
theorem dL_law_211 : decode cL_law 211 = .ok (.iconst 0, 1) := by decide +kernel
theorem dL_law_212 : decode cL_law 212 = .ok (.ireturn, 1) := by decide +kernel
theorem dL_law_213 : decode cL_law 213 = .ok (.goto 1213, 3) := by decide +kernel
theorem dL_law_216 : decode cL_law 216 = .ok (.aload_n 1, 1) := by decide +kernel
theorem dL_law_217 : decode cL_law 217 = .ok (.aload_n 0, 1) := by decide +kernel
theorem dL_law_218 : decode cL_law 218 = .ok (.iload 4, 2) := by decide +kernel
theorem dL_law_220 : decode cL_law 220 = .ok (.iconst 1, 1) := by decide +kernel
theorem dL_law_221 : decode cL_law 221 = .ok (.iadd, 1) := by decide +kernel
theorem dL_law_222 : decode cL_law 222 = .ok (.iaload, 1) := by decide +kernel
theorem dL_law_223 : decode cL_law 223 = .ok (.ifCond .eq 7, 3) := by decide +kernel
theorem dL_law_226 : decode cL_law 226 = .ok (.iconst 1, 1) := by decide +kernel
theorem dL_law_227 : decode cL_law 227 = .ok (.goto 4, 3) := by decide +kernel
theorem dL_law_230 : decode cL_law 230 = .ok (.iconst 0, 1) := by decide +kernel
theorem dL_law_231 : decode cL_law 231 = .ok (.aload_n 0, 1) := by decide +kernel
theorem dL_law_232 : decode cL_law 232 = .ok (.iload 4, 2) := by decide +kernel
theorem dL_law_234 : decode cL_law 234 = .ok (.iconst 2, 1) := by decide +kernel
theorem dL_law_235 : decode cL_law 235 = .ok (.iadd, 1) := by decide +kernel
theorem dL_law_236 : decode cL_law 236 = .ok (.iaload, 1) := by decide +kernel
theorem dL_law_237 : decode cL_law 237 = .ok (.aload_n 0, 1) := by decide +kernel
theorem dL_law_238 : decode cL_law 238 = .ok (.iload 4, 2) := by decide +kernel
theorem dL_law_240 : decode cL_law 240 = .ok (.iconst 3, 1) := by decide +kernel
theorem dL_law_241 : decode cL_law 241 = .ok (.iadd, 1) := by decide +kernel
theorem dL_law_242 : decode cL_law 242 = .ok (.iaload, 1) := by decide +kernel
theorem dL_law_243 : decode cL_law 243 = .ok (.aload_n 0, 1) := by decide +kernel
theorem dL_law_244 : decode cL_law 244 = .ok (.iload 4, 2) := by decide +kernel
theorem dL_law_246 : decode cL_law 246 = .ok (.iconst 4, 1) := by decide +kernel
theorem dL_law_247 : decode cL_law 247 = .ok (.iadd, 1) := by decide +kernel
theorem dL_law_248 : decode cL_law 248 = .ok (.iaload, 1) := by decide +kernel
theorem dL_law_249 : decode cL_law 249 = .ok (.ifCond .eq 7, 3) := by decide +kernel
theorem dL_law_252 : decode cL_law 252 = .ok (.iconst 1, 1) := by decide +kernel
theorem dL_law_253 : decode cL_law 253 = .ok (.goto 4, 3) := by decide +kernel
theorem dL_law_256 : decode cL_law 256 = .ok (.iconst 0, 1) := by decide +kernel
theorem dL_law_257 : decode cL_law 257 = .ok (.aload_n 3, 1) := by decide +kernel
theorem dL_law_258 : decode cL_law 258 = .ok (.invokestatic 91, 3) := by decide +kernel
theorem dL_law_261 : decode cL_law 261 = .ok (.istore 5, 2) := by decide +kernel
theorem dL_law_263 : decode cL_law 263 = .ok (.aload_n 2, 1) := by decide +kernel
theorem dL_law_264 : decode cL_law 264 = .ok (.aload_n 0, 1) := by decide +kernel
theorem dL_law_265 : decode cL_law 265 = .ok (.iload 4, 2) := by decide +kernel
theorem dL_law_267 : decode cL_law 267 = .ok (.iconst 1, 1) := by decide +kernel
theorem dL_law_268 : decode cL_law 268 = .ok (.iadd, 1) := by decide +kernel
theorem dL_law_269 : decode cL_law 269 = .ok (.iaload, 1) := by decide +kernel
theorem dL_law_270 : decode cL_law 270 = .ok (.ifCond .eq 7, 3) := by decide +kernel
theorem dL_law_273 : decode cL_law 273 = .ok (.iconst 1, 1) := by decide +kernel
theorem dL_law_274 : decode cL_law 274 = .ok (.goto 4, 3) := by decide +kernel
theorem dL_law_277 : decode cL_law 277 = .ok (.iconst 0, 1) := by decide +kernel
theorem dL_law_278 : decode cL_law 278 = .ok (.aload_n 0, 1) := by decide +kernel
theorem dL_law_279 : decode cL_law 279 = .ok (.iload 4, 2) := by decide +kernel
theorem dL_law_281 : decode cL_law 281 = .ok (.iconst 2, 1) := by decide +kernel
theorem dL_law_282 : decode cL_law 282 = .ok (.iadd, 1) := by decide +kernel
theorem dL_law_283 : decode cL_law 283 = .ok (.iaload, 1) := by decide +kernel
theorem dL_law_284 : decode cL_law 284 = .ok (.aload_n 0, 1) := by decide +kernel
theorem dL_law_285 : decode cL_law 285 = .ok (.iload 4, 2) := by decide +kernel
theorem dL_law_287 : decode cL_law 287 = .ok (.iconst 3, 1) := by decide +kernel
theorem dL_law_288 : decode cL_law 288 = .ok (.iadd, 1) := by decide +kernel
theorem dL_law_289 : decode cL_law 289 = .ok (.iaload, 1) := by decide +kernel
theorem dL_law_290 : decode cL_law 290 = .ok (.aload_n 0, 1) := by decide +kernel
theorem dL_law_291 : decode cL_law 291 = .ok (.iload 4, 2) := by decide +kernel
theorem dL_law_293 : decode cL_law 293 = .ok (.iconst 4, 1) := by decide +kernel
theorem dL_law_294 : decode cL_law 294 = .ok (.iadd, 1) := by decide +kernel
theorem dL_law_295 : decode cL_law 295 = .ok (.iaload, 1) := by decide +kernel
theorem dL_law_296 : decode cL_law 296 = .ok (.ifCond .eq 7, 3) := by decide +kernel
theorem dL_law_299 : decode cL_law 299 = .ok (.iconst 1, 1) := by decide +kernel
theorem dL_law_300 : decode cL_law 300 = .ok (.goto 4, 3) := by decide +kernel
theorem dL_law_303 : decode cL_law 303 = .ok (.iconst 0, 1) := by decide +kernel
theorem dL_law_304 : decode cL_law 304 = .ok (.invokevirtual 94, 3) := by decide +kernel
theorem dL_law_307 : decode cL_law 307 = .ok (.istore 6, 2) := by decide +kernel
theorem dL_law_309 : decode cL_law 309 = .ok (.aload_n 2, 1) := by decide +kernel
theorem dL_law_310 : decode cL_law 310 = .ok (.invokevirtual 88, 3) := by decide +kernel
theorem dL_law_313 : decode cL_law 313 = .ok (.iload 5, 2) := by decide +kernel
theorem dL_law_315 : decode cL_law 315 = .ok (.if_icmp .eq 5, 3) := by decide +kernel
theorem dL_law_318 : decode cL_law 318 = .ok (.iconst 0, 1) := by decide +kernel
theorem dL_law_319 : decode cL_law 319 = .ok (.ireturn, 1) := by decide +kernel
theorem dL_law_320 : decode cL_law 320 = .ok (.iload 5, 2) := by decide +kernel
theorem dL_law_322 : decode cL_law 322 = .ok (.ifCond .ne 15, 3) := by decide +kernel
theorem dL_law_325 : decode cL_law 325 = .ok (.aload_n 3, 1) := by decide +kernel
theorem dL_law_326 : decode cL_law 326 = .ok (.iconst 0, 1) := by decide +kernel
theorem dL_law_327 : decode cL_law 327 = .ok (.laload, 1) := by decide +kernel
theorem dL_law_328 : decode cL_law 328 = .ok (.iload 6, 2) := by decide +kernel
theorem dL_law_330 : decode cL_law 330 = .ok (.i2l, 1) := by decide +kernel
theorem dL_law_331 : decode cL_law 331 = .ok (.lcmp, 1) := by decide +kernel
theorem dL_law_332 : decode cL_law 332 = .ok (.ifCond .eq 5, 3) := by decide +kernel
theorem dL_law_335 : decode cL_law 335 = .ok (.iconst 0, 1) := by decide +kernel
theorem dL_law_336 : decode cL_law 336 = .ok (.ireturn, 1) := by decide +kernel
theorem dL_law_337 : decode cL_law 337 = .ok (.goto 1089, 3) := by decide +kernel
theorem dL_law_340 : decode cL_law 340 = .ok (.aload_n 1, 1) := by decide +kernel
theorem dL_law_341 : decode cL_law 341 = .ok (.aload_n 0, 1) := by decide +kernel
theorem dL_law_342 : decode cL_law 342 = .ok (.iload 4, 2) := by decide +kernel
theorem dL_law_344 : decode cL_law 344 = .ok (.iconst 1, 1) := by decide +kernel
theorem dL_law_345 : decode cL_law 345 = .ok (.iadd, 1) := by decide +kernel
theorem dL_law_346 : decode cL_law 346 = .ok (.iaload, 1) := by decide +kernel
theorem dL_law_347 : decode cL_law 347 = .ok (.ifCond .eq 7, 3) := by decide +kernel
theorem dL_law_350 : decode cL_law 350 = .ok (.iconst 1, 1) := by decide +kernel
theorem dL_law_351 : decode cL_law 351 = .ok (.goto 4, 3) := by decide +kernel
theorem dL_law_354 : decode cL_law 354 = .ok (.iconst 0, 1) := by decide +kernel
theorem dL_law_355 : decode cL_law 355 = .ok (.aload_n 3, 1) := by decide +kernel
theorem dL_law_356 : decode cL_law 356 = .ok (.invokestatic 95, 3) := by decide +kernel
theorem dL_law_359 : decode cL_law 359 = .ok (.istore 5, 2) := by decide +kernel
theorem dL_law_361 : decode cL_law 361 = .ok (.aload_n 2, 1) := by decide +kernel
theorem dL_law_362 : decode cL_law 362 = .ok (.aload_n 0, 1) := by decide +kernel
theorem dL_law_363 : decode cL_law 363 = .ok (.iload 4, 2) := by decide +kernel
theorem dL_law_365 : decode cL_law 365 = .ok (.iconst 1, 1) := by decide +kernel
theorem dL_law_366 : decode cL_law 366 = .ok (.iadd, 1) := by decide +kernel
theorem dL_law_367 : decode cL_law 367 = .ok (.iaload, 1) := by decide +kernel
theorem dL_law_368 : decode cL_law 368 = .ok (.ifCond .eq 7, 3) := by decide +kernel
theorem dL_law_371 : decode cL_law 371 = .ok (.iconst 1, 1) := by decide +kernel
theorem dL_law_372 : decode cL_law 372 = .ok (.goto 4, 3) := by decide +kernel
theorem dL_law_375 : decode cL_law 375 = .ok (.iconst 0, 1) := by decide +kernel
theorem dL_law_376 : decode cL_law 376 = .ok (.invokevirtual 98, 3) := by decide +kernel
theorem dL_law_379 : decode cL_law 379 = .ok (.istore 6, 2) := by decide +kernel
theorem dL_law_381 : decode cL_law 381 = .ok (.aload_n 2, 1) := by decide +kernel
theorem dL_law_382 : decode cL_law 382 = .ok (.invokevirtual 88, 3) := by decide +kernel
theorem dL_law_385 : decode cL_law 385 = .ok (.iload 5, 2) := by decide +kernel
theorem dL_law_387 : decode cL_law 387 = .ok (.if_icmp .eq 5, 3) := by decide +kernel
theorem dL_law_390 : decode cL_law 390 = .ok (.iconst 0, 1) := by decide +kernel
theorem dL_law_391 : decode cL_law 391 = .ok (.ireturn, 1) := by decide +kernel
theorem dL_law_392 : decode cL_law 392 = .ok (.iload 5, 2) := by decide +kernel
theorem dL_law_394 : decode cL_law 394 = .ok (.ifCond .ne 15, 3) := by decide +kernel
theorem dL_law_397 : decode cL_law 397 = .ok (.aload_n 3, 1) := by decide +kernel
theorem dL_law_398 : decode cL_law 398 = .ok (.iconst 0, 1) := by decide +kernel
theorem dL_law_399 : decode cL_law 399 = .ok (.laload, 1) := by decide +kernel
theorem dL_law_400 : decode cL_law 400 = .ok (.iload 6, 2) := by decide +kernel
theorem dL_law_402 : decode cL_law 402 = .ok (.i2l, 1) := by decide +kernel
theorem dL_law_403 : decode cL_law 403 = .ok (.lcmp, 1) := by decide +kernel
theorem dL_law_404 : decode cL_law 404 = .ok (.ifCond .eq 5, 3) := by decide +kernel
theorem dL_law_407 : decode cL_law 407 = .ok (.iconst 0, 1) := by decide +kernel
theorem dL_law_408 : decode cL_law 408 = .ok (.ireturn, 1) := by decide +kernel
theorem dL_law_409 : decode cL_law 409 = .ok (.goto 1017, 3) := by decide +kernel
theorem dL_law_412 : decode cL_law 412 = .ok (.aload_n 1, 1) := by decide +kernel
theorem dL_law_413 : decode cL_law 413 = .ok (.aload_n 0, 1) := by decide +kernel
theorem dL_law_414 : decode cL_law 414 = .ok (.iload 4, 2) := by decide +kernel
theorem dL_law_416 : decode cL_law 416 = .ok (.iconst 1, 1) := by decide +kernel
theorem dL_law_417 : decode cL_law 417 = .ok (.iadd, 1) := by decide +kernel
theorem dL_law_418 : decode cL_law 418 = .ok (.iaload, 1) := by decide +kernel
theorem dL_law_419 : decode cL_law 419 = .ok (.aload_n 0, 1) := by decide +kernel
theorem dL_law_420 : decode cL_law 420 = .ok (.iload 4, 2) := by decide +kernel
theorem dL_law_422 : decode cL_law 422 = .ok (.iconst 2, 1) := by decide +kernel
theorem dL_law_423 : decode cL_law 423 = .ok (.iadd, 1) := by decide +kernel
theorem dL_law_424 : decode cL_law 424 = .ok (.iaload, 1) := by decide +kernel
theorem dL_law_425 : decode cL_law 425 = .ok (.aload_n 0, 1) := by decide +kernel
theorem dL_law_426 : decode cL_law 426 = .ok (.iload 4, 2) := by decide +kernel
theorem dL_law_428 : decode cL_law 428 = .ok (.iconst 3, 1) := by decide +kernel
theorem dL_law_429 : decode cL_law 429 = .ok (.iadd, 1) := by decide +kernel
theorem dL_law_430 : decode cL_law 430 = .ok (.iaload, 1) := by decide +kernel
theorem dL_law_431 : decode cL_law 431 = .ok (.ifCond .eq 7, 3) := by decide +kernel
theorem dL_law_434 : decode cL_law 434 = .ok (.iconst 1, 1) := by decide +kernel
theorem dL_law_435 : decode cL_law 435 = .ok (.goto 4, 3) := by decide +kernel
theorem dL_law_438 : decode cL_law 438 = .ok (.iconst 0, 1) := by decide +kernel
theorem dL_law_439 : decode cL_law 439 = .ok (.aload_n 3, 1) := by decide +kernel
theorem dL_law_440 : decode cL_law 440 = .ok (.invokestatic 99, 3) := by decide +kernel
theorem dL_law_443 : decode cL_law 443 = .ok (.istore 5, 2) := by decide +kernel
theorem dL_law_445 : decode cL_law 445 = .ok (.aload_n 2, 1) := by decide +kernel
theorem dL_law_446 : decode cL_law 446 = .ok (.aload_n 0, 1) := by decide +kernel
theorem dL_law_447 : decode cL_law 447 = .ok (.iload 4, 2) := by decide +kernel
theorem dL_law_449 : decode cL_law 449 = .ok (.iconst 1, 1) := by decide +kernel
theorem dL_law_450 : decode cL_law 450 = .ok (.iadd, 1) := by decide +kernel
theorem dL_law_451 : decode cL_law 451 = .ok (.iaload, 1) := by decide +kernel
theorem dL_law_452 : decode cL_law 452 = .ok (.aload_n 0, 1) := by decide +kernel
theorem dL_law_453 : decode cL_law 453 = .ok (.iload 4, 2) := by decide +kernel
theorem dL_law_455 : decode cL_law 455 = .ok (.iconst 2, 1) := by decide +kernel
theorem dL_law_456 : decode cL_law 456 = .ok (.iadd, 1) := by decide +kernel
theorem dL_law_457 : decode cL_law 457 = .ok (.iaload, 1) := by decide +kernel
theorem dL_law_458 : decode cL_law 458 = .ok (.aload_n 0, 1) := by decide +kernel
theorem dL_law_459 : decode cL_law 459 = .ok (.iload 4, 2) := by decide +kernel
theorem dL_law_461 : decode cL_law 461 = .ok (.iconst 3, 1) := by decide +kernel
theorem dL_law_462 : decode cL_law 462 = .ok (.iadd, 1) := by decide +kernel
theorem dL_law_463 : decode cL_law 463 = .ok (.iaload, 1) := by decide +kernel
theorem dL_law_464 : decode cL_law 464 = .ok (.ifCond .eq 7, 3) := by decide +kernel
theorem dL_law_467 : decode cL_law 467 = .ok (.iconst 1, 1) := by decide +kernel
theorem dL_law_468 : decode cL_law 468 = .ok (.goto 4, 3) := by decide +kernel
theorem dL_law_471 : decode cL_law 471 = .ok (.iconst 0, 1) := by decide +kernel
theorem dL_law_472 : decode cL_law 472 = .ok (.invokevirtual 102, 3) := by decide +kernel
theorem dL_law_475 : decode cL_law 475 = .ok (.istore 6, 2) := by decide +kernel
theorem dL_law_477 : decode cL_law 477 = .ok (.aload_n 2, 1) := by decide +kernel
theorem dL_law_478 : decode cL_law 478 = .ok (.invokevirtual 88, 3) := by decide +kernel
theorem dL_law_481 : decode cL_law 481 = .ok (.iload 5, 2) := by decide +kernel
theorem dL_law_483 : decode cL_law 483 = .ok (.if_icmp .eq 5, 3) := by decide +kernel
theorem dL_law_486 : decode cL_law 486 = .ok (.iconst 0, 1) := by decide +kernel
theorem dL_law_487 : decode cL_law 487 = .ok (.ireturn, 1) := by decide +kernel
theorem dL_law_488 : decode cL_law 488 = .ok (.iload 5, 2) := by decide +kernel
theorem dL_law_490 : decode cL_law 490 = .ok (.ifCond .ne 22, 3) := by decide +kernel
theorem dL_law_493 : decode cL_law 493 = .ok (.aload_n 3, 1) := by decide +kernel
theorem dL_law_494 : decode cL_law 494 = .ok (.iconst 0, 1) := by decide +kernel
theorem dL_law_495 : decode cL_law 495 = .ok (.laload, 1) := by decide +kernel
theorem dL_law_496 : decode cL_law 496 = .ok (.iload 6, 2) := by decide +kernel
theorem dL_law_498 : decode cL_law 498 = .ok (.ifCond .eq 7, 3) := by decide +kernel
theorem dL_law_501 : decode cL_law 501 = .ok (.lconst 1, 1) := by decide +kernel
theorem dL_law_502 : decode cL_law 502 = .ok (.goto 4, 3) := by decide +kernel
theorem dL_law_505 : decode cL_law 505 = .ok (.lconst 0, 1) := by decide +kernel
theorem dL_law_506 : decode cL_law 506 = .ok (.lcmp, 1) := by decide +kernel
theorem dL_law_507 : decode cL_law 507 = .ok (.ifCond .eq 5, 3) := by decide +kernel
theorem dL_law_510 : decode cL_law 510 = .ok (.iconst 0, 1) := by decide +kernel
theorem dL_law_511 : decode cL_law 511 = .ok (.ireturn, 1) := by decide +kernel
theorem dL_law_512 : decode cL_law 512 = .ok (.goto 914, 3) := by decide +kernel
theorem dL_law_515 : decode cL_law 515 = .ok (.aload_n 1, 1) := by decide +kernel
theorem dL_law_516 : decode cL_law 516 = .ok (.aload_n 0, 1) := by decide +kernel
theorem dL_law_517 : decode cL_law 517 = .ok (.iload 4, 2) := by decide +kernel
theorem dL_law_519 : decode cL_law 519 = .ok (.iconst 1, 1) := by decide +kernel
theorem dL_law_520 : decode cL_law 520 = .ok (.iadd, 1) := by decide +kernel
theorem dL_law_521 : decode cL_law 521 = .ok (.iaload, 1) := by decide +kernel
theorem dL_law_522 : decode cL_law 522 = .ok (.aload_n 0, 1) := by decide +kernel
theorem dL_law_523 : decode cL_law 523 = .ok (.iload 4, 2) := by decide +kernel
theorem dL_law_525 : decode cL_law 525 = .ok (.iconst 2, 1) := by decide +kernel
theorem dL_law_526 : decode cL_law 526 = .ok (.iadd, 1) := by decide +kernel
theorem dL_law_527 : decode cL_law 527 = .ok (.iaload, 1) := by decide +kernel
theorem dL_law_528 : decode cL_law 528 = .ok (.aload_n 0, 1) := by decide +kernel
theorem dL_law_529 : decode cL_law 529 = .ok (.iload 4, 2) := by decide +kernel
theorem dL_law_531 : decode cL_law 531 = .ok (.iconst 3, 1) := by decide +kernel
theorem dL_law_532 : decode cL_law 532 = .ok (.iadd, 1) := by decide +kernel
theorem dL_law_533 : decode cL_law 533 = .ok (.iaload, 1) := by decide +kernel
theorem dL_law_534 : decode cL_law 534 = .ok (.aload_n 3, 1) := by decide +kernel
theorem dL_law_535 : decode cL_law 535 = .ok (.invokestatic 103, 3) := by decide +kernel
theorem dL_law_538 : decode cL_law 538 = .ok (.istore 5, 2) := by decide +kernel
theorem dL_law_540 : decode cL_law 540 = .ok (.aload_n 2, 1) := by decide +kernel
theorem dL_law_541 : decode cL_law 541 = .ok (.aload_n 0, 1) := by decide +kernel
theorem dL_law_542 : decode cL_law 542 = .ok (.iload 4, 2) := by decide +kernel
theorem dL_law_544 : decode cL_law 544 = .ok (.iconst 1, 1) := by decide +kernel
theorem dL_law_545 : decode cL_law 545 = .ok (.iadd, 1) := by decide +kernel
theorem dL_law_546 : decode cL_law 546 = .ok (.iaload, 1) := by decide +kernel
theorem dL_law_547 : decode cL_law 547 = .ok (.aload_n 0, 1) := by decide +kernel
theorem dL_law_548 : decode cL_law 548 = .ok (.iload 4, 2) := by decide +kernel
theorem dL_law_550 : decode cL_law 550 = .ok (.iconst 2, 1) := by decide +kernel
theorem dL_law_551 : decode cL_law 551 = .ok (.iadd, 1) := by decide +kernel
theorem dL_law_552 : decode cL_law 552 = .ok (.iaload, 1) := by decide +kernel
theorem dL_law_553 : decode cL_law 553 = .ok (.aload_n 0, 1) := by decide +kernel
theorem dL_law_554 : decode cL_law 554 = .ok (.iload 4, 2) := by decide +kernel
theorem dL_law_556 : decode cL_law 556 = .ok (.iconst 3, 1) := by decide +kernel
theorem dL_law_557 : decode cL_law 557 = .ok (.iadd, 1) := by decide +kernel
