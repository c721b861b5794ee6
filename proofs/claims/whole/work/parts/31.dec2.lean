theorem dX4_draft_101 : decode cX4_draft 101 = .ok (.ifCond .ne 7, 3) := by decide +kernel
theorem dX4_draft_104 : decode cX4_draft 104 = .ok (.iconst (-1), 1) := by decide +kernel
theorem dX4_draft_105 : decode cX4_draft 105 = .ok (.goto 22, 3) := by decide +kernel
theorem dX4_draft_108 : decode cX4_draft 108 = .ok (.aload_n 0, 1) := by decide +kernel
theorem dX4_draft_109 : decode cX4_draft 109 = .ok (.getfield 13, 3) := by decide +kernel
theorem dX4_draft_112 : decode cX4_draft 112 = .ok (.bipush 12, 2) := by decide +kernel
theorem dX4_draft_114 : decode cX4_draft 114 = .ok (.iload_n 2, 1) := by decide +kernel
theorem dX4_draft_115 : decode cX4_draft 115 = .ok (.imul, 1) := by decide +kernel
theorem dX4_draft_116 : decode cX4_draft 116 = .ok (.iload_n 3, 1) := by decide +kernel
theorem dX4_draft_117 : decode cX4_draft 117 = .ok (.iadd, 1) := by decide +kernel
theorem dX4_draft_118 : decode cX4_draft 118 = .ok (.baload, 1) := by decide +kernel
theorem dX4_draft_119 : decode cX4_draft 119 = .ok (.ifCond .eq 7, 3) := by decide +kernel
theorem dX4_draft_122 : decode cX4_draft 122 = .ok (.iconst 1, 1) := by decide +kernel
theorem dX4_draft_123 : decode cX4_draft 123 = .ok (.goto 4, 3) := by decide +kernel
theorem dX4_draft_126 : decode cX4_draft 126 = .ok (.iconst 0, 1) := by decide +kernel
theorem dX4_draft_127 : decode cX4_draft 127 = .ok (.ireturn, 1) := by decide +kernel
theorem dX4_draft_128 : decode cX4_draft 128 = .ok (.iload_n 1, 1) := by decide +kernel
theorem dX4_draft_129 : decode cX4_draft 129 = .ok (.iconst 3, 1) := by decide +kernel
theorem dX4_draft_130 : decode cX4_draft 130 = .ok (.if_icmp .ne 10, 3) := by decide +kernel
theorem dX4_draft_133 : decode cX4_draft 133 = .ok (.aload_n 0, 1) := by decide +kernel
theorem dX4_draft_134 : decode cX4_draft 134 = .ok (.getfield 45, 3) := by decide +kernel
theorem dX4_draft_137 : decode cX4_draft 137 = .ok (.goto 19, 3) := by decide +kernel
theorem dX4_draft_140 : decode cX4_draft 140 = .ok (.iload_n 1, 1) := by decide +kernel
theorem dX4_draft_141 : decode cX4_draft 141 = .ok (.iconst 4, 1) := by decide +kernel
theorem dX4_draft_142 : decode cX4_draft 142 = .ok (.if_icmp .ne 10, 3) := by decide +kernel
theorem dX4_draft_145 : decode cX4_draft 145 = .ok (.aload_n 0, 1) := by decide +kernel
theorem dX4_draft_146 : decode cX4_draft 146 = .ok (.getfield 48, 3) := by decide +kernel
theorem dX4_draft_149 : decode cX4_draft 149 = .ok (.goto 7, 3) := by decide +kernel
theorem dX4_draft_152 : decode cX4_draft 152 = .ok (.aload_n 0, 1) := by decide +kernel
theorem dX4_draft_153 : decode cX4_draft 153 = .ok (.getfield 57, 3) := by decide +kernel
theorem dX4_draft_156 : decode cX4_draft 156 = .ok (.ireturn, 1) := by decide +kernel
theorem dX4_colour_0 : decode cX4_colour 0 = .ok (.aload_n 0, 1) := by decide +kernel
theorem dX4_colour_1 : decode cX4_colour 1 = .ok (.iload_n 2, 1) := by decide +kernel
theorem dX4_colour_2 : decode cX4_colour 2 = .ok (.ifCond .lt 19, 3) := by decide +kernel
theorem dX4_colour_5 : decode cX4_colour 5 = .ok (.iload_n 2, 1) := by decide +kernel
theorem dX4_colour_6 : decode cX4_colour 6 = .ok (.bipush 29, 2) := by decide +kernel
theorem dX4_colour_8 : decode cX4_colour 8 = .ok (.if_icmp .gt 13, 3) := by decide +kernel
theorem dX4_colour_11 : decode cX4_colour 11 = .ok (.iload_n 3, 1) := by decide +kernel
theorem dX4_colour_12 : decode cX4_colour 12 = .ok (.ifCond .lt 9, 3) := by decide +kernel
theorem dX4_colour_15 : decode cX4_colour 15 = .ok (.iload_n 3, 1) := by decide +kernel
theorem dX4_colour_16 : decode cX4_colour 16 = .ok (.bipush 9, 2) := by decide +kernel
theorem dX4_colour_18 : decode cX4_colour 18 = .ok (.if_icmp .le 7, 3) := by decide +kernel
theorem dX4_colour_21 : decode cX4_colour 21 = .ok (.iconst 1, 1) := by decide +kernel
theorem dX4_colour_22 : decode cX4_colour 22 = .ok (.goto 4, 3) := by decide +kernel
theorem dX4_colour_25 : decode cX4_colour 25 = .ok (.iconst 0, 1) := by decide +kernel
theorem dX4_colour_26 : decode cX4_colour 26 = .ok (.putfield 42, 3) := by decide +kernel
theorem dX4_colour_29 : decode cX4_colour 29 = .ok (.aload_n 0, 1) := by decide +kernel
theorem dX4_colour_30 : decode cX4_colour 30 = .ok (.getfield 42, 3) := by decide +kernel
theorem dX4_colour_33 : decode cX4_colour 33 = .ok (.ifCond .eq 5, 3) := by decide +kernel
theorem dX4_colour_36 : decode cX4_colour 36 = .ok (.iconst 0, 1) := by decide +kernel
theorem dX4_colour_37 : decode cX4_colour 37 = .ok (.ireturn, 1) := by decide +kernel
theorem dX4_colour_38 : decode cX4_colour 38 = .ok (.iload_n 1, 1) := by decide +kernel
theorem dX4_colour_39 : decode cX4_colour 39 = .ok (.ifCond .eq 7, 3) := by decide +kernel
theorem dX4_colour_42 : decode cX4_colour 42 = .ok (.iload_n 2, 1) := by decide +kernel
theorem dX4_colour_43 : decode cX4_colour 43 = .ok (.goto 7, 3) := by decide +kernel
theorem dX4_colour_46 : decode cX4_colour 46 = .ok (.bipush 30, 2) := by decide +kernel
theorem dX4_colour_48 : decode cX4_colour 48 = .ok (.iload_n 2, 1) := by decide +kernel
theorem dX4_colour_49 : decode cX4_colour 49 = .ok (.iadd, 1) := by decide +kernel
theorem dX4_colour_50 : decode cX4_colour 50 = .ok (.istore 4, 2) := by decide +kernel
theorem dX4_colour_52 : decode cX4_colour 52 = .ok (.aload_n 0, 1) := by decide +kernel
theorem dX4_colour_53 : decode cX4_colour 53 = .ok (.getfield 17, 3) := by decide +kernel
theorem dX4_colour_56 : decode cX4_colour 56 = .ok (.iload 4, 2) := by decide +kernel
theorem dX4_colour_58 : decode cX4_colour 58 = .ok (.iaload, 1) := by decide +kernel
theorem dX4_colour_59 : decode cX4_colour 59 = .ok (.istore 5, 2) := by decide +kernel
theorem dX4_colour_61 : decode cX4_colour 61 = .ok (.aload_n 0, 1) := by decide +kernel
theorem dX4_colour_62 : decode cX4_colour 62 = .ok (.getfield 17, 3) := by decide +kernel
theorem dX4_colour_65 : decode cX4_colour 65 = .ok (.iload 4, 2) := by decide +kernel
theorem dX4_colour_67 : decode cX4_colour 67 = .ok (.iload_n 3, 1) := by decide +kernel
theorem dX4_colour_68 : decode cX4_colour 68 = .ok (.iastore, 1) := by decide +kernel
theorem dX4_colour_69 : decode cX4_colour 69 = .ok (.iload 5, 2) := by decide +kernel
theorem dX4_colour_71 : decode cX4_colour 71 = .ok (.ireturn, 1) := by decide +kernel
theorem dX4_weave_0 : decode cX4_weave 0 = .ok (.aload_n 0, 1) := by decide +kernel
theorem dX4_weave_1 : decode cX4_weave 1 = .ok (.iload_n 1, 1) := by decide +kernel
theorem dX4_weave_2 : decode cX4_weave 2 = .ok (.ifCond .ge 7, 3) := by decide +kernel
theorem dX4_weave_5 : decode cX4_weave 5 = .ok (.iconst 1, 1) := by decide +kernel
theorem dX4_weave_6 : decode cX4_weave 6 = .ok (.goto 15, 3) := by decide +kernel
theorem dX4_weave_9 : decode cX4_weave 9 = .ok (.aload_n 0, 1) := by decide +kernel
theorem dX4_weave_10 : decode cX4_weave 10 = .ok (.getfield 45, 3) := by decide +kernel
theorem dX4_weave_13 : decode cX4_weave 13 = .ok (.ifCond .ne 7, 3) := by decide +kernel
theorem dX4_weave_16 : decode cX4_weave 16 = .ok (.iconst 2, 1) := by decide +kernel
theorem dX4_weave_17 : decode cX4_weave 17 = .ok (.goto 4, 3) := by decide +kernel
theorem dX4_weave_20 : decode cX4_weave 20 = .ok (.iconst 0, 1) := by decide +kernel
theorem dX4_weave_21 : decode cX4_weave 21 = .ok (.putfield 42, 3) := by decide +kernel
theorem dX4_weave_24 : decode cX4_weave 24 = .ok (.aload_n 0, 1) := by decide +kernel
theorem dX4_weave_25 : decode cX4_weave 25 = .ok (.getfield 42, 3) := by decide +kernel
theorem dX4_weave_28 : decode cX4_weave 28 = .ok (.ifCond .eq 5, 3) := by decide +kernel
theorem dX4_weave_31 : decode cX4_weave 31 = .ok (.iconst 0, 1) := by decide +kernel
theorem dX4_weave_32 : decode cX4_weave 32 = .ok (.ireturn, 1) := by decide +kernel
theorem dX4_weave_33 : decode cX4_weave 33 = .ok (.iconst 0, 1) := by decide +kernel
theorem dX4_weave_34 : decode cX4_weave 34 = .ok (.istore_n 2, 1) := by decide +kernel
theorem dX4_weave_35 : decode cX4_weave 35 = .ok (.iload_n 2, 1) := by decide +kernel
theorem dX4_weave_36 : decode cX4_weave 36 = .ok (.iload_n 1, 1) := by decide +kernel
theorem dX4_weave_37 : decode cX4_weave 37 = .ok (.if_icmp .ge 87, 3) := by decide +kernel
theorem dX4_weave_40 : decode cX4_weave 40 = .ok (.aload_n 0, 1) := by decide +kernel
theorem dX4_weave_41 : decode cX4_weave 41 = .ok (.getfield 57, 3) := by decide +kernel
theorem dX4_weave_44 : decode cX4_weave 44 = .ok (.aload_n 0, 1) := by decide +kernel
theorem dX4_weave_45 : decode cX4_weave 45 = .ok (.getfield 48, 3) := by decide +kernel
theorem dX4_weave_48 : decode cX4_weave 48 = .ok (.if_icmp .ge 76, 3) := by decide +kernel
theorem dX4_weave_51 : decode cX4_weave 51 = .ok (.iconst 0, 1) := by decide +kernel
theorem dX4_weave_52 : decode cX4_weave 52 = .ok (.istore_n 3, 1) := by decide +kernel
theorem dX4_weave_53 : decode cX4_weave 53 = .ok (.iload_n 3, 1) := by decide +kernel
theorem dX4_weave_54 : decode cX4_weave 54 = .ok (.aload_n 0, 1) := by decide +kernel
theorem dX4_weave_55 : decode cX4_weave 55 = .ok (.getfield 45, 3) := by decide +kernel
theorem dX4_weave_58 : decode cX4_weave 58 = .ok (.if_icmp .ge 50, 3) := by decide +kernel
theorem dX4_weave_61 : decode cX4_weave 61 = .ok (.aload_n 0, 1) := by decide +kernel
theorem dX4_weave_62 : decode cX4_weave 62 = .ok (.getfield 20, 3) := by decide +kernel
theorem dX4_weave_65 : decode cX4_weave 65 = .ok (.bipush 30, 2) := by decide +kernel
theorem dX4_weave_67 : decode cX4_weave 67 = .ok (.aload_n 0, 1) := by decide +kernel
theorem dX4_weave_68 : decode cX4_weave 68 = .ok (.getfield 57, 3) := by decide +kernel
theorem dX4_weave_71 : decode cX4_weave 71 = .ok (.imul, 1) := by decide +kernel
theorem dX4_weave_72 : decode cX4_weave 72 = .ok (.iload_n 3, 1) := by decide +kernel
theorem dX4_weave_73 : decode cX4_weave 73 = .ok (.iadd, 1) := by decide +kernel
theorem dX4_weave_74 : decode cX4_weave 74 = .ok (.aload_n 0, 1) := by decide +kernel
theorem dX4_weave_75 : decode cX4_weave 75 = .ok (.getfield 13, 3) := by decide +kernel
theorem dX4_weave_78 : decode cX4_weave 78 = .ok (.bipush 12, 2) := by decide +kernel
theorem dX4_weave_80 : decode cX4_weave 80 = .ok (.aload_n 0, 1) := by decide +kernel
theorem dX4_weave_81 : decode cX4_weave 81 = .ok (.getfield 7, 3) := by decide +kernel
theorem dX4_weave_84 : decode cX4_weave 84 = .ok (.iload_n 3, 1) := by decide +kernel
theorem dX4_weave_85 : decode cX4_weave 85 = .ok (.iaload, 1) := by decide +kernel
theorem dX4_weave_86 : decode cX4_weave 86 = .ok (.imul, 1) := by decide +kernel
theorem dX4_weave_87 : decode cX4_weave 87 = .ok (.aload_n 0, 1) := by decide +kernel
theorem dX4_weave_88 : decode cX4_weave 88 = .ok (.getfield 7, 3) := by decide +kernel
theorem dX4_weave_91 : decode cX4_weave 91 = .ok (.bipush 30, 2) := by decide +kernel
theorem dX4_weave_93 : decode cX4_weave 93 = .ok (.aload_n 0, 1) := by decide +kernel
theorem dX4_weave_94 : decode cX4_weave 94 = .ok (.getfield 57, 3) := by decide +kernel
theorem dX4_weave_97 : decode cX4_weave 97 = .ok (.iadd, 1) := by decide +kernel
theorem dX4_weave_98 : decode cX4_weave 98 = .ok (.iaload, 1) := by decide +kernel
theorem dX4_weave_99 : decode cX4_weave 99 = .ok (.iadd, 1) := by decide +kernel
theorem dX4_weave_100 : decode cX4_weave 100 = .ok (.baload, 1) := by decide +kernel
theorem dX4_weave_101 : decode cX4_weave 101 = .ok (.bastore, 1) := by decide +kernel
theorem dX4_weave_102 : decode cX4_weave 102 = .ok (.iinc 3 1, 3) := by decide +kernel
theorem dX4_weave_105 : decode cX4_weave 105 = .ok (.goto (-52), 3) := by decide +kernel
theorem dX4_weave_108 : decode cX4_weave 108 = .ok (.aload_n 0, 1) := by decide +kernel
theorem dX4_weave_109 : decode cX4_weave 109 = .ok (.dup, 1) := by decide +kernel
theorem dX4_weave_110 : decode cX4_weave 110 = .ok (.getfield 57, 3) := by decide +kernel
theorem dX4_weave_113 : decode cX4_weave 113 = .ok (.iconst 1, 1) := by decide +kernel
theorem dX4_weave_114 : decode cX4_weave 114 = .ok (.iadd, 1) := by decide +kernel
theorem dX4_weave_115 : decode cX4_weave 115 = .ok (.putfield 57, 3) := by decide +kernel
theorem dX4_weave_118 : decode cX4_weave 118 = .ok (.iinc 2 1, 3) := by decide +kernel
theorem dX4_weave_121 : decode cX4_weave 121 = .ok (.goto (-86), 3) := by decide +kernel
theorem dX4_weave_124 : decode cX4_weave 124 = .ok (.iload_n 2, 1) := by decide +kernel
theorem dX4_weave_125 : decode cX4_weave 125 = .ok (.ireturn, 1) := by decide +kernel
theorem dX4_unweave_0 : decode cX4_unweave 0 = .ok (.aload_n 0, 1) := by decide +kernel
theorem dX4_unweave_1 : decode cX4_unweave 1 = .ok (.iload_n 1, 1) := by decide +kernel
theorem dX4_unweave_2 : decode cX4_unweave 2 = .ok (.ifCond .lt 11, 3) := by decide +kernel
theorem dX4_unweave_5 : decode cX4_unweave 5 = .ok (.iload_n 1, 1) := by decide +kernel
theorem dX4_unweave_6 : decode cX4_unweave 6 = .ok (.aload_n 0, 1) := by decide +kernel
theorem dX4_unweave_7 : decode cX4_unweave 7 = .ok (.getfield 57, 3) := by decide +kernel
theorem dX4_unweave_10 : decode cX4_unweave 10 = .ok (.if_icmp .le 7, 3) := by decide +kernel
theorem dX4_unweave_13 : decode cX4_unweave 13 = .ok (.iconst 1, 1) := by decide +kernel
theorem dX4_unweave_14 : decode cX4_unweave 14 = .ok (.goto 4, 3) := by decide +kernel
theorem dX4_unweave_17 : decode cX4_unweave 17 = .ok (.iconst 0, 1) := by decide +kernel
theorem dX4_unweave_18 : decode cX4_unweave 18 = .ok (.putfield 42, 3) := by decide +kernel
theorem dX4_unweave_21 : decode cX4_unweave 21 = .ok (.aload_n 0, 1) := by decide +kernel
theorem dX4_unweave_22 : decode cX4_unweave 22 = .ok (.getfield 42, 3) := by decide +kernel
theorem dX4_unweave_25 : decode cX4_unweave 25 = .ok (.ifCond .ne 13, 3) := by decide +kernel
theorem dX4_unweave_28 : decode cX4_unweave 28 = .ok (.aload_n 0, 1) := by decide +kernel
theorem dX4_unweave_29 : decode cX4_unweave 29 = .ok (.dup, 1) := by decide +kernel
theorem dX4_unweave_30 : decode cX4_unweave 30 = .ok (.getfield 57, 3) := by decide +kernel
theorem dX4_unweave_33 : decode cX4_unweave 33 = .ok (.iload_n 1, 1) := by decide +kernel
theorem dX4_unweave_34 : decode cX4_unweave 34 = .ok (.isub, 1) := by decide +kernel
theorem dX4_unweave_35 : decode cX4_unweave 35 = .ok (.putfield 57, 3) := by decide +kernel
theorem dX4_unweave_38 : decode cX4_unweave 38 = .ok (.return_, 1) := by decide +kernel
theorem dX4_isCrossing_0 : decode cX4_isCrossing 0 = .ok (.iload_n 1, 1) := by decide +kernel
theorem dX4_isCrossing_1 : decode cX4_isCrossing 1 = .ok (.ifCond .lt 27, 3) := by decide +kernel
theorem dX4_isCrossing_4 : decode cX4_isCrossing 4 = .ok (.iload_n 1, 1) := by decide +kernel
theorem dX4_isCrossing_5 : decode cX4_isCrossing 5 = .ok (.aload_n 0, 1) := by decide +kernel
theorem dX4_isCrossing_6 : decode cX4_isCrossing 6 = .ok (.getfield 45, 3) := by decide +kernel
theorem dX4_isCrossing_9 : decode cX4_isCrossing 9 = .ok (.if_icmp .ge 19, 3) := by decide +kernel
theorem dX4_isCrossing_12 : decode cX4_isCrossing 12 = .ok (.iload_n 2, 1) := by decide +kernel
theorem dX4_isCrossing_13 : decode cX4_isCrossing 13 = .ok (.ifCond .lt 15, 3) := by decide +kernel
theorem dX4_isCrossing_16 : decode cX4_isCrossing 16 = .ok (.iload_n 2, 1) := by decide +kernel
theorem dX4_isCrossing_17 : decode cX4_isCrossing 17 = .ok (.aload_n 0, 1) := by decide +kernel
theorem dX4_isCrossing_18 : decode cX4_isCrossing 18 = .ok (.getfield 57, 3) := by decide +kernel
theorem dX4_isCrossing_21 : decode cX4_isCrossing 21 = .ok (.if_icmp .ge 7, 3) := by decide +kernel
theorem dX4_isCrossing_24 : decode cX4_isCrossing 24 = .ok (.iconst 1, 1) := by decide +kernel
theorem dX4_isCrossing_25 : decode cX4_isCrossing 25 = .ok (.goto 4, 3) := by decide +kernel
theorem dX4_isCrossing_28 : decode cX4_isCrossing 28 = .ok (.iconst 0, 1) := by decide +kernel
theorem dX4_isCrossing_29 : decode cX4_isCrossing 29 = .ok (.istore_n 3, 1) := by decide +kernel
theorem dX4_isCrossing_30 : decode cX4_isCrossing 30 = .ok (.aload_n 0, 1) := by decide +kernel
theorem dX4_isCrossing_31 : decode cX4_isCrossing 31 = .ok (.iload_n 3, 1) := by decide +kernel
theorem dX4_isCrossing_32 : decode cX4_isCrossing 32 = .ok (.ifCond .eq 7, 3) := by decide +kernel
theorem dX4_isCrossing_35 : decode cX4_isCrossing 35 = .ok (.iconst 0, 1) := by decide +kernel
theorem dX4_isCrossing_36 : decode cX4_isCrossing 36 = .ok (.goto 4, 3) := by decide +kernel
theorem dX4_isCrossing_39 : decode cX4_isCrossing 39 = .ok (.iconst 1, 1) := by decide +kernel
theorem dX4_isCrossing_40 : decode cX4_isCrossing 40 = .ok (.putfield 42, 3) := by decide +kernel
theorem dX4_isCrossing_43 : decode cX4_isCrossing 43 = .ok (.iload_n 3, 1) := by decide +kernel
theorem dX4_isCrossing_44 : decode cX4_isCrossing 44 = .ok (.ireturn, 1) := by decide +kernel
theorem dX4_over_0 : decode cX4_over 0 = .ok (.aload_n 0, 1) := by decide +kernel
theorem dX4_over_1 : decode cX4_over 1 = .ok (.iload_n 1, 1) := by decide +kernel
theorem dX4_over_2 : decode cX4_over 2 = .ok (.iload_n 2, 1) := by decide +kernel
theorem dX4_over_3 : decode cX4_over 3 = .ok (.invokevirtual 72, 3) := by decide +kernel
theorem dX4_over_6 : decode cX4_over 6 = .ok (.ifCond .eq 21, 3) := by decide +kernel
theorem dX4_over_9 : decode cX4_over 9 = .ok (.aload_n 0, 1) := by decide +kernel
theorem dX4_over_10 : decode cX4_over 10 = .ok (.getfield 20, 3) := by decide +kernel
theorem dX4_over_13 : decode cX4_over 13 = .ok (.bipush 30, 2) := by decide +kernel
theorem dX4_over_15 : decode cX4_over 15 = .ok (.iload_n 2, 1) := by decide +kernel
theorem dX4_over_16 : decode cX4_over 16 = .ok (.imul, 1) := by decide +kernel
theorem dX4_over_17 : decode cX4_over 17 = .ok (.iload_n 1, 1) := by decide +kernel
theorem dX4_over_18 : decode cX4_over 18 = .ok (.iadd, 1) := by decide +kernel
theorem dX4_over_19 : decode cX4_over 19 = .ok (.baload, 1) := by decide +kernel
theorem dX4_over_20 : decode cX4_over 20 = .ok (.ifCond .eq 7, 3) := by decide +kernel
theorem dX4_over_23 : decode cX4_over 23 = .ok (.iconst 1, 1) := by decide +kernel
theorem dX4_over_24 : decode cX4_over 24 = .ok (.goto 4, 3) := by decide +kernel
theorem dX4_over_27 : decode cX4_over 27 = .ok (.iconst 0, 1) := by decide +kernel
theorem dX4_over_28 : decode cX4_over 28 = .ok (.ireturn, 1) := by decide +kernel
theorem dX4_seen_0 : decode cX4_seen 0 = .ok (.aload_n 0, 1) := by decide +kernel
theorem dX4_seen_1 : decode cX4_seen 1 = .ok (.iload_n 1, 1) := by decide +kernel
theorem dX4_seen_2 : decode cX4_seen 2 = .ok (.iload_n 2, 1) := by decide +kernel
theorem dX4_seen_3 : decode cX4_seen 3 = .ok (.invokevirtual 72, 3) := by decide +kernel
theorem dX4_seen_6 : decode cX4_seen 6 = .ok (.ifCond .ne 5, 3) := by decide +kernel
theorem dX4_seen_9 : decode cX4_seen 9 = .ok (.iconst 0, 1) := by decide +kernel
theorem dX4_seen_10 : decode cX4_seen 10 = .ok (.ireturn, 1) := by decide +kernel
theorem dX4_seen_11 : decode cX4_seen 11 = .ok (.aload_n 0, 1) := by decide +kernel
theorem dX4_seen_12 : decode cX4_seen 12 = .ok (.getfield 20, 3) := by decide +kernel
theorem dX4_seen_15 : decode cX4_seen 15 = .ok (.bipush 30, 2) := by decide +kernel
theorem dX4_seen_17 : decode cX4_seen 17 = .ok (.iload_n 2, 1) := by decide +kernel
theorem dX4_seen_18 : decode cX4_seen 18 = .ok (.imul, 1) := by decide +kernel
theorem dX4_seen_19 : decode cX4_seen 19 = .ok (.iload_n 1, 1) := by decide +kernel
theorem dX4_seen_20 : decode cX4_seen 20 = .ok (.iadd, 1) := by decide +kernel
theorem dX4_seen_21 : decode cX4_seen 21 = .ok (.baload, 1) := by decide +kernel
theorem dX4_seen_22 : decode cX4_seen 22 = .ok (.iload_n 3, 1) := by decide +kernel
theorem dX4_seen_23 : decode cX4_seen 23 = .ok (.if_icmp .ne 15, 3) := by decide +kernel
theorem dX4_seen_26 : decode cX4_seen 26 = .ok (.aload_n 0, 1) := by decide +kernel
theorem dX4_seen_27 : decode cX4_seen 27 = .ok (.getfield 17, 3) := by decide +kernel
theorem dX4_seen_30 : decode cX4_seen 30 = .ok (.bipush 30, 2) := by decide +kernel
theorem dX4_seen_32 : decode cX4_seen 32 = .ok (.iload_n 2, 1) := by decide +kernel
theorem dX4_seen_33 : decode cX4_seen 33 = .ok (.iadd, 1) := by decide +kernel
theorem dX4_seen_34 : decode cX4_seen 34 = .ok (.iaload, 1) := by decide +kernel
theorem dX4_seen_35 : decode cX4_seen 35 = .ok (.goto 9, 3) := by decide +kernel
theorem dX4_seen_38 : decode cX4_seen 38 = .ok (.aload_n 0, 1) := by decide +kernel
theorem dX4_seen_39 : decode cX4_seen 39 = .ok (.getfield 17, 3) := by decide +kernel
theorem dX4_seen_42 : decode cX4_seen 42 = .ok (.iload_n 1, 1) := by decide +kernel
theorem dX4_seen_43 : decode cX4_seen 43 = .ok (.iaload, 1) := by decide +kernel
theorem dX4_seen_44 : decode cX4_seen 44 = .ok (.ireturn, 1) := by decide +kernel
theorem dX4_threadOf_0 : decode cX4_threadOf 0 = .ok (.iload_n 1, 1) := by decide +kernel
theorem dX4_threadOf_1 : decode cX4_threadOf 1 = .ok (.ifCond .lt 13, 3) := by decide +kernel
theorem dX4_threadOf_4 : decode cX4_threadOf 4 = .ok (.iload_n 1, 1) := by decide +kernel
theorem dX4_threadOf_5 : decode cX4_threadOf 5 = .ok (.aload_n 0, 1) := by decide +kernel
theorem dX4_threadOf_6 : decode cX4_threadOf 6 = .ok (.getfield 45, 3) := by decide +kernel
theorem dX4_threadOf_9 : decode cX4_threadOf 9 = .ok (.if_icmp .ge 5, 3) := by decide +kernel
theorem dX4_threadOf_12 : decode cX4_threadOf 12 = .ok (.iload_n 1, 1) := by decide +kernel
theorem dX4_threadOf_13 : decode cX4_threadOf 13 = .ok (.ireturn, 1) := by decide +kernel
theorem dX4_threadOf_14 : decode cX4_threadOf 14 = .ok (.iload_n 1, 1) := by decide +kernel
theorem dX4_threadOf_15 : decode cX4_threadOf 15 = .ok (.bipush 100, 2) := by decide +kernel
theorem dX4_threadOf_17 : decode cX4_threadOf 17 = .ok (.if_icmp .lt 26, 3) := by decide +kernel
theorem dX4_threadOf_20 : decode cX4_threadOf 20 = .ok (.iload_n 1, 1) := by decide +kernel
theorem dX4_threadOf_21 : decode cX4_threadOf 21 = .ok (.bipush 100, 2) := by decide +kernel
theorem dX4_threadOf_23 : decode cX4_threadOf 23 = .ok (.aload_n 0, 1) := by decide +kernel
theorem dX4_threadOf_24 : decode cX4_threadOf 24 = .ok (.getfield 57, 3) := by decide +kernel
theorem dX4_threadOf_27 : decode cX4_threadOf 27 = .ok (.iadd, 1) := by decide +kernel
theorem dX4_threadOf_28 : decode cX4_threadOf 28 = .ok (.if_icmp .ge 15, 3) := by decide +kernel
theorem dX4_threadOf_31 : decode cX4_threadOf 31 = .ok (.aload_n 0, 1) := by decide +kernel
theorem dX4_threadOf_32 : decode cX4_threadOf 32 = .ok (.getfield 45, 3) := by decide +kernel
theorem dX4_threadOf_35 : decode cX4_threadOf 35 = .ok (.iload_n 1, 1) := by decide +kernel
theorem dX4_threadOf_36 : decode cX4_threadOf 36 = .ok (.iadd, 1) := by decide +kernel
theorem dX4_threadOf_37 : decode cX4_threadOf 37 = .ok (.bipush 100, 2) := by decide +kernel
theorem dX4_threadOf_39 : decode cX4_threadOf 39 = .ok (.isub, 1) := by decide +kernel
theorem dX4_threadOf_40 : decode cX4_threadOf 40 = .ok (.goto 4, 3) := by decide +kernel
theorem dX4_threadOf_43 : decode cX4_threadOf 43 = .ok (.iconst (-1), 1) := by decide +kernel
theorem dX4_threadOf_44 : decode cX4_threadOf 44 = .ok (.ireturn, 1) := by decide +kernel
theorem dX4_longest_0 : decode cX4_longest 0 = .ok (.aload_n 0, 1) := by decide +kernel
theorem dX4_longest_1 : decode cX4_longest 1 = .ok (.iload_n 1, 1) := by decide +kernel
theorem dX4_longest_2 : decode cX4_longest 2 = .ok (.invokevirtual 76, 3) := by decide +kernel
theorem dX4_longest_5 : decode cX4_longest 5 = .ok (.istore_n 3, 1) := by decide +kernel
theorem dX4_longest_6 : decode cX4_longest 6 = .ok (.aload_n 0, 1) := by decide +kernel
theorem dX4_longest_7 : decode cX4_longest 7 = .ok (.iload_n 3, 1) := by decide +kernel
theorem dX4_longest_8 : decode cX4_longest 8 = .ok (.ifCond .ge 7, 3) := by decide +kernel
theorem dX4_longest_11 : decode cX4_longest 11 = .ok (.iconst 1, 1) := by decide +kernel
theorem dX4_longest_12 : decode cX4_longest 12 = .ok (.goto 4, 3) := by decide +kernel
theorem dX4_longest_15 : decode cX4_longest 15 = .ok (.iconst 0, 1) := by decide +kernel
theorem dX4_longest_16 : decode cX4_longest 16 = .ok (.putfield 42, 3) := by decide +kernel
theorem dX4_longest_19 : decode cX4_longest 19 = .ok (.aload_n 0, 1) := by decide +kernel
theorem dX4_longest_20 : decode cX4_longest 20 = .ok (.getfield 42, 3) := by decide +kernel
theorem dX4_longest_23 : decode cX4_longest 23 = .ok (.ifCond .eq 5, 3) := by decide +kernel
theorem dX4_longest_26 : decode cX4_longest 26 = .ok (.iconst 0, 1) := by decide +kernel
theorem dX4_longest_27 : decode cX4_longest 27 = .ok (.ireturn, 1) := by decide +kernel
theorem dX4_longest_28 : decode cX4_longest 28 = .ok (.iload_n 3, 1) := by decide +kernel
theorem dX4_longest_29 : decode cX4_longest 29 = .ok (.aload_n 0, 1) := by decide +kernel
theorem dX4_longest_30 : decode cX4_longest 30 = .ok (.getfield 45, 3) := by decide +kernel
theorem dX4_longest_33 : decode cX4_longest 33 = .ok (.if_icmp .ge 10, 3) := by decide +kernel
theorem dX4_longest_36 : decode cX4_longest 36 = .ok (.aload_n 0, 1) := by decide +kernel
theorem dX4_longest_37 : decode cX4_longest 37 = .ok (.getfield 57, 3) := by decide +kernel
theorem dX4_longest_40 : decode cX4_longest 40 = .ok (.goto 7, 3) := by decide +kernel
theorem dX4_longest_43 : decode cX4_longest 43 = .ok (.aload_n 0, 1) := by decide +kernel
theorem dX4_longest_44 : decode cX4_longest 44 = .ok (.getfield 45, 3) := by decide +kernel
theorem dX4_longest_47 : decode cX4_longest 47 = .ok (.istore 4, 2) := by decide +kernel
theorem dX4_longest_49 : decode cX4_longest 49 = .ok (.iconst 0, 1) := by decide +kernel
theorem dX4_longest_50 : decode cX4_longest 50 = .ok (.istore 5, 2) := by decide +kernel
theorem dX4_longest_52 : decode cX4_longest 52 = .ok (.iconst 0, 1) := by decide +kernel
theorem dX4_longest_53 : decode cX4_longest 53 = .ok (.istore 6, 2) := by decide +kernel
theorem dX4_longest_55 : decode cX4_longest 55 = .ok (.iload 6, 2) := by decide +kernel
theorem dX4_longest_57 : decode cX4_longest 57 = .ok (.iload 4, 2) := by decide +kernel
theorem dX4_longest_59 : decode cX4_longest 59 = .ok (.if_icmp .ge 59, 3) := by decide +kernel
theorem dX4_longest_62 : decode cX4_longest 62 = .ok (.iload 6, 2) := by decide +kernel
theorem dX4_longest_64 : decode cX4_longest 64 = .ok (.istore 7, 2) := by decide +kernel
theorem dX4_longest_66 : decode cX4_longest 66 = .ok (.iload 7, 2) := by decide +kernel
theorem dX4_longest_68 : decode cX4_longest 68 = .ok (.iload 4, 2) := by decide +kernel
theorem dX4_longest_70 : decode cX4_longest 70 = .ok (.if_icmp .ge 20, 3) := by decide +kernel
theorem dX4_longest_73 : decode cX4_longest 73 = .ok (.aload_n 0, 1) := by decide +kernel
theorem dX4_longest_74 : decode cX4_longest 74 = .ok (.iload_n 3, 1) := by decide +kernel
theorem dX4_longest_75 : decode cX4_longest 75 = .ok (.iload 7, 2) := by decide +kernel
theorem dX4_longest_77 : decode cX4_longest 77 = .ok (.iload_n 2, 1) := by decide +kernel
theorem dX4_longest_78 : decode cX4_longest 78 = .ok (.invokevirtual 80, 3) := by decide +kernel
theorem dX4_longest_81 : decode cX4_longest 81 = .ok (.ifCond .eq 9, 3) := by decide +kernel
theorem dX4_longest_84 : decode cX4_longest 84 = .ok (.iinc 7 1, 3) := by decide +kernel
theorem dX4_longest_87 : decode cX4_longest 87 = .ok (.goto (-21), 3) := by decide +kernel
theorem dX4_longest_90 : decode cX4_longest 90 = .ok (.iload 7, 2) := by decide +kernel
theorem dX4_longest_92 : decode cX4_longest 92 = .ok (.iload 6, 2) := by decide +kernel
theorem dX4_longest_94 : decode cX4_longest 94 = .ok (.isub, 1) := by decide +kernel
theorem dX4_longest_95 : decode cX4_longest 95 = .ok (.iload 5, 2) := by decide +kernel
theorem dX4_longest_97 : decode cX4_longest 97 = .ok (.if_icmp .le 11, 3) := by decide +kernel
theorem dX4_longest_100 : decode cX4_longest 100 = .ok (.iload 7, 2) := by decide +kernel
theorem dX4_longest_102 : decode cX4_longest 102 = .ok (.iload 6, 2) := by decide +kernel
theorem dX4_longest_104 : decode cX4_longest 104 = .ok (.isub, 1) := by decide +kernel
theorem dX4_longest_105 : decode cX4_longest 105 = .ok (.goto 5, 3) := by decide +kernel
theorem dX4_longest_108 : decode cX4_longest 108 = .ok (.iload 5, 2) := by decide +kernel
theorem dX4_longest_110 : decode cX4_longest 110 = .ok (.istore 5, 2) := by decide +kernel
theorem dX4_longest_112 : decode cX4_longest 112 = .ok (.iinc 6 1, 3) := by decide +kernel
theorem dX4_longest_115 : decode cX4_longest 115 = .ok (.goto (-60), 3) := by decide +kernel
theorem dX4_longest_118 : decode cX4_longest 118 = .ok (.iload 5, 2) := by decide +kernel
theorem dX4_longest_120 : decode cX4_longest 120 = .ok (.ireturn, 1) := by decide +kernel
theorem dX4_isSeen_0 : decode cX4_isSeen 0 = .ok (.iload_n 1, 1) := by decide +kernel
theorem dX4_isSeen_1 : decode cX4_isSeen 1 = .ok (.aload_n 0, 1) := by decide +kernel
theorem dX4_isSeen_2 : decode cX4_isSeen 2 = .ok (.getfield 45, 3) := by decide +kernel
theorem dX4_isSeen_5 : decode cX4_isSeen 5 = .ok (.if_icmp .ge 7, 3) := by decide +kernel
theorem dX4_isSeen_8 : decode cX4_isSeen 8 = .ok (.iconst 1, 1) := by decide +kernel
theorem dX4_isSeen_9 : decode cX4_isSeen 9 = .ok (.goto 4, 3) := by decide +kernel
theorem dX4_isSeen_12 : decode cX4_isSeen 12 = .ok (.iconst 0, 1) := by decide +kernel
theorem dX4_isSeen_13 : decode cX4_isSeen 13 = .ok (.istore 4, 2) := by decide +kernel
theorem dX4_isSeen_15 : decode cX4_isSeen 15 = .ok (.iload 4, 2) := by decide +kernel
theorem dX4_isSeen_17 : decode cX4_isSeen 17 = .ok (.ifCond .eq 17, 3) := by decide +kernel
theorem dX4_isSeen_20 : decode cX4_isSeen 20 = .ok (.aload_n 0, 1) := by decide +kernel
theorem dX4_isSeen_21 : decode cX4_isSeen 21 = .ok (.getfield 20, 3) := by decide +kernel
theorem dX4_isSeen_24 : decode cX4_isSeen 24 = .ok (.bipush 30, 2) := by decide +kernel
theorem dX4_isSeen_26 : decode cX4_isSeen 26 = .ok (.iload_n 2, 1) := by decide +kernel
theorem dX4_isSeen_27 : decode cX4_isSeen 27 = .ok (.imul, 1) := by decide +kernel
theorem dX4_isSeen_28 : decode cX4_isSeen 28 = .ok (.iload_n 1, 1) := by decide +kernel
theorem dX4_isSeen_29 : decode cX4_isSeen 29 = .ok (.iadd, 1) := by decide +kernel
theorem dX4_isSeen_30 : decode cX4_isSeen 30 = .ok (.baload, 1) := by decide +kernel
theorem dX4_isSeen_31 : decode cX4_isSeen 31 = .ok (.goto 19, 3) := by decide +kernel
theorem dX4_isSeen_34 : decode cX4_isSeen 34 = .ok (.aload_n 0, 1) := by decide +kernel
theorem dX4_isSeen_35 : decode cX4_isSeen 35 = .ok (.getfield 20, 3) := by decide +kernel
theorem dX4_isSeen_38 : decode cX4_isSeen 38 = .ok (.bipush 30, 2) := by decide +kernel
theorem dX4_isSeen_40 : decode cX4_isSeen 40 = .ok (.iload_n 1, 1) := by decide +kernel
theorem dX4_isSeen_41 : decode cX4_isSeen 41 = .ok (.aload_n 0, 1) := by decide +kernel
theorem dX4_isSeen_42 : decode cX4_isSeen 42 = .ok (.getfield 45, 3) := by decide +kernel
theorem dX4_isSeen_45 : decode cX4_isSeen 45 = .ok (.isub, 1) := by decide +kernel
theorem dX4_isSeen_46 : decode cX4_isSeen 46 = .ok (.imul, 1) := by decide +kernel
theorem dX4_isSeen_47 : decode cX4_isSeen 47 = .ok (.iload_n 2, 1) := by decide +kernel
theorem dX4_isSeen_48 : decode cX4_isSeen 48 = .ok (.iadd, 1) := by decide +kernel
theorem dX4_isSeen_49 : decode cX4_isSeen 49 = .ok (.baload, 1) := by decide +kernel
theorem dX4_isSeen_50 : decode cX4_isSeen 50 = .ok (.istore 5, 2) := by decide +kernel
theorem dX4_isSeen_52 : decode cX4_isSeen 52 = .ok (.iload 5, 2) := by decide +kernel
theorem dX4_isSeen_54 : decode cX4_isSeen 54 = .ok (.iload 4, 2) := by decide +kernel
theorem dX4_isSeen_56 : decode cX4_isSeen 56 = .ok (.iload_n 3, 1) := by decide +kernel
theorem dX4_isSeen_57 : decode cX4_isSeen 57 = .ok (.if_icmp .eq 7, 3) := by decide +kernel
theorem dX4_isSeen_60 : decode cX4_isSeen 60 = .ok (.iconst 1, 1) := by decide +kernel
theorem dX4_isSeen_61 : decode cX4_isSeen 61 = .ok (.goto 4, 3) := by decide +kernel
theorem dX4_isSeen_64 : decode cX4_isSeen 64 = .ok (.iconst 0, 1) := by decide +kernel
theorem dX4_isSeen_65 : decode cX4_isSeen 65 = .ok (.if_icmp .ne 7, 3) := by decide +kernel
theorem dX4_isSeen_68 : decode cX4_isSeen 68 = .ok (.iconst 1, 1) := by decide +kernel
theorem dX4_isSeen_69 : decode cX4_isSeen 69 = .ok (.goto 4, 3) := by decide +kernel
theorem dX4_isSeen_72 : decode cX4_isSeen 72 = .ok (.iconst 0, 1) := by decide +kernel
theorem dX4_isSeen_73 : decode cX4_isSeen 73 = .ok (.ireturn, 1) := by decide +kernel
theorem dX4_spread_0 : decode cX4_spread 0 = .ok (.aload_n 0, 1) := by decide +kernel
theorem dX4_spread_1 : decode cX4_spread 1 = .ok (.getfield 45, 3) := by decide +kernel
theorem dX4_spread_4 : decode cX4_spread 4 = .ok (.aload_n 0, 1) := by decide +kernel
theorem dX4_spread_5 : decode cX4_spread 5 = .ok (.getfield 57, 3) := by decide +kernel
theorem dX4_spread_8 : decode cX4_spread 8 = .ok (.iadd, 1) := by decide +kernel
theorem dX4_spread_9 : decode cX4_spread 9 = .ok (.istore_n 1, 1) := by decide +kernel
theorem dX4_spread_10 : decode cX4_spread 10 = .ok (.iconst 0, 1) := by decide +kernel
theorem dX4_spread_11 : decode cX4_spread 11 = .ok (.istore_n 2, 1) := by decide +kernel
theorem dX4_spread_12 : decode cX4_spread 12 = .ok (.iload_n 2, 1) := by decide +kernel
theorem dX4_spread_13 : decode cX4_spread 13 = .ok (.iload_n 1, 1) := by decide +kernel
theorem dX4_spread_14 : decode cX4_spread 14 = .ok (.if_icmp .ge 43, 3) := by decide +kernel
theorem dX4_spread_17 : decode cX4_spread 17 = .ok (.iconst 0, 1) := by decide +kernel
theorem dX4_spread_18 : decode cX4_spread 18 = .ok (.istore_n 3, 1) := by decide +kernel
theorem dX4_spread_19 : decode cX4_spread 19 = .ok (.iload_n 3, 1) := by decide +kernel
theorem dX4_spread_20 : decode cX4_spread 20 = .ok (.iload_n 1, 1) := by decide +kernel
theorem dX4_spread_21 : decode cX4_spread 21 = .ok (.if_icmp .ge 30, 3) := by decide +kernel
theorem dX4_spread_24 : decode cX4_spread 24 = .ok (.aload_n 0, 1) := by decide +kernel
theorem dX4_spread_25 : decode cX4_spread 25 = .ok (.getfield 23, 3) := by decide +kernel
theorem dX4_spread_28 : decode cX4_spread 28 = .ok (.bipush 60, 2) := by decide +kernel
theorem dX4_spread_30 : decode cX4_spread 30 = .ok (.iload_n 2, 1) := by decide +kernel
theorem dX4_spread_31 : decode cX4_spread 31 = .ok (.imul, 1) := by decide +kernel
theorem dX4_spread_32 : decode cX4_spread 32 = .ok (.iload_n 3, 1) := by decide +kernel
theorem dX4_spread_33 : decode cX4_spread 33 = .ok (.iadd, 1) := by decide +kernel
theorem dX4_spread_34 : decode cX4_spread 34 = .ok (.iload_n 2, 1) := by decide +kernel
theorem dX4_spread_35 : decode cX4_spread 35 = .ok (.iload_n 3, 1) := by decide +kernel
theorem dX4_spread_36 : decode cX4_spread 36 = .ok (.if_icmp .ne 7, 3) := by decide +kernel
theorem dX4_spread_39 : decode cX4_spread 39 = .ok (.iconst 1, 1) := by decide +kernel
theorem dX4_spread_40 : decode cX4_spread 40 = .ok (.goto 4, 3) := by decide +kernel
theorem dX4_spread_43 : decode cX4_spread 43 = .ok (.iconst 0, 1) := by decide +kernel
theorem dX4_spread_44 : decode cX4_spread 44 = .ok (.bastore, 1) := by decide +kernel
theorem dX4_spread_45 : decode cX4_spread 45 = .ok (.iinc 3 1, 3) := by decide +kernel
theorem dX4_spread_48 : decode cX4_spread 48 = .ok (.goto (-29), 3) := by decide +kernel
theorem dX4_spread_51 : decode cX4_spread 51 = .ok (.iinc 2 1, 3) := by decide +kernel
theorem dX4_spread_54 : decode cX4_spread 54 = .ok (.goto (-42), 3) := by decide +kernel
theorem dX4_spread_57 : decode cX4_spread 57 = .ok (.iconst 0, 1) := by decide +kernel
theorem dX4_spread_58 : decode cX4_spread 58 = .ok (.istore_n 2, 1) := by decide +kernel
theorem dX4_spread_59 : decode cX4_spread 59 = .ok (.iload_n 2, 1) := by decide +kernel
theorem dX4_spread_60 : decode cX4_spread 60 = .ok (.aload_n 0, 1) := by decide +kernel
theorem dX4_spread_61 : decode cX4_spread 61 = .ok (.getfield 57, 3) := by decide +kernel
theorem dX4_spread_64 : decode cX4_spread 64 = .ok (.if_icmp .ge 74, 3) := by decide +kernel
theorem dX4_spread_67 : decode cX4_spread 67 = .ok (.iconst 0, 1) := by decide +kernel
theorem dX4_spread_68 : decode cX4_spread 68 = .ok (.istore_n 3, 1) := by decide +kernel
theorem dX4_spread_69 : decode cX4_spread 69 = .ok (.iload_n 3, 1) := by decide +kernel
theorem dX4_spread_70 : decode cX4_spread 70 = .ok (.aload_n 0, 1) := by decide +kernel
theorem dX4_spread_71 : decode cX4_spread 71 = .ok (.getfield 45, 3) := by decide +kernel
theorem dX4_spread_74 : decode cX4_spread 74 = .ok (.if_icmp .ge 58, 3) := by decide +kernel
theorem dX4_spread_77 : decode cX4_spread 77 = .ok (.aload_n 0, 1) := by decide +kernel
theorem dX4_spread_78 : decode cX4_spread 78 = .ok (.getfield 20, 3) := by decide +kernel
theorem dX4_spread_81 : decode cX4_spread 81 = .ok (.bipush 30, 2) := by decide +kernel
theorem dX4_spread_83 : decode cX4_spread 83 = .ok (.iload_n 2, 1) := by decide +kernel
theorem dX4_spread_84 : decode cX4_spread 84 = .ok (.imul, 1) := by decide +kernel
theorem dX4_spread_85 : decode cX4_spread 85 = .ok (.iload_n 3, 1) := by decide +kernel
theorem dX4_spread_86 : decode cX4_spread 86 = .ok (.iadd, 1) := by decide +kernel
theorem dX4_spread_87 : decode cX4_spread 87 = .ok (.baload, 1) := by decide +kernel
theorem dX4_spread_88 : decode cX4_spread 88 = .ok (.istore 4, 2) := by decide +kernel
theorem dX4_spread_90 : decode cX4_spread 90 = .ok (.aload_n 0, 1) := by decide +kernel
theorem dX4_spread_91 : decode cX4_spread 91 = .ok (.getfield 23, 3) := by decide +kernel
theorem dX4_spread_94 : decode cX4_spread 94 = .ok (.iload 4, 2) := by decide +kernel
theorem dX4_spread_96 : decode cX4_spread 96 = .ok (.ifCond .eq 17, 3) := by decide +kernel
theorem dX4_spread_99 : decode cX4_spread 99 = .ok (.bipush 60, 2) := by decide +kernel
theorem dX4_spread_101 : decode cX4_spread 101 = .ok (.iload_n 3, 1) := by decide +kernel
theorem dX4_spread_102 : decode cX4_spread 102 = .ok (.imul, 1) := by decide +kernel
theorem dX4_spread_103 : decode cX4_spread 103 = .ok (.aload_n 0, 1) := by decide +kernel
theorem dX4_spread_104 : decode cX4_spread 104 = .ok (.getfield 45, 3) := by decide +kernel
theorem dX4_spread_107 : decode cX4_spread 107 = .ok (.iadd, 1) := by decide +kernel
theorem dX4_spread_108 : decode cX4_spread 108 = .ok (.iload_n 2, 1) := by decide +kernel
theorem dX4_spread_109 : decode cX4_spread 109 = .ok (.iadd, 1) := by decide +kernel
theorem dX4_spread_110 : decode cX4_spread 110 = .ok (.goto 14, 3) := by decide +kernel
theorem dX4_spread_113 : decode cX4_spread 113 = .ok (.bipush 60, 2) := by decide +kernel
theorem dX4_spread_115 : decode cX4_spread 115 = .ok (.aload_n 0, 1) := by decide +kernel
theorem dX4_spread_116 : decode cX4_spread 116 = .ok (.getfield 45, 3) := by decide +kernel
theorem dX4_spread_119 : decode cX4_spread 119 = .ok (.iload_n 2, 1) := by decide +kernel
theorem dX4_spread_120 : decode cX4_spread 120 = .ok (.iadd, 1) := by decide +kernel
theorem dX4_spread_121 : decode cX4_spread 121 = .ok (.imul, 1) := by decide +kernel
theorem dX4_spread_122 : decode cX4_spread 122 = .ok (.iload_n 3, 1) := by decide +kernel
theorem dX4_spread_123 : decode cX4_spread 123 = .ok (.iadd, 1) := by decide +kernel
theorem dX4_spread_124 : decode cX4_spread 124 = .ok (.iconst 1, 1) := by decide +kernel
theorem dX4_spread_125 : decode cX4_spread 125 = .ok (.bastore, 1) := by decide +kernel
theorem dX4_spread_126 : decode cX4_spread 126 = .ok (.iinc 3 1, 3) := by decide +kernel
theorem dX4_spread_129 : decode cX4_spread 129 = .ok (.goto (-60), 3) := by decide +kernel
theorem dX4_spread_132 : decode cX4_spread 132 = .ok (.iinc 2 1, 3) := by decide +kernel
theorem dX4_spread_135 : decode cX4_spread 135 = .ok (.goto (-76), 3) := by decide +kernel
theorem dX4_spread_138 : decode cX4_spread 138 = .ok (.iconst 0, 1) := by decide +kernel
theorem dX4_spread_139 : decode cX4_spread 139 = .ok (.istore_n 2, 1) := by decide +kernel
theorem dX4_spread_140 : decode cX4_spread 140 = .ok (.iload_n 2, 1) := by decide +kernel
theorem dX4_spread_141 : decode cX4_spread 141 = .ok (.iload_n 1, 1) := by decide +kernel
theorem dX4_spread_142 : decode cX4_spread 142 = .ok (.if_icmp .ge 98, 3) := by decide +kernel
theorem dX4_spread_145 : decode cX4_spread 145 = .ok (.iconst 0, 1) := by decide +kernel
theorem dX4_spread_146 : decode cX4_spread 146 = .ok (.istore_n 3, 1) := by decide +kernel
theorem dX4_spread_147 : decode cX4_spread 147 = .ok (.iload_n 3, 1) := by decide +kernel
theorem dX4_spread_148 : decode cX4_spread 148 = .ok (.iload_n 1, 1) := by decide +kernel
theorem dX4_spread_149 : decode cX4_spread 149 = .ok (.if_icmp .ge 85, 3) := by decide +kernel
theorem dX4_spread_152 : decode cX4_spread 152 = .ok (.iconst 0, 1) := by decide +kernel
theorem dX4_spread_153 : decode cX4_spread 153 = .ok (.istore 4, 2) := by decide +kernel
theorem dX4_spread_155 : decode cX4_spread 155 = .ok (.iload 4, 2) := by decide +kernel
theorem dX4_spread_157 : decode cX4_spread 157 = .ok (.iload_n 1, 1) := by decide +kernel
theorem dX4_spread_158 : decode cX4_spread 158 = .ok (.if_icmp .ge 70, 3) := by decide +kernel
theorem dX4_spread_161 : decode cX4_spread 161 = .ok (.aload_n 0, 1) := by decide +kernel
theorem dX4_spread_162 : decode cX4_spread 162 = .ok (.getfield 23, 3) := by decide +kernel
theorem dX4_spread_165 : decode cX4_spread 165 = .ok (.bipush 60, 2) := by decide +kernel
theorem dX4_spread_167 : decode cX4_spread 167 = .ok (.iload_n 3, 1) := by decide +kernel
theorem dX4_spread_168 : decode cX4_spread 168 = .ok (.imul, 1) := by decide +kernel
theorem dX4_spread_169 : decode cX4_spread 169 = .ok (.iload_n 2, 1) := by decide +kernel
theorem dX4_spread_170 : decode cX4_spread 170 = .ok (.iadd, 1) := by decide +kernel
theorem dX4_spread_171 : decode cX4_spread 171 = .ok (.baload, 1) := by decide +kernel
theorem dX4_spread_172 : decode cX4_spread 172 = .ok (.ifCond .eq 56, 3) := by decide +kernel
theorem dX4_spread_175 : decode cX4_spread 175 = .ok (.aload_n 0, 1) := by decide +kernel
theorem dX4_spread_176 : decode cX4_spread 176 = .ok (.getfield 23, 3) := by decide +kernel
theorem dX4_spread_179 : decode cX4_spread 179 = .ok (.bipush 60, 2) := by decide +kernel
theorem dX4_spread_181 : decode cX4_spread 181 = .ok (.iload_n 3, 1) := by decide +kernel
theorem dX4_spread_182 : decode cX4_spread 182 = .ok (.imul, 1) := by decide +kernel
theorem dX4_spread_183 : decode cX4_spread 183 = .ok (.iload 4, 2) := by decide +kernel
theorem dX4_spread_185 : decode cX4_spread 185 = .ok (.iadd, 1) := by decide +kernel
theorem dX4_spread_186 : decode cX4_spread 186 = .ok (.aload_n 0, 1) := by decide +kernel
theorem dX4_spread_187 : decode cX4_spread 187 = .ok (.getfield 23, 3) := by decide +kernel
theorem dX4_spread_190 : decode cX4_spread 190 = .ok (.bipush 60, 2) := by decide +kernel
theorem dX4_spread_192 : decode cX4_spread 192 = .ok (.iload_n 3, 1) := by decide +kernel
theorem dX4_spread_193 : decode cX4_spread 193 = .ok (.imul, 1) := by decide +kernel
theorem dX4_spread_194 : decode cX4_spread 194 = .ok (.iload 4, 2) := by decide +kernel
theorem dX4_spread_196 : decode cX4_spread 196 = .ok (.iadd, 1) := by decide +kernel
theorem dX4_spread_197 : decode cX4_spread 197 = .ok (.baload, 1) := by decide +kernel
theorem dX4_spread_198 : decode cX4_spread 198 = .ok (.ifCond .ne 18, 3) := by decide +kernel
theorem dX4_spread_201 : decode cX4_spread 201 = .ok (.aload_n 0, 1) := by decide +kernel
theorem dX4_spread_202 : decode cX4_spread 202 = .ok (.getfield 23, 3) := by decide +kernel
theorem dX4_spread_205 : decode cX4_spread 205 = .ok (.bipush 60, 2) := by decide +kernel
theorem dX4_spread_207 : decode cX4_spread 207 = .ok (.iload_n 2, 1) := by decide +kernel
theorem dX4_spread_208 : decode cX4_spread 208 = .ok (.imul, 1) := by decide +kernel
theorem dX4_spread_209 : decode cX4_spread 209 = .ok (.iload 4, 2) := by decide +kernel
theorem dX4_spread_211 : decode cX4_spread 211 = .ok (.iadd, 1) := by decide +kernel
theorem dX4_spread_212 : decode cX4_spread 212 = .ok (.baload, 1) := by decide +kernel
theorem dX4_spread_213 : decode cX4_spread 213 = .ok (.ifCond .eq 7, 3) := by decide +kernel
theorem dX4_spread_216 : decode cX4_spread 216 = .ok (.iconst 1, 1) := by decide +kernel
theorem dX4_spread_217 : decode cX4_spread 217 = .ok (.goto 4, 3) := by decide +kernel
theorem dX4_spread_220 : decode cX4_spread 220 = .ok (.iconst 0, 1) := by decide +kernel
theorem dX4_spread_221 : decode cX4_spread 221 = .ok (.bastore, 1) := by decide +kernel
theorem dX4_spread_222 : decode cX4_spread 222 = .ok (.iinc 4 1, 3) := by decide +kernel
theorem dX4_spread_225 : decode cX4_spread 225 = .ok (.goto (-70), 3) := by decide +kernel
theorem dX4_spread_228 : decode cX4_spread 228 = .ok (.iinc 3 1, 3) := by decide +kernel
theorem dX4_spread_231 : decode cX4_spread 231 = .ok (.goto (-84), 3) := by decide +kernel
theorem dX4_spread_234 : decode cX4_spread 234 = .ok (.iinc 2 1, 3) := by decide +kernel
theorem dX4_spread_237 : decode cX4_spread 237 = .ok (.goto (-97), 3) := by decide +kernel
theorem dX4_spread_240 : decode cX4_spread 240 = .ok (.return_, 1) := by decide +kernel
theorem dX4_together_0 : decode cX4_together 0 = .ok (.aload_n 0, 1) := by decide +kernel
theorem dX4_together_1 : decode cX4_together 1 = .ok (.getfield 23, 3) := by decide +kernel
theorem dX4_together_4 : decode cX4_together 4 = .ok (.bipush 60, 2) := by decide +kernel
theorem dX4_together_6 : decode cX4_together 6 = .ok (.iload_n 1, 1) := by decide +kernel
theorem dX4_together_7 : decode cX4_together 7 = .ok (.imul, 1) := by decide +kernel
theorem dX4_together_8 : decode cX4_together 8 = .ok (.iload_n 2, 1) := by decide +kernel
theorem dX4_together_9 : decode cX4_together 9 = .ok (.iadd, 1) := by decide +kernel
theorem dX4_together_10 : decode cX4_together 10 = .ok (.baload, 1) := by decide +kernel
theorem dX4_together_11 : decode cX4_together 11 = .ok (.ifCond .eq 21, 3) := by decide +kernel
theorem dX4_together_14 : decode cX4_together 14 = .ok (.aload_n 0, 1) := by decide +kernel
theorem dX4_together_15 : decode cX4_together 15 = .ok (.getfield 23, 3) := by decide +kernel
theorem dX4_together_18 : decode cX4_together 18 = .ok (.bipush 60, 2) := by decide +kernel
theorem dX4_together_20 : decode cX4_together 20 = .ok (.iload_n 2, 1) := by decide +kernel
theorem dX4_together_21 : decode cX4_together 21 = .ok (.imul, 1) := by decide +kernel
theorem dX4_together_22 : decode cX4_together 22 = .ok (.iload_n 1, 1) := by decide +kernel
theorem dX4_together_23 : decode cX4_together 23 = .ok (.iadd, 1) := by decide +kernel
theorem dX4_together_24 : decode cX4_together 24 = .ok (.baload, 1) := by decide +kernel
theorem dX4_together_25 : decode cX4_together 25 = .ok (.ifCond .eq 7, 3) := by decide +kernel
theorem dX4_together_28 : decode cX4_together 28 = .ok (.iconst 1, 1) := by decide +kernel
theorem dX4_together_29 : decode cX4_together 29 = .ok (.goto 4, 3) := by decide +kernel
theorem dX4_together_32 : decode cX4_together 32 = .ok (.iconst 0, 1) := by decide +kernel
theorem dX4_together_33 : decode cX4_together 33 = .ok (.ireturn, 1) := by decide +kernel
theorem dX4_isFree_0 : decode cX4_isFree 0 = .ok (.iconst 0, 1) := by decide +kernel
theorem dX4_isFree_1 : decode cX4_isFree 1 = .ok (.istore_n 3, 1) := by decide +kernel
theorem dX4_isFree_2 : decode cX4_isFree 2 = .ok (.iload_n 3, 1) := by decide +kernel
theorem dX4_isFree_3 : decode cX4_isFree 3 = .ok (.iload_n 2, 1) := by decide +kernel
theorem dX4_isFree_4 : decode cX4_isFree 4 = .ok (.if_icmp .ge 48, 3) := by decide +kernel
theorem dX4_isFree_7 : decode cX4_isFree 7 = .ok (.aload_n 0, 1) := by decide +kernel
theorem dX4_isFree_8 : decode cX4_isFree 8 = .ok (.getfield 26, 3) := by decide +kernel
theorem dX4_isFree_11 : decode cX4_isFree 11 = .ok (.iload_n 3, 1) := by decide +kernel
theorem dX4_isFree_12 : decode cX4_isFree 12 = .ok (.iaload, 1) := by decide +kernel
theorem dX4_isFree_13 : decode cX4_isFree 13 = .ok (.ifCond .ge 33, 3) := by decide +kernel
theorem dX4_isFree_16 : decode cX4_isFree 16 = .ok (.aload_n 0, 1) := by decide +kernel
theorem dX4_isFree_17 : decode cX4_isFree 17 = .ok (.getfield 23, 3) := by decide +kernel
theorem dX4_isFree_20 : decode cX4_isFree 20 = .ok (.bipush 60, 2) := by decide +kernel
theorem dX4_isFree_22 : decode cX4_isFree 22 = .ok (.iload_n 1, 1) := by decide +kernel
theorem dX4_isFree_23 : decode cX4_isFree 23 = .ok (.imul, 1) := by decide +kernel
theorem dX4_isFree_24 : decode cX4_isFree 24 = .ok (.iload_n 3, 1) := by decide +kernel
theorem dX4_isFree_25 : decode cX4_isFree 25 = .ok (.iadd, 1) := by decide +kernel
theorem dX4_isFree_26 : decode cX4_isFree 26 = .ok (.baload, 1) := by decide +kernel
theorem dX4_isFree_27 : decode cX4_isFree 27 = .ok (.ifCond .eq 19, 3) := by decide +kernel
theorem dX4_isFree_30 : decode cX4_isFree 30 = .ok (.aload_n 0, 1) := by decide +kernel
theorem dX4_isFree_31 : decode cX4_isFree 31 = .ok (.getfield 23, 3) := by decide +kernel
theorem dX4_isFree_34 : decode cX4_isFree 34 = .ok (.bipush 60, 2) := by decide +kernel
theorem dX4_isFree_36 : decode cX4_isFree 36 = .ok (.iload_n 3, 1) := by decide +kernel
theorem dX4_isFree_37 : decode cX4_isFree 37 = .ok (.imul, 1) := by decide +kernel
theorem dX4_isFree_38 : decode cX4_isFree 38 = .ok (.iload_n 1, 1) := by decide +kernel
theorem dX4_isFree_39 : decode cX4_isFree 39 = .ok (.iadd, 1) := by decide +kernel
theorem dX4_isFree_40 : decode cX4_isFree 40 = .ok (.baload, 1) := by decide +kernel
theorem dX4_isFree_41 : decode cX4_isFree 41 = .ok (.ifCond .ne 5, 3) := by decide +kernel
theorem dX4_isFree_44 : decode cX4_isFree 44 = .ok (.iconst 0, 1) := by decide +kernel
theorem dX4_isFree_45 : decode cX4_isFree 45 = .ok (.ireturn, 1) := by decide +kernel
theorem dX4_isFree_46 : decode cX4_isFree 46 = .ok (.iinc 3 1, 3) := by decide +kernel
theorem dX4_isFree_49 : decode cX4_isFree 49 = .ok (.goto (-47), 3) := by decide +kernel
theorem dX4_isFree_52 : decode cX4_isFree 52 = .ok (.iconst 1, 1) := by decide +kernel
theorem dX4_isFree_53 : decode cX4_isFree 53 = .ok (.ireturn, 1) := by decide +kernel
theorem dX4_number_0 : decode cX4_number 0 = .ok (.aload_n 0, 1) := by decide +kernel
theorem dX4_number_1 : decode cX4_number 1 = .ok (.getfield 45, 3) := by decide +kernel
theorem dX4_number_4 : decode cX4_number 4 = .ok (.aload_n 0, 1) := by decide +kernel
theorem dX4_number_5 : decode cX4_number 5 = .ok (.getfield 57, 3) := by decide +kernel
theorem dX4_number_8 : decode cX4_number 8 = .ok (.iadd, 1) := by decide +kernel
theorem dX4_number_9 : decode cX4_number 9 = .ok (.istore_n 1, 1) := by decide +kernel
theorem dX4_number_10 : decode cX4_number 10 = .ok (.aload_n 0, 1) := by decide +kernel
theorem dX4_number_11 : decode cX4_number 11 = .ok (.invokevirtual 84, 3) := by decide +kernel
theorem dX4_number_14 : decode cX4_number 14 = .ok (.iconst 0, 1) := by decide +kernel
theorem dX4_number_15 : decode cX4_number 15 = .ok (.istore_n 2, 1) := by decide +kernel
theorem dX4_number_16 : decode cX4_number 16 = .ok (.iload_n 2, 1) := by decide +kernel
theorem dX4_number_17 : decode cX4_number 17 = .ok (.iload_n 1, 1) := by decide +kernel
theorem dX4_number_18 : decode cX4_number 18 = .ok (.if_icmp .ge 16, 3) := by decide +kernel
theorem dX4_number_21 : decode cX4_number 21 = .ok (.aload_n 0, 1) := by decide +kernel
theorem dX4_number_22 : decode cX4_number 22 = .ok (.getfield 26, 3) := by decide +kernel
theorem dX4_number_25 : decode cX4_number 25 = .ok (.iload_n 2, 1) := by decide +kernel
theorem dX4_number_26 : decode cX4_number 26 = .ok (.iconst (-1), 1) := by decide +kernel
theorem dX4_number_27 : decode cX4_number 27 = .ok (.iastore, 1) := by decide +kernel
theorem dX4_number_28 : decode cX4_number 28 = .ok (.iinc 2 1, 3) := by decide +kernel
theorem dX4_number_31 : decode cX4_number 31 = .ok (.goto (-15), 3) := by decide +kernel
theorem dX4_number_34 : decode cX4_number 34 = .ok (.aload_n 0, 1) := by decide +kernel
theorem dX4_number_35 : decode cX4_number 35 = .ok (.iconst 0, 1) := by decide +kernel
theorem dX4_number_36 : decode cX4_number 36 = .ok (.putfield 87, 3) := by decide +kernel
theorem dX4_number_39 : decode cX4_number 39 = .ok (.iconst 0, 1) := by decide +kernel
theorem dX4_number_40 : decode cX4_number 40 = .ok (.istore_n 2, 1) := by decide +kernel
theorem dX4_number_41 : decode cX4_number 41 = .ok (.iload_n 2, 1) := by decide +kernel
theorem dX4_number_42 : decode cX4_number 42 = .ok (.ifCond .lt 113, 3) := by decide +kernel
theorem dX4_number_45 : decode cX4_number 45 = .ok (.iconst (-1), 1) := by decide +kernel
theorem dX4_number_46 : decode cX4_number 46 = .ok (.istore_n 2, 1) := by decide +kernel
theorem dX4_number_47 : decode cX4_number 47 = .ok (.iload_n 1, 1) := by decide +kernel
theorem dX4_number_48 : decode cX4_number 48 = .ok (.iconst 1, 1) := by decide +kernel
theorem dX4_number_49 : decode cX4_number 49 = .ok (.isub, 1) := by decide +kernel
theorem dX4_number_50 : decode cX4_number 50 = .ok (.istore_n 3, 1) := by decide +kernel
theorem dX4_number_51 : decode cX4_number 51 = .ok (.iload_n 3, 1) := by decide +kernel
theorem dX4_number_52 : decode cX4_number 52 = .ok (.ifCond .lt 33, 3) := by decide +kernel
theorem dX4_number_55 : decode cX4_number 55 = .ok (.aload_n 0, 1) := by decide +kernel
theorem dX4_number_56 : decode cX4_number 56 = .ok (.getfield 26, 3) := by decide +kernel
theorem dX4_number_59 : decode cX4_number 59 = .ok (.iload_n 3, 1) := by decide +kernel
theorem dX4_number_60 : decode cX4_number 60 = .ok (.iaload, 1) := by decide +kernel
theorem dX4_number_61 : decode cX4_number 61 = .ok (.ifCond .ge 16, 3) := by decide +kernel
theorem dX4_number_64 : decode cX4_number 64 = .ok (.aload_n 0, 1) := by decide +kernel
theorem dX4_number_65 : decode cX4_number 65 = .ok (.iload_n 3, 1) := by decide +kernel
theorem dX4_number_66 : decode cX4_number 66 = .ok (.iload_n 1, 1) := by decide +kernel
theorem dX4_number_67 : decode cX4_number 67 = .ok (.invokevirtual 90, 3) := by decide +kernel
theorem dX4_number_70 : decode cX4_number 70 = .ok (.ifCond .eq 7, 3) := by decide +kernel
theorem dX4_number_73 : decode cX4_number 73 = .ok (.iload_n 3, 1) := by decide +kernel
theorem dX4_number_74 : decode cX4_number 74 = .ok (.goto 4, 3) := by decide +kernel
theorem dX4_number_77 : decode cX4_number 77 = .ok (.iload_n 2, 1) := by decide +kernel
theorem dX4_number_78 : decode cX4_number 78 = .ok (.istore_n 2, 1) := by decide +kernel
theorem dX4_number_79 : decode cX4_number 79 = .ok (.iinc 3 (-1), 3) := by decide +kernel
theorem dX4_number_82 : decode cX4_number 82 = .ok (.goto (-31), 3) := by decide +kernel
theorem dX4_number_85 : decode cX4_number 85 = .ok (.iload_n 2, 1) := by decide +kernel
theorem dX4_number_86 : decode cX4_number 86 = .ok (.ifCond .ge 6, 3) := by decide +kernel
theorem dX4_number_89 : decode cX4_number 89 = .ok (.goto (-48), 3) := by decide +kernel
theorem dX4_number_92 : decode cX4_number 92 = .ok (.iconst 0, 1) := by decide +kernel
theorem dX4_number_93 : decode cX4_number 93 = .ok (.istore_n 3, 1) := by decide +kernel
theorem dX4_number_94 : decode cX4_number 94 = .ok (.iload_n 3, 1) := by decide +kernel
theorem dX4_number_95 : decode cX4_number 95 = .ok (.iload_n 1, 1) := by decide +kernel
theorem dX4_number_96 : decode cX4_number 96 = .ok (.if_icmp .ge 46, 3) := by decide +kernel
theorem dX4_number_99 : decode cX4_number 99 = .ok (.aload_n 0, 1) := by decide +kernel
theorem dX4_number_100 : decode cX4_number 100 = .ok (.getfield 26, 3) := by decide +kernel
theorem dX4_number_103 : decode cX4_number 103 = .ok (.iload_n 3, 1) := by decide +kernel
theorem dX4_number_104 : decode cX4_number 104 = .ok (.aload_n 0, 1) := by decide +kernel
theorem dX4_number_105 : decode cX4_number 105 = .ok (.getfield 26, 3) := by decide +kernel
theorem dX4_number_108 : decode cX4_number 108 = .ok (.iload_n 3, 1) := by decide +kernel
theorem dX4_number_109 : decode cX4_number 109 = .ok (.iaload, 1) := by decide +kernel
theorem dX4_number_110 : decode cX4_number 110 = .ok (.ifCond .ge 19, 3) := by decide +kernel
theorem dX4_number_113 : decode cX4_number 113 = .ok (.aload_n 0, 1) := by decide +kernel
theorem dX4_number_114 : decode cX4_number 114 = .ok (.iload_n 2, 1) := by decide +kernel
theorem dX4_number_115 : decode cX4_number 115 = .ok (.iload_n 3, 1) := by decide +kernel
theorem dX4_number_116 : decode cX4_number 116 = .ok (.invokevirtual 93, 3) := by decide +kernel
theorem dX4_number_119 : decode cX4_number 119 = .ok (.ifCond .eq 10, 3) := by decide +kernel
theorem dX4_number_122 : decode cX4_number 122 = .ok (.aload_n 0, 1) := by decide +kernel
theorem dX4_number_123 : decode cX4_number 123 = .ok (.getfield 87, 3) := by decide +kernel
theorem dX4_number_126 : decode cX4_number 126 = .ok (.goto 9, 3) := by decide +kernel
theorem dX4_number_129 : decode cX4_number 129 = .ok (.aload_n 0, 1) := by decide +kernel
theorem dX4_number_130 : decode cX4_number 130 = .ok (.getfield 26, 3) := by decide +kernel
theorem dX4_number_133 : decode cX4_number 133 = .ok (.iload_n 3, 1) := by decide +kernel
theorem dX4_number_134 : decode cX4_number 134 = .ok (.iaload, 1) := by decide +kernel
theorem dX4_number_135 : decode cX4_number 135 = .ok (.iastore, 1) := by decide +kernel
theorem dX4_number_136 : decode cX4_number 136 = .ok (.iinc 3 1, 3) := by decide +kernel
theorem dX4_number_139 : decode cX4_number 139 = .ok (.goto (-45), 3) := by decide +kernel
theorem dX4_number_142 : decode cX4_number 142 = .ok (.aload_n 0, 1) := by decide +kernel
theorem dX4_number_143 : decode cX4_number 143 = .ok (.dup, 1) := by decide +kernel
theorem dX4_number_144 : decode cX4_number 144 = .ok (.getfield 87, 3) := by decide +kernel
theorem dX4_number_147 : decode cX4_number 147 = .ok (.iconst 1, 1) := by decide +kernel
theorem dX4_number_148 : decode cX4_number 148 = .ok (.iadd, 1) := by decide +kernel
theorem dX4_number_149 : decode cX4_number 149 = .ok (.putfield 87, 3) := by decide +kernel
theorem dX4_number_152 : decode cX4_number 152 = .ok (.goto (-111), 3) := by decide +kernel
theorem dX4_number_155 : decode cX4_number 155 = .ok (.return_, 1) := by decide +kernel
theorem dX4_layers_0 : decode cX4_layers 0 = .ok (.aload_n 0, 1) := by decide +kernel
theorem dX4_layers_1 : decode cX4_layers 1 = .ok (.aload_n 0, 1) := by decide +kernel
theorem dX4_layers_2 : decode cX4_layers 2 = .ok (.getfield 57, 3) := by decide +kernel
theorem dX4_layers_5 : decode cX4_layers 5 = .ok (.ifCond .ne 7, 3) := by decide +kernel
theorem dX4_layers_8 : decode cX4_layers 8 = .ok (.iconst 1, 1) := by decide +kernel
theorem dX4_layers_9 : decode cX4_layers 9 = .ok (.goto 4, 3) := by decide +kernel
theorem dX4_layers_12 : decode cX4_layers 12 = .ok (.iconst 0, 1) := by decide +kernel
theorem dX4_layers_13 : decode cX4_layers 13 = .ok (.putfield 42, 3) := by decide +kernel
theorem dX4_layers_16 : decode cX4_layers 16 = .ok (.aload_n 0, 1) := by decide +kernel
theorem dX4_layers_17 : decode cX4_layers 17 = .ok (.getfield 42, 3) := by decide +kernel
theorem dX4_layers_20 : decode cX4_layers 20 = .ok (.ifCond .eq 5, 3) := by decide +kernel
theorem dX4_layers_23 : decode cX4_layers 23 = .ok (.iconst 0, 1) := by decide +kernel
theorem dX4_layers_24 : decode cX4_layers 24 = .ok (.ireturn, 1) := by decide +kernel
theorem dX4_layers_25 : decode cX4_layers 25 = .ok (.aload_n 0, 1) := by decide +kernel
theorem dX4_layers_26 : decode cX4_layers 26 = .ok (.invokevirtual 96, 3) := by decide +kernel
theorem dX4_layers_29 : decode cX4_layers 29 = .ok (.aload_n 0, 1) := by decide +kernel
theorem dX4_layers_30 : decode cX4_layers 30 = .ok (.getfield 87, 3) := by decide +kernel
theorem dX4_layers_33 : decode cX4_layers 33 = .ok (.ireturn, 1) := by decide +kernel
theorem dX4_layer_0 : decode cX4_layer 0 = .ok (.aload_n 0, 1) := by decide +kernel
theorem dX4_layer_1 : decode cX4_layer 1 = .ok (.iload_n 1, 1) := by decide +kernel
theorem dX4_layer_2 : decode cX4_layer 2 = .ok (.invokevirtual 76, 3) := by decide +kernel
theorem dX4_layer_5 : decode cX4_layer 5 = .ok (.istore_n 2, 1) := by decide +kernel
theorem dX4_layer_6 : decode cX4_layer 6 = .ok (.aload_n 0, 1) := by decide +kernel
theorem dX4_layer_7 : decode cX4_layer 7 = .ok (.aload_n 0, 1) := by decide +kernel
theorem dX4_layer_8 : decode cX4_layer 8 = .ok (.getfield 57, 3) := by decide +kernel
theorem dX4_layer_11 : decode cX4_layer 11 = .ok (.ifCond .ne 7, 3) := by decide +kernel
theorem dX4_layer_14 : decode cX4_layer 14 = .ok (.iconst 1, 1) := by decide +kernel
theorem dX4_layer_15 : decode cX4_layer 15 = .ok (.goto 12, 3) := by decide +kernel
theorem dX4_layer_18 : decode cX4_layer 18 = .ok (.iload_n 2, 1) := by decide +kernel
theorem dX4_layer_19 : decode cX4_layer 19 = .ok (.ifCond .ge 7, 3) := by decide +kernel
theorem dX4_layer_22 : decode cX4_layer 22 = .ok (.iconst 2, 1) := by decide +kernel
theorem dX4_layer_23 : decode cX4_layer 23 = .ok (.goto 4, 3) := by decide +kernel
theorem dX4_layer_26 : decode cX4_layer 26 = .ok (.iconst 0, 1) := by decide +kernel
theorem dX4_layer_27 : decode cX4_layer 27 = .ok (.putfield 42, 3) := by decide +kernel
theorem dX4_layer_30 : decode cX4_layer 30 = .ok (.aload_n 0, 1) := by decide +kernel
theorem dX4_layer_31 : decode cX4_layer 31 = .ok (.getfield 42, 3) := by decide +kernel
theorem dX4_layer_34 : decode cX4_layer 34 = .ok (.ifCond .eq 5, 3) := by decide +kernel
theorem dX4_layer_37 : decode cX4_layer 37 = .ok (.iconst 0, 1) := by decide +kernel
theorem dX4_layer_38 : decode cX4_layer 38 = .ok (.ireturn, 1) := by decide +kernel
theorem dX4_layer_39 : decode cX4_layer 39 = .ok (.aload_n 0, 1) := by decide +kernel
theorem dX4_layer_40 : decode cX4_layer 40 = .ok (.invokevirtual 96, 3) := by decide +kernel
theorem dX4_layer_43 : decode cX4_layer 43 = .ok (.aload_n 0, 1) := by decide +kernel
theorem dX4_layer_44 : decode cX4_layer 44 = .ok (.getfield 26, 3) := by decide +kernel
theorem dX4_layer_47 : decode cX4_layer 47 = .ok (.iload_n 2, 1) := by decide +kernel
theorem dX4_layer_48 : decode cX4_layer 48 = .ok (.iaload, 1) := by decide +kernel
theorem dX4_layer_49 : decode cX4_layer 49 = .ok (.ireturn, 1) := by decide +kernel
theorem dX4_sameEnds_0 : decode cX4_sameEnds 0 = .ok (.iconst 1, 1) := by decide +kernel
theorem dX4_sameEnds_1 : decode cX4_sameEnds 1 = .ok (.istore_n 3, 1) := by decide +kernel
theorem dX4_sameEnds_2 : decode cX4_sameEnds 2 = .ok (.iconst 0, 1) := by decide +kernel
theorem dX4_sameEnds_3 : decode cX4_sameEnds 3 = .ok (.istore 4, 2) := by decide +kernel
theorem dX4_sameEnds_5 : decode cX4_sameEnds 5 = .ok (.iload 4, 2) := by decide +kernel
theorem dX4_sameEnds_7 : decode cX4_sameEnds 7 = .ok (.aload_n 0, 1) := by decide +kernel
theorem dX4_sameEnds_8 : decode cX4_sameEnds 8 = .ok (.getfield 57, 3) := by decide +kernel
theorem dX4_sameEnds_11 : decode cX4_sameEnds 11 = .ok (.if_icmp .ge 46, 3) := by decide +kernel
theorem dX4_sameEnds_14 : decode cX4_sameEnds 14 = .ok (.iload_n 3, 1) := by decide +kernel
theorem dX4_sameEnds_15 : decode cX4_sameEnds 15 = .ok (.ifCond .eq 34, 3) := by decide +kernel
theorem dX4_sameEnds_18 : decode cX4_sameEnds 18 = .ok (.aload_n 0, 1) := by decide +kernel
theorem dX4_sameEnds_19 : decode cX4_sameEnds 19 = .ok (.getfield 20, 3) := by decide +kernel
theorem dX4_sameEnds_22 : decode cX4_sameEnds 22 = .ok (.bipush 30, 2) := by decide +kernel
theorem dX4_sameEnds_24 : decode cX4_sameEnds 24 = .ok (.iload 4, 2) := by decide +kernel
theorem dX4_sameEnds_26 : decode cX4_sameEnds 26 = .ok (.imul, 1) := by decide +kernel
theorem dX4_sameEnds_27 : decode cX4_sameEnds 27 = .ok (.iload_n 1, 1) := by decide +kernel
theorem dX4_sameEnds_28 : decode cX4_sameEnds 28 = .ok (.iadd, 1) := by decide +kernel
theorem dX4_sameEnds_29 : decode cX4_sameEnds 29 = .ok (.baload, 1) := by decide +kernel
theorem dX4_sameEnds_30 : decode cX4_sameEnds 30 = .ok (.aload_n 0, 1) := by decide +kernel
theorem dX4_sameEnds_31 : decode cX4_sameEnds 31 = .ok (.getfield 20, 3) := by decide +kernel
theorem dX4_sameEnds_34 : decode cX4_sameEnds 34 = .ok (.bipush 30, 2) := by decide +kernel
theorem dX4_sameEnds_36 : decode cX4_sameEnds 36 = .ok (.iload 4, 2) := by decide +kernel
theorem dX4_sameEnds_38 : decode cX4_sameEnds 38 = .ok (.imul, 1) := by decide +kernel
theorem dX4_sameEnds_39 : decode cX4_sameEnds 39 = .ok (.iload_n 2, 1) := by decide +kernel
theorem dX4_sameEnds_40 : decode cX4_sameEnds 40 = .ok (.iadd, 1) := by decide +kernel
theorem dX4_sameEnds_41 : decode cX4_sameEnds 41 = .ok (.baload, 1) := by decide +kernel
theorem dX4_sameEnds_42 : decode cX4_sameEnds 42 = .ok (.if_icmp .ne 7, 3) := by decide +kernel
theorem dX4_sameEnds_45 : decode cX4_sameEnds 45 = .ok (.iconst 1, 1) := by decide +kernel
theorem dX4_sameEnds_46 : decode cX4_sameEnds 46 = .ok (.goto 4, 3) := by decide +kernel
theorem dX4_sameEnds_49 : decode cX4_sameEnds 49 = .ok (.iconst 0, 1) := by decide +kernel
theorem dX4_sameEnds_50 : decode cX4_sameEnds 50 = .ok (.istore_n 3, 1) := by decide +kernel
theorem dX4_sameEnds_51 : decode cX4_sameEnds 51 = .ok (.iinc 4 1, 3) := by decide +kernel
theorem dX4_sameEnds_54 : decode cX4_sameEnds 54 = .ok (.goto (-49), 3) := by decide +kernel
theorem dX4_sameEnds_57 : decode cX4_sameEnds 57 = .ok (.iload_n 3, 1) := by decide +kernel
theorem dX4_sameEnds_58 : decode cX4_sameEnds 58 = .ok (.ireturn, 1) := by decide +kernel
theorem dX4_samePicks_0 : decode cX4_samePicks 0 = .ok (.iconst 1, 1) := by decide +kernel
theorem dX4_samePicks_1 : decode cX4_samePicks 1 = .ok (.istore_n 3, 1) := by decide +kernel
theorem dX4_samePicks_2 : decode cX4_samePicks 2 = .ok (.iconst 0, 1) := by decide +kernel
theorem dX4_samePicks_3 : decode cX4_samePicks 3 = .ok (.istore 4, 2) := by decide +kernel
theorem dX4_samePicks_5 : decode cX4_samePicks 5 = .ok (.iload 4, 2) := by decide +kernel
theorem dX4_samePicks_7 : decode cX4_samePicks 7 = .ok (.aload_n 0, 1) := by decide +kernel
theorem dX4_samePicks_8 : decode cX4_samePicks 8 = .ok (.getfield 45, 3) := by decide +kernel
theorem dX4_samePicks_11 : decode cX4_samePicks 11 = .ok (.if_icmp .ge 46, 3) := by decide +kernel
theorem dX4_samePicks_14 : decode cX4_samePicks 14 = .ok (.iload_n 3, 1) := by decide +kernel
theorem dX4_samePicks_15 : decode cX4_samePicks 15 = .ok (.ifCond .eq 34, 3) := by decide +kernel
theorem dX4_samePicks_18 : decode cX4_samePicks 18 = .ok (.aload_n 0, 1) := by decide +kernel
theorem dX4_samePicks_19 : decode cX4_samePicks 19 = .ok (.getfield 20, 3) := by decide +kernel
theorem dX4_samePicks_22 : decode cX4_samePicks 22 = .ok (.bipush 30, 2) := by decide +kernel
theorem dX4_samePicks_24 : decode cX4_samePicks 24 = .ok (.iload_n 1, 1) := by decide +kernel
theorem dX4_samePicks_25 : decode cX4_samePicks 25 = .ok (.imul, 1) := by decide +kernel
theorem dX4_samePicks_26 : decode cX4_samePicks 26 = .ok (.iload 4, 2) := by decide +kernel
theorem dX4_samePicks_28 : decode cX4_samePicks 28 = .ok (.iadd, 1) := by decide +kernel
theorem dX4_samePicks_29 : decode cX4_samePicks 29 = .ok (.baload, 1) := by decide +kernel
theorem dX4_samePicks_30 : decode cX4_samePicks 30 = .ok (.aload_n 0, 1) := by decide +kernel
theorem dX4_samePicks_31 : decode cX4_samePicks 31 = .ok (.getfield 20, 3) := by decide +kernel
theorem dX4_samePicks_34 : decode cX4_samePicks 34 = .ok (.bipush 30, 2) := by decide +kernel
theorem dX4_samePicks_36 : decode cX4_samePicks 36 = .ok (.iload_n 2, 1) := by decide +kernel
theorem dX4_samePicks_37 : decode cX4_samePicks 37 = .ok (.imul, 1) := by decide +kernel
theorem dX4_samePicks_38 : decode cX4_samePicks 38 = .ok (.iload 4, 2) := by decide +kernel
theorem dX4_samePicks_40 : decode cX4_samePicks 40 = .ok (.iadd, 1) := by decide +kernel
theorem dX4_samePicks_41 : decode cX4_samePicks 41 = .ok (.baload, 1) := by decide +kernel
theorem dX4_samePicks_42 : decode cX4_samePicks 42 = .ok (.if_icmp .ne 7, 3) := by decide +kernel
theorem dX4_samePicks_45 : decode cX4_samePicks 45 = .ok (.iconst 1, 1) := by decide +kernel
theorem dX4_samePicks_46 : decode cX4_samePicks 46 = .ok (.goto 4, 3) := by decide +kernel
theorem dX4_samePicks_49 : decode cX4_samePicks 49 = .ok (.iconst 0, 1) := by decide +kernel
theorem dX4_samePicks_50 : decode cX4_samePicks 50 = .ok (.istore_n 3, 1) := by decide +kernel
theorem dX4_samePicks_51 : decode cX4_samePicks 51 = .ok (.iinc 4 1, 3) := by decide +kernel
theorem dX4_samePicks_54 : decode cX4_samePicks 54 = .ok (.goto (-49), 3) := by decide +kernel
theorem dX4_samePicks_57 : decode cX4_samePicks 57 = .ok (.iload_n 3, 1) := by decide +kernel
theorem dX4_samePicks_58 : decode cX4_samePicks 58 = .ok (.ireturn, 1) := by decide +kernel
theorem dX4_period_0 : decode cX4_period 0 = .ok (.aload_n 0, 1) := by decide +kernel
theorem dX4_period_1 : decode cX4_period 1 = .ok (.aload_n 0, 1) := by decide +kernel
theorem dX4_period_2 : decode cX4_period 2 = .ok (.getfield 57, 3) := by decide +kernel
theorem dX4_period_5 : decode cX4_period 5 = .ok (.ifCond .ne 7, 3) := by decide +kernel
theorem dX4_period_8 : decode cX4_period 8 = .ok (.iconst 1, 1) := by decide +kernel
theorem dX4_period_9 : decode cX4_period 9 = .ok (.goto 4, 3) := by decide +kernel
theorem dX4_period_12 : decode cX4_period 12 = .ok (.iconst 0, 1) := by decide +kernel
theorem dX4_period_13 : decode cX4_period 13 = .ok (.putfield 42, 3) := by decide +kernel
theorem dX4_period_16 : decode cX4_period 16 = .ok (.aload_n 0, 1) := by decide +kernel
theorem dX4_period_17 : decode cX4_period 17 = .ok (.getfield 42, 3) := by decide +kernel
theorem dX4_period_20 : decode cX4_period 20 = .ok (.ifCond .eq 5, 3) := by decide +kernel
theorem dX4_period_23 : decode cX4_period 23 = .ok (.iconst 0, 1) := by decide +kernel
theorem dX4_period_24 : decode cX4_period 24 = .ok (.ireturn, 1) := by decide +kernel
theorem dX4_period_25 : decode cX4_period 25 = .ok (.iload_n 1, 1) := by decide +kernel
theorem dX4_period_26 : decode cX4_period 26 = .ok (.ifCond .eq 10, 3) := by decide +kernel
theorem dX4_period_29 : decode cX4_period 29 = .ok (.aload_n 0, 1) := by decide +kernel
theorem dX4_period_30 : decode cX4_period 30 = .ok (.getfield 57, 3) := by decide +kernel
theorem dX4_period_33 : decode cX4_period 33 = .ok (.goto 7, 3) := by decide +kernel
theorem dX4_period_36 : decode cX4_period 36 = .ok (.aload_n 0, 1) := by decide +kernel
theorem dX4_period_37 : decode cX4_period 37 = .ok (.getfield 45, 3) := by decide +kernel
theorem dX4_period_40 : decode cX4_period 40 = .ok (.istore_n 2, 1) := by decide +kernel
theorem dX4_period_41 : decode cX4_period 41 = .ok (.iconst 1, 1) := by decide +kernel
theorem dX4_period_42 : decode cX4_period 42 = .ok (.istore_n 3, 1) := by decide +kernel
theorem dX4_period_43 : decode cX4_period 43 = .ok (.iconst 0, 1) := by decide +kernel
theorem dX4_period_44 : decode cX4_period 44 = .ok (.istore 4, 2) := by decide +kernel
theorem dX4_period_46 : decode cX4_period 46 = .ok (.iload 4, 2) := by decide +kernel
theorem dX4_period_48 : decode cX4_period 48 = .ok (.ifCond .ne 89, 3) := by decide +kernel
theorem dX4_period_51 : decode cX4_period 51 = .ok (.iload_n 3, 1) := by decide +kernel
theorem dX4_period_52 : decode cX4_period 52 = .ok (.iload_n 2, 1) := by decide +kernel
theorem dX4_period_53 : decode cX4_period 53 = .ok (.if_icmp .ge 84, 3) := by decide +kernel
theorem dX4_period_56 : decode cX4_period 56 = .ok (.iconst 1, 1) := by decide +kernel
theorem dX4_period_57 : decode cX4_period 57 = .ok (.istore 4, 2) := by decide +kernel
theorem dX4_period_59 : decode cX4_period 59 = .ok (.iconst 0, 1) := by decide +kernel
theorem dX4_period_60 : decode cX4_period 60 = .ok (.istore 5, 2) := by decide +kernel
theorem dX4_period_62 : decode cX4_period 62 = .ok (.iload 5, 2) := by decide +kernel
theorem dX4_period_64 : decode cX4_period 64 = .ok (.iload_n 3, 1) := by decide +kernel
theorem dX4_period_65 : decode cX4_period 65 = .ok (.iadd, 1) := by decide +kernel
theorem dX4_period_66 : decode cX4_period 66 = .ok (.iload_n 2, 1) := by decide +kernel
theorem dX4_period_67 : decode cX4_period 67 = .ok (.if_icmp .ge 54, 3) := by decide +kernel
theorem dX4_period_70 : decode cX4_period 70 = .ok (.iload 4, 2) := by decide +kernel
theorem dX4_period_72 : decode cX4_period 72 = .ok (.ifCond .eq 40, 3) := by decide +kernel
theorem dX4_period_75 : decode cX4_period 75 = .ok (.iload_n 1, 1) := by decide +kernel
theorem dX4_period_76 : decode cX4_period 76 = .ok (.ifCond .eq 19, 3) := by decide +kernel
theorem dX4_period_79 : decode cX4_period 79 = .ok (.aload_n 0, 1) := by decide +kernel
theorem dX4_period_80 : decode cX4_period 80 = .ok (.iload 5, 2) := by decide +kernel
theorem dX4_period_82 : decode cX4_period 82 = .ok (.iload 5, 2) := by decide +kernel
theorem dX4_period_84 : decode cX4_period 84 = .ok (.iload_n 3, 1) := by decide +kernel
theorem dX4_period_85 : decode cX4_period 85 = .ok (.iadd, 1) := by decide +kernel
theorem dX4_period_86 : decode cX4_period 86 = .ok (.invokevirtual 99, 3) := by decide +kernel
theorem dX4_period_89 : decode cX4_period 89 = .ok (.ifCond .eq 23, 3) := by decide +kernel
theorem dX4_period_92 : decode cX4_period 92 = .ok (.goto 16, 3) := by decide +kernel
theorem dX4_period_95 : decode cX4_period 95 = .ok (.aload_n 0, 1) := by decide +kernel
theorem dX4_period_96 : decode cX4_period 96 = .ok (.iload 5, 2) := by decide +kernel
theorem dX4_period_98 : decode cX4_period 98 = .ok (.iload 5, 2) := by decide +kernel
theorem dX4_period_100 : decode cX4_period 100 = .ok (.iload_n 3, 1) := by decide +kernel
theorem dX4_period_101 : decode cX4_period 101 = .ok (.iadd, 1) := by decide +kernel
theorem dX4_period_102 : decode cX4_period 102 = .ok (.invokevirtual 102, 3) := by decide +kernel
theorem dX4_period_105 : decode cX4_period 105 = .ok (.ifCond .eq 7, 3) := by decide +kernel
theorem dX4_period_108 : decode cX4_period 108 = .ok (.iconst 1, 1) := by decide +kernel
theorem dX4_period_109 : decode cX4_period 109 = .ok (.goto 4, 3) := by decide +kernel
theorem dX4_period_112 : decode cX4_period 112 = .ok (.iconst 0, 1) := by decide +kernel
theorem dX4_period_113 : decode cX4_period 113 = .ok (.istore 4, 2) := by decide +kernel
theorem dX4_period_115 : decode cX4_period 115 = .ok (.iinc 5 1, 3) := by decide +kernel
theorem dX4_period_118 : decode cX4_period 118 = .ok (.goto (-56), 3) := by decide +kernel
theorem dX4_period_121 : decode cX4_period 121 = .ok (.iload 4, 2) := by decide +kernel
theorem dX4_period_123 : decode cX4_period 123 = .ok (.ifCond .eq 7, 3) := by decide +kernel
theorem dX4_period_126 : decode cX4_period 126 = .ok (.iload_n 3, 1) := by decide +kernel
theorem dX4_period_127 : decode cX4_period 127 = .ok (.goto 6, 3) := by decide +kernel
theorem dX4_period_130 : decode cX4_period 130 = .ok (.iload_n 3, 1) := by decide +kernel
theorem dX4_period_131 : decode cX4_period 131 = .ok (.iconst 1, 1) := by decide +kernel
theorem dX4_period_132 : decode cX4_period 132 = .ok (.iadd, 1) := by decide +kernel
theorem dX4_period_133 : decode cX4_period 133 = .ok (.istore_n 3, 1) := by decide +kernel
theorem dX4_period_134 : decode cX4_period 134 = .ok (.goto (-88), 3) := by decide +kernel
theorem dX4_period_137 : decode cX4_period 137 = .ok (.iload_n 3, 1) := by decide +kernel
theorem dX4_period_138 : decode cX4_period 138 = .ok (.ireturn, 1) := by decide +kernel
theorem dX4_picture_0 : decode cX4_picture 0 = .ok (.aload_n 0, 1) := by decide +kernel
theorem dX4_picture_1 : decode cX4_picture 1 = .ok (.iload_n 1, 1) := by decide +kernel
theorem dX4_picture_2 : decode cX4_picture 2 = .ok (.iconst 1, 1) := by decide +kernel
theorem dX4_picture_3 : decode cX4_picture 3 = .ok (.if_icmp .lt 20, 3) := by decide +kernel
theorem dX4_picture_6 : decode cX4_picture 6 = .ok (.iload_n 1, 1) := by decide +kernel
theorem dX4_picture_7 : decode cX4_picture 7 = .ok (.bipush 30, 2) := by decide +kernel
theorem dX4_picture_9 : decode cX4_picture 9 = .ok (.if_icmp .gt 14, 3) := by decide +kernel
theorem dX4_picture_12 : decode cX4_picture 12 = .ok (.iload_n 2, 1) := by decide +kernel
theorem dX4_picture_13 : decode cX4_picture 13 = .ok (.iconst 1, 1) := by decide +kernel
theorem dX4_picture_14 : decode cX4_picture 14 = .ok (.if_icmp .lt 9, 3) := by decide +kernel
theorem dX4_picture_17 : decode cX4_picture 17 = .ok (.iload_n 2, 1) := by decide +kernel
theorem dX4_picture_18 : decode cX4_picture 18 = .ok (.bipush 30, 2) := by decide +kernel
theorem dX4_picture_20 : decode cX4_picture 20 = .ok (.if_icmp .le 7, 3) := by decide +kernel
theorem dX4_picture_23 : decode cX4_picture 23 = .ok (.iconst 1, 1) := by decide +kernel
theorem dX4_picture_24 : decode cX4_picture 24 = .ok (.goto 4, 3) := by decide +kernel
theorem dX4_picture_27 : decode cX4_picture 27 = .ok (.iconst 0, 1) := by decide +kernel
theorem dX4_picture_28 : decode cX4_picture 28 = .ok (.putfield 42, 3) := by decide +kernel
theorem dX4_picture_31 : decode cX4_picture 31 = .ok (.aload_n 0, 1) := by decide +kernel
theorem dX4_picture_32 : decode cX4_picture 32 = .ok (.getfield 42, 3) := by decide +kernel
theorem dX4_picture_35 : decode cX4_picture 35 = .ok (.ifCond .eq 4, 3) := by decide +kernel
theorem dX4_picture_38 : decode cX4_picture 38 = .ok (.return_, 1) := by decide +kernel
theorem dX4_picture_39 : decode cX4_picture 39 = .ok (.aload_n 0, 1) := by decide +kernel
theorem dX4_picture_40 : decode cX4_picture 40 = .ok (.iload_n 1, 1) := by decide +kernel
theorem dX4_picture_41 : decode cX4_picture 41 = .ok (.putfield 29, 3) := by decide +kernel
theorem dX4_picture_44 : decode cX4_picture 44 = .ok (.aload_n 0, 1) := by decide +kernel
theorem dX4_picture_45 : decode cX4_picture 45 = .ok (.iload_n 2, 1) := by decide +kernel
theorem dX4_picture_46 : decode cX4_picture 46 = .ok (.putfield 33, 3) := by decide +kernel
theorem dX4_picture_49 : decode cX4_picture 49 = .ok (.iconst 0, 1) := by decide +kernel
theorem dX4_picture_50 : decode cX4_picture 50 = .ok (.istore_n 3, 1) := by decide +kernel
theorem dX4_picture_51 : decode cX4_picture 51 = .ok (.iload_n 3, 1) := by decide +kernel
theorem dX4_picture_52 : decode cX4_picture 52 = .ok (.sipush 900, 3) := by decide +kernel
theorem dX4_picture_55 : decode cX4_picture 55 = .ok (.if_icmp .ge 16, 3) := by decide +kernel
theorem dX4_picture_58 : decode cX4_picture 58 = .ok (.aload_n 0, 1) := by decide +kernel
theorem dX4_picture_59 : decode cX4_picture 59 = .ok (.getfield 36, 3) := by decide +kernel
theorem dX4_picture_62 : decode cX4_picture 62 = .ok (.iload_n 3, 1) := by decide +kernel
theorem dX4_picture_63 : decode cX4_picture 63 = .ok (.iconst 0, 1) := by decide +kernel
theorem dX4_picture_64 : decode cX4_picture 64 = .ok (.bastore, 1) := by decide +kernel
theorem dX4_picture_65 : decode cX4_picture 65 = .ok (.iinc 3 1, 3) := by decide +kernel
theorem dX4_picture_68 : decode cX4_picture 68 = .ok (.goto (-17), 3) := by decide +kernel
theorem dX4_picture_71 : decode cX4_picture 71 = .ok (.return_, 1) := by decide +kernel
theorem dX4_paint_0 : decode cX4_paint 0 = .ok (.aload_n 0, 1) := by decide +kernel
theorem dX4_paint_1 : decode cX4_paint 1 = .ok (.iload_n 1, 1) := by decide +kernel
theorem dX4_paint_2 : decode cX4_paint 2 = .ok (.ifCond .lt 23, 3) := by decide +kernel
theorem dX4_paint_5 : decode cX4_paint 5 = .ok (.iload_n 1, 1) := by decide +kernel
theorem dX4_paint_6 : decode cX4_paint 6 = .ok (.aload_n 0, 1) := by decide +kernel
theorem dX4_paint_7 : decode cX4_paint 7 = .ok (.getfield 29, 3) := by decide +kernel
theorem dX4_paint_10 : decode cX4_paint 10 = .ok (.if_icmp .ge 15, 3) := by decide +kernel
theorem dX4_paint_13 : decode cX4_paint 13 = .ok (.iload_n 2, 1) := by decide +kernel
theorem dX4_paint_14 : decode cX4_paint 14 = .ok (.ifCond .lt 11, 3) := by decide +kernel
theorem dX4_paint_17 : decode cX4_paint 17 = .ok (.iload_n 2, 1) := by decide +kernel
theorem dX4_paint_18 : decode cX4_paint 18 = .ok (.aload_n 0, 1) := by decide +kernel
theorem dX4_paint_19 : decode cX4_paint 19 = .ok (.getfield 33, 3) := by decide +kernel
theorem dX4_paint_22 : decode cX4_paint 22 = .ok (.if_icmp .lt 7, 3) := by decide +kernel
theorem dX4_paint_25 : decode cX4_paint 25 = .ok (.iconst 1, 1) := by decide +kernel
theorem dX4_paint_26 : decode cX4_paint 26 = .ok (.goto 4, 3) := by decide +kernel
theorem dX4_paint_29 : decode cX4_paint 29 = .ok (.iconst 0, 1) := by decide +kernel
