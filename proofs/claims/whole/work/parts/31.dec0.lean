theorem dX0_init_0 : decode cX0_init 0 = .ok (.aload_n 0, 1) := by decide +kernel
theorem dX0_init_1 : decode cX0_init 1 = .ok (.invokespecial 3, 3) := by decide +kernel
theorem dX0_init_4 : decode cX0_init 4 = .ok (.aload_n 0, 1) := by decide +kernel
theorem dX0_init_5 : decode cX0_init 5 = .ok (.bipush 30, 2) := by decide +kernel
theorem dX0_init_7 : decode cX0_init 7 = .ok (.newarray .int, 2) := by decide +kernel
theorem dX0_init_9 : decode cX0_init 9 = .ok (.putfield 9, 3) := by decide +kernel
theorem dX0_init_12 : decode cX0_init 12 = .ok (.return_, 1) := by decide +kernel
theorem dX0_stretch_0 : decode cX0_stretch 0 = .ok (.aload_n 0, 1) := by decide +kernel
theorem dX0_stretch_1 : decode cX0_stretch 1 = .ok (.iload_n 1, 1) := by decide +kernel
theorem dX0_stretch_2 : decode cX0_stretch 2 = .ok (.putfield 15, 3) := by decide +kernel
theorem dX0_stretch_5 : decode cX0_stretch 5 = .ok (.aload_n 0, 1) := by decide +kernel
theorem dX0_stretch_6 : decode cX0_stretch 6 = .ok (.iload_n 2, 1) := by decide +kernel
theorem dX0_stretch_7 : decode cX0_stretch 7 = .ok (.putfield 19, 3) := by decide +kernel
theorem dX0_stretch_10 : decode cX0_stretch 10 = .ok (.aload_n 0, 1) := by decide +kernel
theorem dX0_stretch_11 : decode cX0_stretch 11 = .ok (.getfield 9, 3) := by decide +kernel
theorem dX0_stretch_14 : decode cX0_stretch 14 = .ok (.iconst 0, 1) := by decide +kernel
theorem dX0_stretch_15 : decode cX0_stretch 15 = .ok (.invokestatic 22, 3) := by decide +kernel
theorem dX0_stretch_18 : decode cX0_stretch 18 = .ok (.return_, 1) := by decide +kernel
theorem dX0_throwPick_0 : decode cX0_throwPick 0 = .ok (.aload_n 0, 1) := by decide +kernel
theorem dX0_throwPick_1 : decode cX0_throwPick 1 = .ok (.getfield 19, 3) := by decide +kernel
theorem dX0_throwPick_4 : decode cX0_throwPick 4 = .ok (.bipush 30, 2) := by decide +kernel
theorem dX0_throwPick_6 : decode cX0_throwPick 6 = .ok (.if_icmp .ge 23, 3) := by decide +kernel
theorem dX0_throwPick_9 : decode cX0_throwPick 9 = .ok (.aload_n 0, 1) := by decide +kernel
theorem dX0_throwPick_10 : decode cX0_throwPick 10 = .ok (.getfield 9, 3) := by decide +kernel
theorem dX0_throwPick_13 : decode cX0_throwPick 13 = .ok (.aload_n 0, 1) := by decide +kernel
theorem dX0_throwPick_14 : decode cX0_throwPick 14 = .ok (.getfield 19, 3) := by decide +kernel
theorem dX0_throwPick_17 : decode cX0_throwPick 17 = .ok (.iload_n 1, 1) := by decide +kernel
theorem dX0_throwPick_18 : decode cX0_throwPick 18 = .ok (.iastore, 1) := by decide +kernel
theorem dX0_throwPick_19 : decode cX0_throwPick 19 = .ok (.aload_n 0, 1) := by decide +kernel
theorem dX0_throwPick_20 : decode cX0_throwPick 20 = .ok (.dup, 1) := by decide +kernel
theorem dX0_throwPick_21 : decode cX0_throwPick 21 = .ok (.getfield 19, 3) := by decide +kernel
theorem dX0_throwPick_24 : decode cX0_throwPick 24 = .ok (.iconst 1, 1) := by decide +kernel
theorem dX0_throwPick_25 : decode cX0_throwPick 25 = .ok (.iadd, 1) := by decide +kernel
theorem dX0_throwPick_26 : decode cX0_throwPick 26 = .ok (.putfield 19, 3) := by decide +kernel
theorem dX0_throwPick_29 : decode cX0_throwPick 29 = .ok (.return_, 1) := by decide +kernel
theorem dX0_has_0 : decode cX0_has 0 = .ok (.iload_n 1, 1) := by decide +kernel
theorem dX0_has_1 : decode cX0_has 1 = .ok (.ifCond .lt 27, 3) := by decide +kernel
theorem dX0_has_4 : decode cX0_has 4 = .ok (.iload_n 1, 1) := by decide +kernel
theorem dX0_has_5 : decode cX0_has 5 = .ok (.aload_n 0, 1) := by decide +kernel
theorem dX0_has_6 : decode cX0_has 6 = .ok (.getfield 15, 3) := by decide +kernel
theorem dX0_has_9 : decode cX0_has 9 = .ok (.if_icmp .ge 19, 3) := by decide +kernel
theorem dX0_has_12 : decode cX0_has 12 = .ok (.iload_n 2, 1) := by decide +kernel
theorem dX0_has_13 : decode cX0_has 13 = .ok (.ifCond .lt 15, 3) := by decide +kernel
theorem dX0_has_16 : decode cX0_has 16 = .ok (.iload_n 2, 1) := by decide +kernel
theorem dX0_has_17 : decode cX0_has 17 = .ok (.aload_n 0, 1) := by decide +kernel
theorem dX0_has_18 : decode cX0_has 18 = .ok (.getfield 19, 3) := by decide +kernel
theorem dX0_has_21 : decode cX0_has 21 = .ok (.if_icmp .ge 7, 3) := by decide +kernel
theorem dX0_has_24 : decode cX0_has 24 = .ok (.iconst 1, 1) := by decide +kernel
theorem dX0_has_25 : decode cX0_has 25 = .ok (.goto 4, 3) := by decide +kernel
theorem dX0_has_28 : decode cX0_has 28 = .ok (.iconst 0, 1) := by decide +kernel
theorem dX0_has_29 : decode cX0_has 29 = .ok (.ireturn, 1) := by decide +kernel
theorem dX0_isOver_0 : decode cX0_isOver 0 = .ok (.aload_n 0, 1) := by decide +kernel
theorem dX0_isOver_1 : decode cX0_isOver 1 = .ok (.getfield 9, 3) := by decide +kernel
theorem dX0_isOver_4 : decode cX0_isOver 4 = .ok (.iload_n 2, 1) := by decide +kernel
theorem dX0_isOver_5 : decode cX0_isOver 5 = .ok (.iaload, 1) := by decide +kernel
theorem dX0_isOver_6 : decode cX0_isOver 6 = .ok (.iload_n 1, 1) := by decide +kernel
theorem dX0_isOver_7 : decode cX0_isOver 7 = .ok (.ishr, 1) := by decide +kernel
theorem dX0_isOver_8 : decode cX0_isOver 8 = .ok (.iconst 1, 1) := by decide +kernel
theorem dX0_isOver_9 : decode cX0_isOver 9 = .ok (.iand, 1) := by decide +kernel
theorem dX0_isOver_10 : decode cX0_isOver 10 = .ok (.iconst 1, 1) := by decide +kernel
theorem dX0_isOver_11 : decode cX0_isOver 11 = .ok (.if_icmp .ne 7, 3) := by decide +kernel
theorem dX0_isOver_14 : decode cX0_isOver 14 = .ok (.iconst 1, 1) := by decide +kernel
theorem dX0_isOver_15 : decode cX0_isOver 15 = .ok (.goto 4, 3) := by decide +kernel
theorem dX0_isOver_18 : decode cX0_isOver 18 = .ok (.iconst 0, 1) := by decide +kernel
theorem dX0_isOver_19 : decode cX0_isOver 19 = .ok (.ireturn, 1) := by decide +kernel
theorem dX0_put_0 : decode cX0_put 0 = .ok (.aload_n 0, 1) := by decide +kernel
theorem dX0_put_1 : decode cX0_put 1 = .ok (.getfield 9, 3) := by decide +kernel
theorem dX0_put_4 : decode cX0_put 4 = .ok (.iload_n 2, 1) := by decide +kernel
theorem dX0_put_5 : decode cX0_put 5 = .ok (.aload_n 0, 1) := by decide +kernel
theorem dX0_put_6 : decode cX0_put 6 = .ok (.getfield 9, 3) := by decide +kernel
theorem dX0_put_9 : decode cX0_put 9 = .ok (.iload_n 2, 1) := by decide +kernel
theorem dX0_put_10 : decode cX0_put 10 = .ok (.iaload, 1) := by decide +kernel
theorem dX0_put_11 : decode cX0_put 11 = .ok (.iload_n 1, 1) := by decide +kernel
theorem dX0_put_12 : decode cX0_put 12 = .ok (.iload_n 3, 1) := by decide +kernel
theorem dX0_put_13 : decode cX0_put 13 = .ok (.invokestatic 28, 3) := by decide +kernel
theorem dX0_put_16 : decode cX0_put 16 = .ok (.iastore, 1) := by decide +kernel
theorem dX0_put_17 : decode cX0_put 17 = .ok (.return_, 1) := by decide +kernel
theorem dX0_count_0 : decode cX0_count 0 = .ok (.iload_n 1, 1) := by decide +kernel
theorem dX0_count_1 : decode cX0_count 1 = .ok (.ifCond .eq 10, 3) := by decide +kernel
theorem dX0_count_4 : decode cX0_count 4 = .ok (.aload_n 0, 1) := by decide +kernel
theorem dX0_count_5 : decode cX0_count 5 = .ok (.getfield 19, 3) := by decide +kernel
theorem dX0_count_8 : decode cX0_count 8 = .ok (.goto 7, 3) := by decide +kernel
theorem dX0_count_11 : decode cX0_count 11 = .ok (.aload_n 0, 1) := by decide +kernel
theorem dX0_count_12 : decode cX0_count 12 = .ok (.getfield 15, 3) := by decide +kernel
theorem dX0_count_15 : decode cX0_count 15 = .ok (.ireturn, 1) := by decide +kernel
theorem dX0_line_0 : decode cX0_line 0 = .ok (.iload_n 1, 1) := by decide +kernel
theorem dX0_line_1 : decode cX0_line 1 = .ok (.ifCond .eq 12, 3) := by decide +kernel
theorem dX0_line_4 : decode cX0_line 4 = .ok (.aload_n 0, 1) := by decide +kernel
theorem dX0_line_5 : decode cX0_line 5 = .ok (.getfield 9, 3) := by decide +kernel
theorem dX0_line_8 : decode cX0_line 8 = .ok (.iload_n 2, 1) := by decide +kernel
theorem dX0_line_9 : decode cX0_line 9 = .ok (.iaload, 1) := by decide +kernel
theorem dX0_line_10 : decode cX0_line 10 = .ok (.goto 8, 3) := by decide +kernel
theorem dX0_line_13 : decode cX0_line 13 = .ok (.aload_n 0, 1) := by decide +kernel
theorem dX0_line_14 : decode cX0_line 14 = .ok (.iload_n 2, 1) := by decide +kernel
theorem dX0_line_15 : decode cX0_line 15 = .ok (.invokevirtual 32, 3) := by decide +kernel
theorem dX0_line_18 : decode cX0_line 18 = .ok (.ireturn, 1) := by decide +kernel
theorem dX0_picksUnder_0 : decode cX0_picksUnder 0 = .ok (.iconst 0, 1) := by decide +kernel
theorem dX0_picksUnder_1 : decode cX0_picksUnder 1 = .ok (.istore_n 2, 1) := by decide +kernel
theorem dX0_picksUnder_2 : decode cX0_picksUnder 2 = .ok (.iconst 0, 1) := by decide +kernel
theorem dX0_picksUnder_3 : decode cX0_picksUnder 3 = .ok (.istore_n 3, 1) := by decide +kernel
theorem dX0_picksUnder_4 : decode cX0_picksUnder 4 = .ok (.iload_n 3, 1) := by decide +kernel
theorem dX0_picksUnder_5 : decode cX0_picksUnder 5 = .ok (.aload_n 0, 1) := by decide +kernel
theorem dX0_picksUnder_6 : decode cX0_picksUnder 6 = .ok (.getfield 19, 3) := by decide +kernel
theorem dX0_picksUnder_9 : decode cX0_picksUnder 9 = .ok (.if_icmp .ge 21, 3) := by decide +kernel
theorem dX0_picksUnder_12 : decode cX0_picksUnder 12 = .ok (.iload_n 2, 1) := by decide +kernel
theorem dX0_picksUnder_13 : decode cX0_picksUnder 13 = .ok (.iload_n 3, 1) := by decide +kernel
theorem dX0_picksUnder_14 : decode cX0_picksUnder 14 = .ok (.aload_n 0, 1) := by decide +kernel
theorem dX0_picksUnder_15 : decode cX0_picksUnder 15 = .ok (.iload_n 1, 1) := by decide +kernel
theorem dX0_picksUnder_16 : decode cX0_picksUnder 16 = .ok (.iload_n 3, 1) := by decide +kernel
theorem dX0_picksUnder_17 : decode cX0_picksUnder 17 = .ok (.invokevirtual 36, 3) := by decide +kernel
theorem dX0_picksUnder_20 : decode cX0_picksUnder 20 = .ok (.invokestatic 28, 3) := by decide +kernel
theorem dX0_picksUnder_23 : decode cX0_picksUnder 23 = .ok (.istore_n 2, 1) := by decide +kernel
theorem dX0_picksUnder_24 : decode cX0_picksUnder 24 = .ok (.iinc 3 1, 3) := by decide +kernel
theorem dX0_picksUnder_27 : decode cX0_picksUnder 27 = .ok (.goto (-23), 3) := by decide +kernel
theorem dX0_picksUnder_30 : decode cX0_picksUnder 30 = .ok (.iload_n 2, 1) := by decide +kernel
theorem dX0_picksUnder_31 : decode cX0_picksUnder 31 = .ok (.ireturn, 1) := by decide +kernel
theorem dX0_firstLike_0 : decode cX0_firstLike 0 = .ok (.aload_n 0, 1) := by decide +kernel
theorem dX0_firstLike_1 : decode cX0_firstLike 1 = .ok (.iload_n 1, 1) := by decide +kernel
theorem dX0_firstLike_2 : decode cX0_firstLike 2 = .ok (.iload_n 2, 1) := by decide +kernel
theorem dX0_firstLike_3 : decode cX0_firstLike 3 = .ok (.invokevirtual 40, 3) := by decide +kernel
theorem dX0_firstLike_6 : decode cX0_firstLike 6 = .ok (.istore_n 3, 1) := by decide +kernel
theorem dX0_firstLike_7 : decode cX0_firstLike 7 = .ok (.iconst 0, 1) := by decide +kernel
theorem dX0_firstLike_8 : decode cX0_firstLike 8 = .ok (.istore 4, 2) := by decide +kernel
theorem dX0_firstLike_10 : decode cX0_firstLike 10 = .ok (.iload 4, 2) := by decide +kernel
theorem dX0_firstLike_12 : decode cX0_firstLike 12 = .ok (.iload_n 2, 1) := by decide +kernel
theorem dX0_firstLike_13 : decode cX0_firstLike 13 = .ok (.if_icmp .ge 23, 3) := by decide +kernel
theorem dX0_firstLike_16 : decode cX0_firstLike 16 = .ok (.aload_n 0, 1) := by decide +kernel
theorem dX0_firstLike_17 : decode cX0_firstLike 17 = .ok (.iload_n 1, 1) := by decide +kernel
theorem dX0_firstLike_18 : decode cX0_firstLike 18 = .ok (.iload 4, 2) := by decide +kernel
theorem dX0_firstLike_20 : decode cX0_firstLike 20 = .ok (.invokevirtual 40, 3) := by decide +kernel
theorem dX0_firstLike_23 : decode cX0_firstLike 23 = .ok (.iload_n 3, 1) := by decide +kernel
theorem dX0_firstLike_24 : decode cX0_firstLike 24 = .ok (.if_icmp .ne 6, 3) := by decide +kernel
theorem dX0_firstLike_27 : decode cX0_firstLike 27 = .ok (.iload 4, 2) := by decide +kernel
theorem dX0_firstLike_29 : decode cX0_firstLike 29 = .ok (.ireturn, 1) := by decide +kernel
theorem dX0_firstLike_30 : decode cX0_firstLike 30 = .ok (.iinc 4 1, 3) := by decide +kernel
theorem dX0_firstLike_33 : decode cX0_firstLike 33 = .ok (.goto (-23), 3) := by decide +kernel
theorem dX0_firstLike_36 : decode cX0_firstLike 36 = .ok (.iload_n 2, 1) := by decide +kernel
theorem dX0_firstLike_37 : decode cX0_firstLike 37 = .ok (.ireturn, 1) := by decide +kernel
theorem dX0_leastShift_0 : decode cX0_leastShift 0 = .ok (.aload_n 0, 1) := by decide +kernel
theorem dX0_leastShift_1 : decode cX0_leastShift 1 = .ok (.iload_n 1, 1) := by decide +kernel
theorem dX0_leastShift_2 : decode cX0_leastShift 2 = .ok (.invokevirtual 44, 3) := by decide +kernel
theorem dX0_leastShift_5 : decode cX0_leastShift 5 = .ok (.istore_n 2, 1) := by decide +kernel
theorem dX0_leastShift_6 : decode cX0_leastShift 6 = .ok (.iconst 1, 1) := by decide +kernel
theorem dX0_leastShift_7 : decode cX0_leastShift 7 = .ok (.istore_n 3, 1) := by decide +kernel
theorem dX0_leastShift_8 : decode cX0_leastShift 8 = .ok (.iload_n 3, 1) := by decide +kernel
theorem dX0_leastShift_9 : decode cX0_leastShift 9 = .ok (.iload_n 2, 1) := by decide +kernel
theorem dX0_leastShift_10 : decode cX0_leastShift 10 = .ok (.if_icmp .ge 20, 3) := by decide +kernel
theorem dX0_leastShift_13 : decode cX0_leastShift 13 = .ok (.aload_n 0, 1) := by decide +kernel
theorem dX0_leastShift_14 : decode cX0_leastShift 14 = .ok (.iload_n 1, 1) := by decide +kernel
theorem dX0_leastShift_15 : decode cX0_leastShift 15 = .ok (.iload_n 3, 1) := by decide +kernel
theorem dX0_leastShift_16 : decode cX0_leastShift 16 = .ok (.invokevirtual 48, 3) := by decide +kernel
theorem dX0_leastShift_19 : decode cX0_leastShift 19 = .ok (.ifCond .eq 5, 3) := by decide +kernel
theorem dX0_leastShift_22 : decode cX0_leastShift 22 = .ok (.iload_n 3, 1) := by decide +kernel
theorem dX0_leastShift_23 : decode cX0_leastShift 23 = .ok (.ireturn, 1) := by decide +kernel
theorem dX0_leastShift_24 : decode cX0_leastShift 24 = .ok (.iinc 3 1, 3) := by decide +kernel
theorem dX0_leastShift_27 : decode cX0_leastShift 27 = .ok (.goto (-19), 3) := by decide +kernel
theorem dX0_leastShift_30 : decode cX0_leastShift 30 = .ok (.iload_n 2, 1) := by decide +kernel
theorem dX0_leastShift_31 : decode cX0_leastShift 31 = .ok (.ireturn, 1) := by decide +kernel
theorem dX0_repeatsAfter_0 : decode cX0_repeatsAfter 0 = .ok (.aload_n 0, 1) := by decide +kernel
theorem dX0_repeatsAfter_1 : decode cX0_repeatsAfter 1 = .ok (.iload_n 1, 1) := by decide +kernel
theorem dX0_repeatsAfter_2 : decode cX0_repeatsAfter 2 = .ok (.invokevirtual 44, 3) := by decide +kernel
theorem dX0_repeatsAfter_5 : decode cX0_repeatsAfter 5 = .ok (.istore_n 3, 1) := by decide +kernel
theorem dX0_repeatsAfter_6 : decode cX0_repeatsAfter 6 = .ok (.iconst 0, 1) := by decide +kernel
theorem dX0_repeatsAfter_7 : decode cX0_repeatsAfter 7 = .ok (.istore 4, 2) := by decide +kernel
theorem dX0_repeatsAfter_9 : decode cX0_repeatsAfter 9 = .ok (.iload 4, 2) := by decide +kernel
theorem dX0_repeatsAfter_11 : decode cX0_repeatsAfter 11 = .ok (.iload_n 2, 1) := by decide +kernel
theorem dX0_repeatsAfter_12 : decode cX0_repeatsAfter 12 = .ok (.iadd, 1) := by decide +kernel
theorem dX0_repeatsAfter_13 : decode cX0_repeatsAfter 13 = .ok (.iload_n 3, 1) := by decide +kernel
theorem dX0_repeatsAfter_14 : decode cX0_repeatsAfter 14 = .ok (.if_icmp .ge 30, 3) := by decide +kernel
theorem dX0_repeatsAfter_17 : decode cX0_repeatsAfter 17 = .ok (.aload_n 0, 1) := by decide +kernel
theorem dX0_repeatsAfter_18 : decode cX0_repeatsAfter 18 = .ok (.iload_n 1, 1) := by decide +kernel
theorem dX0_repeatsAfter_19 : decode cX0_repeatsAfter 19 = .ok (.iload 4, 2) := by decide +kernel
theorem dX0_repeatsAfter_21 : decode cX0_repeatsAfter 21 = .ok (.invokevirtual 40, 3) := by decide +kernel
theorem dX0_repeatsAfter_24 : decode cX0_repeatsAfter 24 = .ok (.aload_n 0, 1) := by decide +kernel
theorem dX0_repeatsAfter_25 : decode cX0_repeatsAfter 25 = .ok (.iload_n 1, 1) := by decide +kernel
theorem dX0_repeatsAfter_26 : decode cX0_repeatsAfter 26 = .ok (.iload 4, 2) := by decide +kernel
theorem dX0_repeatsAfter_28 : decode cX0_repeatsAfter 28 = .ok (.iload_n 2, 1) := by decide +kernel
theorem dX0_repeatsAfter_29 : decode cX0_repeatsAfter 29 = .ok (.iadd, 1) := by decide +kernel
theorem dX0_repeatsAfter_30 : decode cX0_repeatsAfter 30 = .ok (.invokevirtual 40, 3) := by decide +kernel
theorem dX0_repeatsAfter_33 : decode cX0_repeatsAfter 33 = .ok (.if_icmp .eq 5, 3) := by decide +kernel
theorem dX0_repeatsAfter_36 : decode cX0_repeatsAfter 36 = .ok (.iconst 0, 1) := by decide +kernel
theorem dX0_repeatsAfter_37 : decode cX0_repeatsAfter 37 = .ok (.ireturn, 1) := by decide +kernel
theorem dX0_repeatsAfter_38 : decode cX0_repeatsAfter 38 = .ok (.iinc 4 1, 3) := by decide +kernel
theorem dX0_repeatsAfter_41 : decode cX0_repeatsAfter 41 = .ok (.goto (-32), 3) := by decide +kernel
theorem dX0_repeatsAfter_44 : decode cX0_repeatsAfter 44 = .ok (.iconst 1, 1) := by decide +kernel
theorem dX0_repeatsAfter_45 : decode cX0_repeatsAfter 45 = .ok (.ireturn, 1) := by decide +kernel
theorem dX1_init_0 : decode cX1_init 0 = .ok (.aload_n 0, 1) := by decide +kernel
theorem dX1_init_1 : decode cX1_init 1 = .ok (.invokespecial 3, 3) := by decide +kernel
theorem dX1_init_4 : decode cX1_init 4 = .ok (.aload_n 0, 1) := by decide +kernel
theorem dX1_init_5 : decode cX1_init 5 = .ok (.bipush 60, 2) := by decide +kernel
theorem dX1_init_7 : decode cX1_init 7 = .ok (.newarray .long, 2) := by decide +kernel
theorem dX1_init_9 : decode cX1_init 9 = .ok (.putfield 9, 3) := by decide +kernel
theorem dX1_init_12 : decode cX1_init 12 = .ok (.aload_n 0, 1) := by decide +kernel
theorem dX1_init_13 : decode cX1_init 13 = .ok (.bipush 60, 2) := by decide +kernel
theorem dX1_init_15 : decode cX1_init 15 = .ok (.newarray .int, 2) := by decide +kernel
theorem dX1_init_17 : decode cX1_init 17 = .ok (.putfield 15, 3) := by decide +kernel
theorem dX1_init_20 : decode cX1_init 20 = .ok (.return_, 1) := by decide +kernel
theorem dX1_sort_0 : decode cX1_sort 0 = .ok (.aload_n 0, 1) := by decide +kernel
theorem dX1_sort_1 : decode cX1_sort 1 = .ok (.aload_n 1, 1) := by decide +kernel
theorem dX1_sort_2 : decode cX1_sort 2 = .ok (.getfield 19, 3) := by decide +kernel
theorem dX1_sort_5 : decode cX1_sort 5 = .ok (.aload_n 1, 1) := by decide +kernel
theorem dX1_sort_6 : decode cX1_sort 6 = .ok (.getfield 25, 3) := by decide +kernel
theorem dX1_sort_9 : decode cX1_sort 9 = .ok (.iadd, 1) := by decide +kernel
theorem dX1_sort_10 : decode cX1_sort 10 = .ok (.putfield 28, 3) := by decide +kernel
theorem dX1_sort_13 : decode cX1_sort 13 = .ok (.aload_n 0, 1) := by decide +kernel
theorem dX1_sort_14 : decode cX1_sort 14 = .ok (.aload_n 1, 1) := by decide +kernel
theorem dX1_sort_15 : decode cX1_sort 15 = .ok (.invokevirtual 31, 3) := by decide +kernel
theorem dX1_sort_18 : decode cX1_sort 18 = .ok (.aload_n 0, 1) := by decide +kernel
theorem dX1_sort_19 : decode cX1_sort 19 = .ok (.invokevirtual 35, 3) := by decide +kernel
theorem dX1_sort_22 : decode cX1_sort 22 = .ok (.aload_n 0, 1) := by decide +kernel
theorem dX1_sort_23 : decode cX1_sort 23 = .ok (.invokevirtual 38, 3) := by decide +kernel
theorem dX1_sort_26 : decode cX1_sort 26 = .ok (.ireturn, 1) := by decide +kernel
theorem dX1_layDirectly_0 : decode cX1_layDirectly 0 = .ok (.lconst 1, 1) := by decide +kernel
theorem dX1_layDirectly_1 : decode cX1_layDirectly 1 = .ok (.aload_n 1, 1) := by decide +kernel
theorem dX1_layDirectly_2 : decode cX1_layDirectly 2 = .ok (.getfield 19, 3) := by decide +kernel
theorem dX1_layDirectly_5 : decode cX1_layDirectly 5 = .ok (.lshl, 1) := by decide +kernel
theorem dX1_layDirectly_6 : decode cX1_layDirectly 6 = .ok (.lconst 1, 1) := by decide +kernel
theorem dX1_layDirectly_7 : decode cX1_layDirectly 7 = .ok (.lsub, 1) := by decide +kernel
theorem dX1_layDirectly_8 : decode cX1_layDirectly 8 = .ok (.lstore_n 2, 1) := by decide +kernel
theorem dX1_layDirectly_9 : decode cX1_layDirectly 9 = .ok (.iconst 0, 1) := by decide +kernel
theorem dX1_layDirectly_10 : decode cX1_layDirectly 10 = .ok (.istore 4, 2) := by decide +kernel
theorem dX1_layDirectly_12 : decode cX1_layDirectly 12 = .ok (.iload 4, 2) := by decide +kernel
theorem dX1_layDirectly_14 : decode cX1_layDirectly 14 = .ok (.aload_n 1, 1) := by decide +kernel
theorem dX1_layDirectly_15 : decode cX1_layDirectly 15 = .ok (.getfield 19, 3) := by decide +kernel
theorem dX1_layDirectly_18 : decode cX1_layDirectly 18 = .ok (.if_icmp .ge 34, 3) := by decide +kernel
theorem dX1_layDirectly_21 : decode cX1_layDirectly 21 = .ok (.aload_n 0, 1) := by decide +kernel
theorem dX1_layDirectly_22 : decode cX1_layDirectly 22 = .ok (.getfield 9, 3) := by decide +kernel
theorem dX1_layDirectly_25 : decode cX1_layDirectly 25 = .ok (.iload 4, 2) := by decide +kernel
theorem dX1_layDirectly_27 : decode cX1_layDirectly 27 = .ok (.lconst 1, 1) := by decide +kernel
theorem dX1_layDirectly_28 : decode cX1_layDirectly 28 = .ok (.iload 4, 2) := by decide +kernel
theorem dX1_layDirectly_30 : decode cX1_layDirectly 30 = .ok (.lshl, 1) := by decide +kernel
theorem dX1_layDirectly_31 : decode cX1_layDirectly 31 = .ok (.aload_n 1, 1) := by decide +kernel
theorem dX1_layDirectly_32 : decode cX1_layDirectly 32 = .ok (.iconst 0, 1) := by decide +kernel
theorem dX1_layDirectly_33 : decode cX1_layDirectly 33 = .ok (.iload 4, 2) := by decide +kernel
theorem dX1_layDirectly_35 : decode cX1_layDirectly 35 = .ok (.invokevirtual 42, 3) := by decide +kernel
theorem dX1_layDirectly_38 : decode cX1_layDirectly 38 = .ok (.i2l, 1) := by decide +kernel
theorem dX1_layDirectly_39 : decode cX1_layDirectly 39 = .ok (.aload_n 1, 1) := by decide +kernel
theorem dX1_layDirectly_40 : decode cX1_layDirectly 40 = .ok (.getfield 19, 3) := by decide +kernel
theorem dX1_layDirectly_43 : decode cX1_layDirectly 43 = .ok (.lshl, 1) := by decide +kernel
theorem dX1_layDirectly_44 : decode cX1_layDirectly 44 = .ok (.lor, 1) := by decide +kernel
theorem dX1_layDirectly_45 : decode cX1_layDirectly 45 = .ok (.lastore, 1) := by decide +kernel
theorem dX1_layDirectly_46 : decode cX1_layDirectly 46 = .ok (.iinc 4 1, 3) := by decide +kernel
theorem dX1_layDirectly_49 : decode cX1_layDirectly 49 = .ok (.goto (-37), 3) := by decide +kernel
theorem dX1_layDirectly_52 : decode cX1_layDirectly 52 = .ok (.iconst 0, 1) := by decide +kernel
theorem dX1_layDirectly_53 : decode cX1_layDirectly 53 = .ok (.istore 4, 2) := by decide +kernel
theorem dX1_layDirectly_55 : decode cX1_layDirectly 55 = .ok (.iload 4, 2) := by decide +kernel
theorem dX1_layDirectly_57 : decode cX1_layDirectly 57 = .ok (.aload_n 1, 1) := by decide +kernel
theorem dX1_layDirectly_58 : decode cX1_layDirectly 58 = .ok (.getfield 25, 3) := by decide +kernel
theorem dX1_layDirectly_61 : decode cX1_layDirectly 61 = .ok (.if_icmp .ge 42, 3) := by decide +kernel
theorem dX1_layDirectly_64 : decode cX1_layDirectly 64 = .ok (.aload_n 1, 1) := by decide +kernel
theorem dX1_layDirectly_65 : decode cX1_layDirectly 65 = .ok (.getfield 19, 3) := by decide +kernel
theorem dX1_layDirectly_68 : decode cX1_layDirectly 68 = .ok (.iload 4, 2) := by decide +kernel
theorem dX1_layDirectly_70 : decode cX1_layDirectly 70 = .ok (.iadd, 1) := by decide +kernel
theorem dX1_layDirectly_71 : decode cX1_layDirectly 71 = .ok (.istore 5, 2) := by decide +kernel
theorem dX1_layDirectly_73 : decode cX1_layDirectly 73 = .ok (.aload_n 0, 1) := by decide +kernel
theorem dX1_layDirectly_74 : decode cX1_layDirectly 74 = .ok (.getfield 9, 3) := by decide +kernel
theorem dX1_layDirectly_77 : decode cX1_layDirectly 77 = .ok (.iload 5, 2) := by decide +kernel
theorem dX1_layDirectly_79 : decode cX1_layDirectly 79 = .ok (.lconst 1, 1) := by decide +kernel
theorem dX1_layDirectly_80 : decode cX1_layDirectly 80 = .ok (.iload 5, 2) := by decide +kernel
theorem dX1_layDirectly_82 : decode cX1_layDirectly 82 = .ok (.lshl, 1) := by decide +kernel
theorem dX1_layDirectly_83 : decode cX1_layDirectly 83 = .ok (.lload_n 2, 1) := by decide +kernel
theorem dX1_layDirectly_84 : decode cX1_layDirectly 84 = .ok (.aload_n 1, 1) := by decide +kernel
theorem dX1_layDirectly_85 : decode cX1_layDirectly 85 = .ok (.iconst 1, 1) := by decide +kernel
theorem dX1_layDirectly_86 : decode cX1_layDirectly 86 = .ok (.iload 4, 2) := by decide +kernel
theorem dX1_layDirectly_88 : decode cX1_layDirectly 88 = .ok (.invokevirtual 42, 3) := by decide +kernel
theorem dX1_layDirectly_91 : decode cX1_layDirectly 91 = .ok (.iconst (-1), 1) := by decide +kernel
theorem dX1_layDirectly_92 : decode cX1_layDirectly 92 = .ok (.ixor, 1) := by decide +kernel
theorem dX1_layDirectly_93 : decode cX1_layDirectly 93 = .ok (.i2l, 1) := by decide +kernel
theorem dX1_layDirectly_94 : decode cX1_layDirectly 94 = .ok (.land, 1) := by decide +kernel
theorem dX1_layDirectly_95 : decode cX1_layDirectly 95 = .ok (.lor, 1) := by decide +kernel
theorem dX1_layDirectly_96 : decode cX1_layDirectly 96 = .ok (.lastore, 1) := by decide +kernel
theorem dX1_layDirectly_97 : decode cX1_layDirectly 97 = .ok (.iinc 4 1, 3) := by decide +kernel
theorem dX1_layDirectly_100 : decode cX1_layDirectly 100 = .ok (.goto (-45), 3) := by decide +kernel
theorem dX1_layDirectly_103 : decode cX1_layDirectly 103 = .ok (.return_, 1) := by decide +kernel
theorem dX1_followOthers_0 : decode cX1_followOthers 0 = .ok (.iconst 0, 1) := by decide +kernel
theorem dX1_followOthers_1 : decode cX1_followOthers 1 = .ok (.istore_n 1, 1) := by decide +kernel
theorem dX1_followOthers_2 : decode cX1_followOthers 2 = .ok (.iload_n 1, 1) := by decide +kernel
theorem dX1_followOthers_3 : decode cX1_followOthers 3 = .ok (.aload_n 0, 1) := by decide +kernel
theorem dX1_followOthers_4 : decode cX1_followOthers 4 = .ok (.getfield 28, 3) := by decide +kernel
theorem dX1_followOthers_7 : decode cX1_followOthers 7 = .ok (.if_icmp .ge 53, 3) := by decide +kernel
theorem dX1_followOthers_10 : decode cX1_followOthers 10 = .ok (.iconst 0, 1) := by decide +kernel
theorem dX1_followOthers_11 : decode cX1_followOthers 11 = .ok (.istore_n 2, 1) := by decide +kernel
theorem dX1_followOthers_12 : decode cX1_followOthers 12 = .ok (.iload_n 2, 1) := by decide +kernel
theorem dX1_followOthers_13 : decode cX1_followOthers 13 = .ok (.aload_n 0, 1) := by decide +kernel
theorem dX1_followOthers_14 : decode cX1_followOthers 14 = .ok (.getfield 28, 3) := by decide +kernel
theorem dX1_followOthers_17 : decode cX1_followOthers 17 = .ok (.if_icmp .ge 37, 3) := by decide +kernel
theorem dX1_followOthers_20 : decode cX1_followOthers 20 = .ok (.aload_n 0, 1) := by decide +kernel
theorem dX1_followOthers_21 : decode cX1_followOthers 21 = .ok (.getfield 9, 3) := by decide +kernel
theorem dX1_followOthers_24 : decode cX1_followOthers 24 = .ok (.iload_n 2, 1) := by decide +kernel
theorem dX1_followOthers_25 : decode cX1_followOthers 25 = .ok (.laload, 1) := by decide +kernel
theorem dX1_followOthers_26 : decode cX1_followOthers 26 = .ok (.iload_n 1, 1) := by decide +kernel
theorem dX1_followOthers_27 : decode cX1_followOthers 27 = .ok (.invokestatic 46, 3) := by decide +kernel
theorem dX1_followOthers_30 : decode cX1_followOthers 30 = .ok (.ifCond .eq 18, 3) := by decide +kernel
theorem dX1_followOthers_33 : decode cX1_followOthers 33 = .ok (.aload_n 0, 1) := by decide +kernel
theorem dX1_followOthers_34 : decode cX1_followOthers 34 = .ok (.getfield 9, 3) := by decide +kernel
theorem dX1_followOthers_37 : decode cX1_followOthers 37 = .ok (.iload_n 2, 1) := by decide +kernel
theorem dX1_followOthers_38 : decode cX1_followOthers 38 = .ok (.dup2, 1) := by decide +kernel
theorem dX1_followOthers_39 : decode cX1_followOthers 39 = .ok (.laload, 1) := by decide +kernel
theorem dX1_followOthers_40 : decode cX1_followOthers 40 = .ok (.aload_n 0, 1) := by decide +kernel
theorem dX1_followOthers_41 : decode cX1_followOthers 41 = .ok (.getfield 9, 3) := by decide +kernel
theorem dX1_followOthers_44 : decode cX1_followOthers 44 = .ok (.iload_n 1, 1) := by decide +kernel
theorem dX1_followOthers_45 : decode cX1_followOthers 45 = .ok (.laload, 1) := by decide +kernel
theorem dX1_followOthers_46 : decode cX1_followOthers 46 = .ok (.lor, 1) := by decide +kernel
theorem dX1_followOthers_47 : decode cX1_followOthers 47 = .ok (.lastore, 1) := by decide +kernel
theorem dX1_followOthers_48 : decode cX1_followOthers 48 = .ok (.iinc 2 1, 3) := by decide +kernel
theorem dX1_followOthers_51 : decode cX1_followOthers 51 = .ok (.goto (-39), 3) := by decide +kernel
theorem dX1_followOthers_54 : decode cX1_followOthers 54 = .ok (.iinc 1 1, 3) := by decide +kernel
theorem dX1_followOthers_57 : decode cX1_followOthers 57 = .ok (.goto (-55), 3) := by decide +kernel
theorem dX1_followOthers_60 : decode cX1_followOthers 60 = .ok (.return_, 1) := by decide +kernel
theorem dX1_numberFromBottom_0 : decode cX1_numberFromBottom 0 = .ok (.lconst 1, 1) := by decide +kernel
theorem dX1_numberFromBottom_1 : decode cX1_numberFromBottom 1 = .ok (.aload_n 0, 1) := by decide +kernel
theorem dX1_numberFromBottom_2 : decode cX1_numberFromBottom 2 = .ok (.getfield 28, 3) := by decide +kernel
theorem dX1_numberFromBottom_5 : decode cX1_numberFromBottom 5 = .ok (.lshl, 1) := by decide +kernel
theorem dX1_numberFromBottom_6 : decode cX1_numberFromBottom 6 = .ok (.lconst 1, 1) := by decide +kernel
theorem dX1_numberFromBottom_7 : decode cX1_numberFromBottom 7 = .ok (.lsub, 1) := by decide +kernel
theorem dX1_numberFromBottom_8 : decode cX1_numberFromBottom 8 = .ok (.lstore_n 1, 1) := by decide +kernel
theorem dX1_numberFromBottom_9 : decode cX1_numberFromBottom 9 = .ok (.iconst 0, 1) := by decide +kernel
theorem dX1_numberFromBottom_10 : decode cX1_numberFromBottom 10 = .ok (.istore_n 3, 1) := by decide +kernel
theorem dX1_numberFromBottom_11 : decode cX1_numberFromBottom 11 = .ok (.lload_n 1, 1) := by decide +kernel
theorem dX1_numberFromBottom_12 : decode cX1_numberFromBottom 12 = .ok (.lconst 0, 1) := by decide +kernel
theorem dX1_numberFromBottom_13 : decode cX1_numberFromBottom 13 = .ok (.lcmp, 1) := by decide +kernel
theorem dX1_numberFromBottom_14 : decode cX1_numberFromBottom 14 = .ok (.ifCond .eq 76, 3) := by decide +kernel
theorem dX1_numberFromBottom_17 : decode cX1_numberFromBottom 17 = .ok (.iload_n 3, 1) := by decide +kernel
theorem dX1_numberFromBottom_18 : decode cX1_numberFromBottom 18 = .ok (.aload_n 0, 1) := by decide +kernel
theorem dX1_numberFromBottom_19 : decode cX1_numberFromBottom 19 = .ok (.getfield 28, 3) := by decide +kernel
theorem dX1_numberFromBottom_22 : decode cX1_numberFromBottom 22 = .ok (.if_icmp .ge 68, 3) := by decide +kernel
theorem dX1_numberFromBottom_25 : decode cX1_numberFromBottom 25 = .ok (.aload_n 0, 1) := by decide +kernel
theorem dX1_numberFromBottom_26 : decode cX1_numberFromBottom 26 = .ok (.getfield 9, 3) := by decide +kernel
theorem dX1_numberFromBottom_29 : decode cX1_numberFromBottom 29 = .ok (.aload_n 0, 1) := by decide +kernel
theorem dX1_numberFromBottom_30 : decode cX1_numberFromBottom 30 = .ok (.lload_n 1, 1) := by decide +kernel
theorem dX1_numberFromBottom_31 : decode cX1_numberFromBottom 31 = .ok (.invokevirtual 50, 3) := by decide +kernel
theorem dX1_numberFromBottom_34 : decode cX1_numberFromBottom 34 = .ok (.laload, 1) := by decide +kernel
theorem dX1_numberFromBottom_35 : decode cX1_numberFromBottom 35 = .ok (.lload_n 1, 1) := by decide +kernel
theorem dX1_numberFromBottom_36 : decode cX1_numberFromBottom 36 = .ok (.land, 1) := by decide +kernel
theorem dX1_numberFromBottom_37 : decode cX1_numberFromBottom 37 = .ok (.lstore 4, 2) := by decide +kernel
theorem dX1_numberFromBottom_39 : decode cX1_numberFromBottom 39 = .ok (.iconst 0, 1) := by decide +kernel
theorem dX1_numberFromBottom_40 : decode cX1_numberFromBottom 40 = .ok (.istore 6, 2) := by decide +kernel
theorem dX1_numberFromBottom_42 : decode cX1_numberFromBottom 42 = .ok (.iload 6, 2) := by decide +kernel
theorem dX1_numberFromBottom_44 : decode cX1_numberFromBottom 44 = .ok (.aload_n 0, 1) := by decide +kernel
theorem dX1_numberFromBottom_45 : decode cX1_numberFromBottom 45 = .ok (.getfield 28, 3) := by decide +kernel
theorem dX1_numberFromBottom_48 : decode cX1_numberFromBottom 48 = .ok (.if_icmp .ge 27, 3) := by decide +kernel
theorem dX1_numberFromBottom_51 : decode cX1_numberFromBottom 51 = .ok (.lload 4, 2) := by decide +kernel
theorem dX1_numberFromBottom_53 : decode cX1_numberFromBottom 53 = .ok (.iload 6, 2) := by decide +kernel
theorem dX1_numberFromBottom_55 : decode cX1_numberFromBottom 55 = .ok (.invokestatic 46, 3) := by decide +kernel
theorem dX1_numberFromBottom_58 : decode cX1_numberFromBottom 58 = .ok (.ifCond .eq 11, 3) := by decide +kernel
theorem dX1_numberFromBottom_61 : decode cX1_numberFromBottom 61 = .ok (.aload_n 0, 1) := by decide +kernel
theorem dX1_numberFromBottom_62 : decode cX1_numberFromBottom 62 = .ok (.getfield 15, 3) := by decide +kernel
theorem dX1_numberFromBottom_65 : decode cX1_numberFromBottom 65 = .ok (.iload 6, 2) := by decide +kernel
theorem dX1_numberFromBottom_67 : decode cX1_numberFromBottom 67 = .ok (.iload_n 3, 1) := by decide +kernel
theorem dX1_numberFromBottom_68 : decode cX1_numberFromBottom 68 = .ok (.iastore, 1) := by decide +kernel
theorem dX1_numberFromBottom_69 : decode cX1_numberFromBottom 69 = .ok (.iinc 6 1, 3) := by decide +kernel
theorem dX1_numberFromBottom_72 : decode cX1_numberFromBottom 72 = .ok (.goto (-30), 3) := by decide +kernel
theorem dX1_numberFromBottom_75 : decode cX1_numberFromBottom 75 = .ok (.lload_n 1, 1) := by decide +kernel
theorem dX1_numberFromBottom_76 : decode cX1_numberFromBottom 76 = .ok (.lload 4, 2) := by decide +kernel
theorem dX1_numberFromBottom_78 : decode cX1_numberFromBottom 78 = .ok (.ldc2_w 54, 3) := by decide +kernel
theorem dX1_numberFromBottom_81 : decode cX1_numberFromBottom 81 = .ok (.lxor, 1) := by decide +kernel
theorem dX1_numberFromBottom_82 : decode cX1_numberFromBottom 82 = .ok (.land, 1) := by decide +kernel
theorem dX1_numberFromBottom_83 : decode cX1_numberFromBottom 83 = .ok (.lstore_n 1, 1) := by decide +kernel
theorem dX1_numberFromBottom_84 : decode cX1_numberFromBottom 84 = .ok (.iinc 3 1, 3) := by decide +kernel
theorem dX1_numberFromBottom_87 : decode cX1_numberFromBottom 87 = .ok (.goto (-76), 3) := by decide +kernel
theorem dX1_numberFromBottom_90 : decode cX1_numberFromBottom 90 = .ok (.iload_n 3, 1) := by decide +kernel
theorem dX1_numberFromBottom_91 : decode cX1_numberFromBottom 91 = .ok (.ireturn, 1) := by decide +kernel
theorem dX1_lowestFree_0 : decode cX1_lowestFree 0 = .ok (.iconst 0, 1) := by decide +kernel
theorem dX1_lowestFree_1 : decode cX1_lowestFree 1 = .ok (.istore_n 3, 1) := by decide +kernel
theorem dX1_lowestFree_2 : decode cX1_lowestFree 2 = .ok (.iload_n 3, 1) := by decide +kernel
theorem dX1_lowestFree_3 : decode cX1_lowestFree 3 = .ok (.aload_n 0, 1) := by decide +kernel
theorem dX1_lowestFree_4 : decode cX1_lowestFree 4 = .ok (.getfield 28, 3) := by decide +kernel
theorem dX1_lowestFree_7 : decode cX1_lowestFree 7 = .ok (.if_icmp .ge 28, 3) := by decide +kernel
theorem dX1_lowestFree_10 : decode cX1_lowestFree 10 = .ok (.lload_n 1, 1) := by decide +kernel
theorem dX1_lowestFree_11 : decode cX1_lowestFree 11 = .ok (.iload_n 3, 1) := by decide +kernel
theorem dX1_lowestFree_12 : decode cX1_lowestFree 12 = .ok (.invokestatic 46, 3) := by decide +kernel
theorem dX1_lowestFree_15 : decode cX1_lowestFree 15 = .ok (.ifCond .eq 14, 3) := by decide +kernel
theorem dX1_lowestFree_18 : decode cX1_lowestFree 18 = .ok (.aload_n 0, 1) := by decide +kernel
theorem dX1_lowestFree_19 : decode cX1_lowestFree 19 = .ok (.iload_n 3, 1) := by decide +kernel
theorem dX1_lowestFree_20 : decode cX1_lowestFree 20 = .ok (.lload_n 1, 1) := by decide +kernel
theorem dX1_lowestFree_21 : decode cX1_lowestFree 21 = .ok (.invokevirtual 56, 3) := by decide +kernel
theorem dX1_lowestFree_24 : decode cX1_lowestFree 24 = .ok (.ifCond .eq 5, 3) := by decide +kernel
theorem dX1_lowestFree_27 : decode cX1_lowestFree 27 = .ok (.iload_n 3, 1) := by decide +kernel
theorem dX1_lowestFree_28 : decode cX1_lowestFree 28 = .ok (.ireturn, 1) := by decide +kernel
theorem dX1_lowestFree_29 : decode cX1_lowestFree 29 = .ok (.iinc 3 1, 3) := by decide +kernel
theorem dX1_lowestFree_32 : decode cX1_lowestFree 32 = .ok (.goto (-30), 3) := by decide +kernel
theorem dX1_lowestFree_35 : decode cX1_lowestFree 35 = .ok (.iconst 0, 1) := by decide +kernel
theorem dX1_lowestFree_36 : decode cX1_lowestFree 36 = .ok (.ireturn, 1) := by decide +kernel
theorem dX1_isFree_0 : decode cX1_isFree 0 = .ok (.aload_n 0, 1) := by decide +kernel
theorem dX1_isFree_1 : decode cX1_isFree 1 = .ok (.getfield 9, 3) := by decide +kernel
theorem dX1_isFree_4 : decode cX1_isFree 4 = .ok (.iload_n 1, 1) := by decide +kernel
theorem dX1_isFree_5 : decode cX1_isFree 5 = .ok (.laload, 1) := by decide +kernel
theorem dX1_isFree_6 : decode cX1_isFree 6 = .ok (.lload_n 2, 1) := by decide +kernel
theorem dX1_isFree_7 : decode cX1_isFree 7 = .ok (.land, 1) := by decide +kernel
theorem dX1_isFree_8 : decode cX1_isFree 8 = .ok (.lstore 4, 2) := by decide +kernel
theorem dX1_isFree_10 : decode cX1_isFree 10 = .ok (.iconst 0, 1) := by decide +kernel
theorem dX1_isFree_11 : decode cX1_isFree 11 = .ok (.istore 6, 2) := by decide +kernel
theorem dX1_isFree_13 : decode cX1_isFree 13 = .ok (.iload 6, 2) := by decide +kernel
theorem dX1_isFree_15 : decode cX1_isFree 15 = .ok (.aload_n 0, 1) := by decide +kernel
theorem dX1_isFree_16 : decode cX1_isFree 16 = .ok (.getfield 28, 3) := by decide +kernel
theorem dX1_isFree_19 : decode cX1_isFree 19 = .ok (.if_icmp .ge 35, 3) := by decide +kernel
theorem dX1_isFree_22 : decode cX1_isFree 22 = .ok (.lload 4, 2) := by decide +kernel
theorem dX1_isFree_24 : decode cX1_isFree 24 = .ok (.iload 6, 2) := by decide +kernel
theorem dX1_isFree_26 : decode cX1_isFree 26 = .ok (.invokestatic 46, 3) := by decide +kernel
theorem dX1_isFree_29 : decode cX1_isFree 29 = .ok (.ifCond .eq 19, 3) := by decide +kernel
theorem dX1_isFree_32 : decode cX1_isFree 32 = .ok (.aload_n 0, 1) := by decide +kernel
theorem dX1_isFree_33 : decode cX1_isFree 33 = .ok (.getfield 9, 3) := by decide +kernel
theorem dX1_isFree_36 : decode cX1_isFree 36 = .ok (.iload 6, 2) := by decide +kernel
theorem dX1_isFree_38 : decode cX1_isFree 38 = .ok (.laload, 1) := by decide +kernel
theorem dX1_isFree_39 : decode cX1_isFree 39 = .ok (.iload_n 1, 1) := by decide +kernel
theorem dX1_isFree_40 : decode cX1_isFree 40 = .ok (.invokestatic 46, 3) := by decide +kernel
theorem dX1_isFree_43 : decode cX1_isFree 43 = .ok (.ifCond .ne 5, 3) := by decide +kernel
theorem dX1_isFree_46 : decode cX1_isFree 46 = .ok (.iconst 0, 1) := by decide +kernel
theorem dX1_isFree_47 : decode cX1_isFree 47 = .ok (.ireturn, 1) := by decide +kernel
theorem dX1_isFree_48 : decode cX1_isFree 48 = .ok (.iinc 6 1, 3) := by decide +kernel
theorem dX1_isFree_51 : decode cX1_isFree 51 = .ok (.goto (-38), 3) := by decide +kernel
theorem dX1_isFree_54 : decode cX1_isFree 54 = .ok (.iconst 1, 1) := by decide +kernel
theorem dX1_isFree_55 : decode cX1_isFree 55 = .ok (.ireturn, 1) := by decide +kernel
theorem dX1_holds_0 : decode cX1_holds 0 = .ok (.lload_n 0, 1) := by decide +kernel
theorem dX1_holds_1 : decode cX1_holds 1 = .ok (.iload_n 2, 1) := by decide +kernel
theorem dX1_holds_2 : decode cX1_holds 2 = .ok (.lushr, 1) := by decide +kernel
theorem dX1_holds_3 : decode cX1_holds 3 = .ok (.lconst 1, 1) := by decide +kernel
theorem dX1_holds_4 : decode cX1_holds 4 = .ok (.land, 1) := by decide +kernel
theorem dX1_holds_5 : decode cX1_holds 5 = .ok (.lconst 1, 1) := by decide +kernel
theorem dX1_holds_6 : decode cX1_holds 6 = .ok (.lcmp, 1) := by decide +kernel
theorem dX1_holds_7 : decode cX1_holds 7 = .ok (.ifCond .ne 7, 3) := by decide +kernel
theorem dX1_holds_10 : decode cX1_holds 10 = .ok (.iconst 1, 1) := by decide +kernel
theorem dX1_holds_11 : decode cX1_holds 11 = .ok (.goto 4, 3) := by decide +kernel
theorem dX1_holds_14 : decode cX1_holds 14 = .ok (.iconst 0, 1) := by decide +kernel
theorem dX1_holds_15 : decode cX1_holds 15 = .ok (.ireturn, 1) := by decide +kernel
theorem dX2_init_0 : decode cX2_init 0 = .ok (.aload_n 0, 1) := by decide +kernel
theorem dX2_init_1 : decode cX2_init 1 = .ok (.invokespecial 3, 3) := by decide +kernel
theorem dX2_init_4 : decode cX2_init 4 = .ok (.aload_n 0, 1) := by decide +kernel
theorem dX2_init_5 : decode cX2_init 5 = .ok (.bipush 30, 2) := by decide +kernel
theorem dX2_init_7 : decode cX2_init 7 = .ok (.newarray .int, 2) := by decide +kernel
theorem dX2_init_9 : decode cX2_init 9 = .ok (.putfield 9, 3) := by decide +kernel
theorem dX2_init_12 : decode cX2_init 12 = .ok (.return_, 1) := by decide +kernel
theorem dX2_kindOrNone_0 : decode cX2_kindOrNone 0 = .ok (.iload_n 1, 1) := by decide +kernel
theorem dX2_kindOrNone_1 : decode cX2_kindOrNone 1 = .ok (.ifCond .lt 20, 3) := by decide +kernel
theorem dX2_kindOrNone_4 : decode cX2_kindOrNone 4 = .ok (.iload_n 1, 1) := by decide +kernel
theorem dX2_kindOrNone_5 : decode cX2_kindOrNone 5 = .ok (.aload_n 0, 1) := by decide +kernel
theorem dX2_kindOrNone_6 : decode cX2_kindOrNone 6 = .ok (.getfield 15, 3) := by decide +kernel
theorem dX2_kindOrNone_9 : decode cX2_kindOrNone 9 = .ok (.if_icmp .ge 12, 3) := by decide +kernel
theorem dX2_kindOrNone_12 : decode cX2_kindOrNone 12 = .ok (.aload_n 0, 1) := by decide +kernel
theorem dX2_kindOrNone_13 : decode cX2_kindOrNone 13 = .ok (.getfield 9, 3) := by decide +kernel
theorem dX2_kindOrNone_16 : decode cX2_kindOrNone 16 = .ok (.iload_n 1, 1) := by decide +kernel
theorem dX2_kindOrNone_17 : decode cX2_kindOrNone 17 = .ok (.iaload, 1) := by decide +kernel
theorem dX2_kindOrNone_18 : decode cX2_kindOrNone 18 = .ok (.goto 4, 3) := by decide +kernel
theorem dX2_kindOrNone_21 : decode cX2_kindOrNone 21 = .ok (.iconst (-1), 1) := by decide +kernel
theorem dX2_kindOrNone_22 : decode cX2_kindOrNone 22 = .ok (.ireturn, 1) := by decide +kernel
theorem dX2_append_0 : decode cX2_append 0 = .ok (.aload_n 0, 1) := by decide +kernel
theorem dX2_append_1 : decode cX2_append 1 = .ok (.getfield 15, 3) := by decide +kernel
theorem dX2_append_4 : decode cX2_append 4 = .ok (.bipush 30, 2) := by decide +kernel
theorem dX2_append_6 : decode cX2_append 6 = .ok (.if_icmp .ge 23, 3) := by decide +kernel
theorem dX2_append_9 : decode cX2_append 9 = .ok (.aload_n 0, 1) := by decide +kernel
theorem dX2_append_10 : decode cX2_append 10 = .ok (.getfield 9, 3) := by decide +kernel
theorem dX2_append_13 : decode cX2_append 13 = .ok (.aload_n 0, 1) := by decide +kernel
theorem dX2_append_14 : decode cX2_append 14 = .ok (.getfield 15, 3) := by decide +kernel
theorem dX2_append_17 : decode cX2_append 17 = .ok (.iload_n 1, 1) := by decide +kernel
theorem dX2_append_18 : decode cX2_append 18 = .ok (.iastore, 1) := by decide +kernel
theorem dX2_append_19 : decode cX2_append 19 = .ok (.aload_n 0, 1) := by decide +kernel
theorem dX2_append_20 : decode cX2_append 20 = .ok (.dup, 1) := by decide +kernel
theorem dX2_append_21 : decode cX2_append 21 = .ok (.getfield 15, 3) := by decide +kernel
theorem dX2_append_24 : decode cX2_append 24 = .ok (.iconst 1, 1) := by decide +kernel
theorem dX2_append_25 : decode cX2_append 25 = .ok (.iadd, 1) := by decide +kernel
theorem dX2_append_26 : decode cX2_append 26 = .ok (.putfield 15, 3) := by decide +kernel
theorem dX2_append_29 : decode cX2_append 29 = .ok (.return_, 1) := by decide +kernel
theorem dX2_appendRepeated_0 : decode cX2_appendRepeated 0 = .ok (.iconst 0, 1) := by decide +kernel
theorem dX2_appendRepeated_1 : decode cX2_appendRepeated 1 = .ok (.istore_n 3, 1) := by decide +kernel
theorem dX2_appendRepeated_2 : decode cX2_appendRepeated 2 = .ok (.iload_n 3, 1) := by decide +kernel
theorem dX2_appendRepeated_3 : decode cX2_appendRepeated 3 = .ok (.iload_n 2, 1) := by decide +kernel
theorem dX2_appendRepeated_4 : decode cX2_appendRepeated 4 = .ok (.if_icmp .ge 24, 3) := by decide +kernel
theorem dX2_appendRepeated_7 : decode cX2_appendRepeated 7 = .ok (.aload_n 0, 1) := by decide +kernel
theorem dX2_appendRepeated_8 : decode cX2_appendRepeated 8 = .ok (.aload_n 0, 1) := by decide +kernel
theorem dX2_appendRepeated_9 : decode cX2_appendRepeated 9 = .ok (.getfield 9, 3) := by decide +kernel
theorem dX2_appendRepeated_12 : decode cX2_appendRepeated 12 = .ok (.aload_n 0, 1) := by decide +kernel
theorem dX2_appendRepeated_13 : decode cX2_appendRepeated 13 = .ok (.getfield 15, 3) := by decide +kernel
theorem dX2_appendRepeated_16 : decode cX2_appendRepeated 16 = .ok (.iload_n 1, 1) := by decide +kernel
theorem dX2_appendRepeated_17 : decode cX2_appendRepeated 17 = .ok (.isub, 1) := by decide +kernel
theorem dX2_appendRepeated_18 : decode cX2_appendRepeated 18 = .ok (.iaload, 1) := by decide +kernel
theorem dX2_appendRepeated_19 : decode cX2_appendRepeated 19 = .ok (.invokevirtual 19, 3) := by decide +kernel
theorem dX2_appendRepeated_22 : decode cX2_appendRepeated 22 = .ok (.iinc 3 1, 3) := by decide +kernel
theorem dX2_appendRepeated_25 : decode cX2_appendRepeated 25 = .ok (.goto (-23), 3) := by decide +kernel
theorem dX2_appendRepeated_28 : decode cX2_appendRepeated 28 = .ok (.return_, 1) := by decide +kernel
theorem dX2_appendTurned_0 : decode cX2_appendTurned 0 = .ok (.aload_n 0, 1) := by decide +kernel
theorem dX2_appendTurned_1 : decode cX2_appendTurned 1 = .ok (.getfield 15, 3) := by decide +kernel
theorem dX2_appendTurned_4 : decode cX2_appendTurned 4 = .ok (.iconst 1, 1) := by decide +kernel
theorem dX2_appendTurned_5 : decode cX2_appendTurned 5 = .ok (.isub, 1) := by decide +kernel
theorem dX2_appendTurned_6 : decode cX2_appendTurned 6 = .ok (.istore_n 2, 1) := by decide +kernel
theorem dX2_appendTurned_7 : decode cX2_appendTurned 7 = .ok (.iconst 1, 1) := by decide +kernel
theorem dX2_appendTurned_8 : decode cX2_appendTurned 8 = .ok (.istore_n 3, 1) := by decide +kernel
theorem dX2_appendTurned_9 : decode cX2_appendTurned 9 = .ok (.iload_n 3, 1) := by decide +kernel
theorem dX2_appendTurned_10 : decode cX2_appendTurned 10 = .ok (.iload_n 1, 1) := by decide +kernel
theorem dX2_appendTurned_11 : decode cX2_appendTurned 11 = .ok (.if_icmp .ge 21, 3) := by decide +kernel
theorem dX2_appendTurned_14 : decode cX2_appendTurned 14 = .ok (.aload_n 0, 1) := by decide +kernel
theorem dX2_appendTurned_15 : decode cX2_appendTurned 15 = .ok (.aload_n 0, 1) := by decide +kernel
theorem dX2_appendTurned_16 : decode cX2_appendTurned 16 = .ok (.getfield 9, 3) := by decide +kernel
theorem dX2_appendTurned_19 : decode cX2_appendTurned 19 = .ok (.iload_n 2, 1) := by decide +kernel
theorem dX2_appendTurned_20 : decode cX2_appendTurned 20 = .ok (.iload_n 3, 1) := by decide +kernel
theorem dX2_appendTurned_21 : decode cX2_appendTurned 21 = .ok (.isub, 1) := by decide +kernel
theorem dX2_appendTurned_22 : decode cX2_appendTurned 22 = .ok (.iaload, 1) := by decide +kernel
theorem dX2_appendTurned_23 : decode cX2_appendTurned 23 = .ok (.invokevirtual 19, 3) := by decide +kernel
theorem dX2_appendTurned_26 : decode cX2_appendTurned 26 = .ok (.iinc 3 1, 3) := by decide +kernel
theorem dX2_appendTurned_29 : decode cX2_appendTurned 29 = .ok (.goto (-20), 3) := by decide +kernel
theorem dX2_appendTurned_32 : decode cX2_appendTurned 32 = .ok (.return_, 1) := by decide +kernel
theorem dX2_copyFrom_0 : decode cX2_copyFrom 0 = .ok (.aload_n 1, 1) := by decide +kernel
theorem dX2_copyFrom_1 : decode cX2_copyFrom 1 = .ok (.getfield 9, 3) := by decide +kernel
theorem dX2_copyFrom_4 : decode cX2_copyFrom 4 = .ok (.iconst 0, 1) := by decide +kernel
theorem dX2_copyFrom_5 : decode cX2_copyFrom 5 = .ok (.aload_n 0, 1) := by decide +kernel
theorem dX2_copyFrom_6 : decode cX2_copyFrom 6 = .ok (.getfield 9, 3) := by decide +kernel
theorem dX2_copyFrom_9 : decode cX2_copyFrom 9 = .ok (.iconst 0, 1) := by decide +kernel
theorem dX2_copyFrom_10 : decode cX2_copyFrom 10 = .ok (.aload_n 1, 1) := by decide +kernel
theorem dX2_copyFrom_11 : decode cX2_copyFrom 11 = .ok (.getfield 15, 3) := by decide +kernel
theorem dX2_copyFrom_14 : decode cX2_copyFrom 14 = .ok (.invokestatic 23, 3) := by decide +kernel
theorem dX2_copyFrom_17 : decode cX2_copyFrom 17 = .ok (.aload_n 0, 1) := by decide +kernel
theorem dX2_copyFrom_18 : decode cX2_copyFrom 18 = .ok (.aload_n 1, 1) := by decide +kernel
theorem dX2_copyFrom_19 : decode cX2_copyFrom 19 = .ok (.getfield 15, 3) := by decide +kernel
theorem dX2_copyFrom_22 : decode cX2_copyFrom 22 = .ok (.putfield 15, 3) := by decide +kernel
theorem dX2_copyFrom_25 : decode cX2_copyFrom 25 = .ok (.return_, 1) := by decide +kernel
theorem dX2_numberLines_0 : decode cX2_numberLines 0 = .ok (.aload_n 0, 1) := by decide +kernel
theorem dX2_numberLines_1 : decode cX2_numberLines 1 = .ok (.aload_n 1, 1) := by decide +kernel
theorem dX2_numberLines_2 : decode cX2_numberLines 2 = .ok (.iload_n 2, 1) := by decide +kernel
theorem dX2_numberLines_3 : decode cX2_numberLines 3 = .ok (.invokevirtual 29, 3) := by decide +kernel
theorem dX2_numberLines_6 : decode cX2_numberLines 6 = .ok (.putfield 15, 3) := by decide +kernel
theorem dX2_numberLines_9 : decode cX2_numberLines 9 = .ok (.iconst 0, 1) := by decide +kernel
theorem dX2_numberLines_10 : decode cX2_numberLines 10 = .ok (.istore_n 3, 1) := by decide +kernel
theorem dX2_numberLines_11 : decode cX2_numberLines 11 = .ok (.iconst 0, 1) := by decide +kernel
theorem dX2_numberLines_12 : decode cX2_numberLines 12 = .ok (.istore 4, 2) := by decide +kernel
theorem dX2_numberLines_14 : decode cX2_numberLines 14 = .ok (.iload 4, 2) := by decide +kernel
theorem dX2_numberLines_16 : decode cX2_numberLines 16 = .ok (.aload_n 0, 1) := by decide +kernel
theorem dX2_numberLines_17 : decode cX2_numberLines 17 = .ok (.getfield 15, 3) := by decide +kernel
theorem dX2_numberLines_20 : decode cX2_numberLines 20 = .ok (.if_icmp .ge 53, 3) := by decide +kernel
theorem dX2_numberLines_23 : decode cX2_numberLines 23 = .ok (.aload_n 1, 1) := by decide +kernel
theorem dX2_numberLines_24 : decode cX2_numberLines 24 = .ok (.iload_n 2, 1) := by decide +kernel
theorem dX2_numberLines_25 : decode cX2_numberLines 25 = .ok (.iload 4, 2) := by decide +kernel
theorem dX2_numberLines_27 : decode cX2_numberLines 27 = .ok (.invokevirtual 35, 3) := by decide +kernel
theorem dX2_numberLines_30 : decode cX2_numberLines 30 = .ok (.istore 5, 2) := by decide +kernel
theorem dX2_numberLines_32 : decode cX2_numberLines 32 = .ok (.iload 5, 2) := by decide +kernel
theorem dX2_numberLines_34 : decode cX2_numberLines 34 = .ok (.iload 4, 2) := by decide +kernel
theorem dX2_numberLines_36 : decode cX2_numberLines 36 = .ok (.if_icmp .ge 20, 3) := by decide +kernel
theorem dX2_numberLines_39 : decode cX2_numberLines 39 = .ok (.aload_n 0, 1) := by decide +kernel
theorem dX2_numberLines_40 : decode cX2_numberLines 40 = .ok (.getfield 9, 3) := by decide +kernel
theorem dX2_numberLines_43 : decode cX2_numberLines 43 = .ok (.iload 4, 2) := by decide +kernel
theorem dX2_numberLines_45 : decode cX2_numberLines 45 = .ok (.aload_n 0, 1) := by decide +kernel
theorem dX2_numberLines_46 : decode cX2_numberLines 46 = .ok (.getfield 9, 3) := by decide +kernel
theorem dX2_numberLines_49 : decode cX2_numberLines 49 = .ok (.iload 5, 2) := by decide +kernel
theorem dX2_numberLines_51 : decode cX2_numberLines 51 = .ok (.iaload, 1) := by decide +kernel
theorem dX2_numberLines_52 : decode cX2_numberLines 52 = .ok (.iastore, 1) := by decide +kernel
theorem dX2_numberLines_53 : decode cX2_numberLines 53 = .ok (.goto 14, 3) := by decide +kernel
theorem dX2_numberLines_56 : decode cX2_numberLines 56 = .ok (.aload_n 0, 1) := by decide +kernel
theorem dX2_numberLines_57 : decode cX2_numberLines 57 = .ok (.getfield 9, 3) := by decide +kernel
theorem dX2_numberLines_60 : decode cX2_numberLines 60 = .ok (.iload 4, 2) := by decide +kernel
theorem dX2_numberLines_62 : decode cX2_numberLines 62 = .ok (.iload_n 3, 1) := by decide +kernel
theorem dX2_numberLines_63 : decode cX2_numberLines 63 = .ok (.iastore, 1) := by decide +kernel
theorem dX2_numberLines_64 : decode cX2_numberLines 64 = .ok (.iinc 3 1, 3) := by decide +kernel
theorem dX2_numberLines_67 : decode cX2_numberLines 67 = .ok (.iinc 4 1, 3) := by decide +kernel
theorem dX2_numberLines_70 : decode cX2_numberLines 70 = .ok (.goto (-56), 3) := by decide +kernel
theorem dX2_numberLines_73 : decode cX2_numberLines 73 = .ok (.iload_n 3, 1) := by decide +kernel
theorem dX2_numberLines_74 : decode cX2_numberLines 74 = .ok (.ireturn, 1) := by decide +kernel
theorem dX3_init_0 : decode cX3_init 0 = .ok (.aload_n 0, 1) := by decide +kernel
theorem dX3_init_1 : decode cX3_init 1 = .ok (.invokespecial 1, 3) := by decide +kernel
theorem dX3_init_4 : decode cX3_init 4 = .ok (.aload_n 0, 1) := by decide +kernel
theorem dX3_init_5 : decode cX3_init 5 = .ok (.new 7, 3) := by decide +kernel
theorem dX3_init_8 : decode cX3_init 8 = .ok (.dup, 1) := by decide +kernel
theorem dX3_init_9 : decode cX3_init 9 = .ok (.invokespecial 9, 3) := by decide +kernel
theorem dX3_init_12 : decode cX3_init 12 = .ok (.putfield 10, 3) := by decide +kernel
theorem dX3_init_15 : decode cX3_init 15 = .ok (.aload_n 0, 1) := by decide +kernel
theorem dX3_init_16 : decode cX3_init 16 = .ok (.new 7, 3) := by decide +kernel
theorem dX3_init_19 : decode cX3_init 19 = .ok (.dup, 1) := by decide +kernel
theorem dX3_init_20 : decode cX3_init 20 = .ok (.invokespecial 9, 3) := by decide +kernel
theorem dX3_init_23 : decode cX3_init 23 = .ok (.putfield 16, 3) := by decide +kernel
theorem dX3_init_26 : decode cX3_init 26 = .ok (.aload_n 0, 1) := by decide +kernel
theorem dX3_init_27 : decode cX3_init 27 = .ok (.bipush 12, 2) := by decide +kernel
theorem dX3_init_29 : decode cX3_init 29 = .ok (.newarray .int, 2) := by decide +kernel
theorem dX3_init_31 : decode cX3_init 31 = .ok (.putfield 19, 3) := by decide +kernel
theorem dX3_init_34 : decode cX3_init 34 = .ok (.aload_n 0, 1) := by decide +kernel
theorem dX3_init_35 : decode cX3_init 35 = .ok (.bipush 30, 2) := by decide +kernel
theorem dX3_init_37 : decode cX3_init 37 = .ok (.newarray .int, 2) := by decide +kernel
theorem dX3_init_39 : decode cX3_init 39 = .ok (.putfield 23, 3) := by decide +kernel
theorem dX3_init_42 : decode cX3_init 42 = .ok (.aload_n 0, 1) := by decide +kernel
theorem dX3_init_43 : decode cX3_init 43 = .ok (.bipush 30, 2) := by decide +kernel
theorem dX3_init_45 : decode cX3_init 45 = .ok (.newarray .int, 2) := by decide +kernel
theorem dX3_init_47 : decode cX3_init 47 = .ok (.putfield 26, 3) := by decide +kernel
theorem dX3_init_50 : decode cX3_init 50 = .ok (.aload_n 0, 1) := by decide +kernel
theorem dX3_init_51 : decode cX3_init 51 = .ok (.new 29, 3) := by decide +kernel
theorem dX3_init_54 : decode cX3_init 54 = .ok (.dup, 1) := by decide +kernel
theorem dX3_init_55 : decode cX3_init 55 = .ok (.invokespecial 31, 3) := by decide +kernel
theorem dX3_init_58 : decode cX3_init 58 = .ok (.putfield 32, 3) := by decide +kernel
theorem dX3_init_61 : decode cX3_init 61 = .ok (.aload_n 0, 1) := by decide +kernel
theorem dX3_init_62 : decode cX3_init 62 = .ok (.new 36, 3) := by decide +kernel
theorem dX3_init_65 : decode cX3_init 65 = .ok (.dup, 1) := by decide +kernel
theorem dX3_init_66 : decode cX3_init 66 = .ok (.invokespecial 38, 3) := by decide +kernel
theorem dX3_init_69 : decode cX3_init 69 = .ok (.putfield 39, 3) := by decide +kernel
theorem dX3_init_72 : decode cX3_init 72 = .ok (.aload_n 0, 1) := by decide +kernel
theorem dX3_init_73 : decode cX3_init 73 = .ok (.new 29, 3) := by decide +kernel
theorem dX3_init_76 : decode cX3_init 76 = .ok (.dup, 1) := by decide +kernel
theorem dX3_init_77 : decode cX3_init 77 = .ok (.invokespecial 31, 3) := by decide +kernel
theorem dX3_init_80 : decode cX3_init 80 = .ok (.putfield 43, 3) := by decide +kernel
theorem dX3_init_83 : decode cX3_init 83 = .ok (.aload_n 0, 1) := by decide +kernel
theorem dX3_init_84 : decode cX3_init 84 = .ok (.new 7, 3) := by decide +kernel
theorem dX3_init_87 : decode cX3_init 87 = .ok (.dup, 1) := by decide +kernel
theorem dX3_init_88 : decode cX3_init 88 = .ok (.invokespecial 9, 3) := by decide +kernel
theorem dX3_init_91 : decode cX3_init 91 = .ok (.putfield 46, 3) := by decide +kernel
theorem dX3_init_94 : decode cX3_init 94 = .ok (.aload_n 0, 1) := by decide +kernel
theorem dX3_init_95 : decode cX3_init 95 = .ok (.new 7, 3) := by decide +kernel
theorem dX3_init_98 : decode cX3_init 98 = .ok (.dup, 1) := by decide +kernel
theorem dX3_init_99 : decode cX3_init 99 = .ok (.invokespecial 9, 3) := by decide +kernel
theorem dX3_init_102 : decode cX3_init 102 = .ok (.putfield 49, 3) := by decide +kernel
theorem dX3_init_105 : decode cX3_init 105 = .ok (.aload_n 0, 1) := by decide +kernel
theorem dX3_init_106 : decode cX3_init 106 = .ok (.getfield 43, 3) := by decide +kernel
theorem dX3_init_109 : decode cX3_init 109 = .ok (.iconst 1, 1) := by decide +kernel
theorem dX3_init_110 : decode cX3_init 110 = .ok (.iconst 1, 1) := by decide +kernel
theorem dX3_init_111 : decode cX3_init 111 = .ok (.invokevirtual 52, 3) := by decide +kernel
theorem dX3_init_114 : decode cX3_init 114 = .ok (.return_, 1) := by decide +kernel
theorem dX3_run_0 : decode cX3_run 0 = .ok (.iload_n 2, 1) := by decide +kernel
theorem dX3_run_1 : decode cX3_run 1 = .ok (.invokestatic 56, 3) := by decide +kernel
theorem dX3_run_4 : decode cX3_run 4 = .ok (.ifCond .eq 10, 3) := by decide +kernel
theorem dX3_run_7 : decode cX3_run 7 = .ok (.iload_n 3, 1) := by decide +kernel
theorem dX3_run_8 : decode cX3_run 8 = .ok (.invokestatic 56, 3) := by decide +kernel
theorem dX3_run_11 : decode cX3_run 11 = .ok (.ifCond .ne 13, 3) := by decide +kernel
theorem dX3_run_14 : decode cX3_run 14 = .ok (.new 60, 3) := by decide +kernel
theorem dX3_run_17 : decode cX3_run 17 = .ok (.dup, 1) := by decide +kernel
theorem dX3_run_18 : decode cX3_run 18 = .ok (.ldc 62, 2) := by decide +kernel
theorem dX3_run_20 : decode cX3_run 20 = .ok (.invokespecial 64, 3) := by decide +kernel
theorem dX3_run_23 : decode cX3_run 23 = .ok (.athrow, 1) := by decide +kernel
theorem dX3_run_24 : decode cX3_run 24 = .ok (.iload_n 3, 1) := by decide +kernel
theorem dX3_run_25 : decode cX3_run 25 = .ok (.iload_n 2, 1) := by decide +kernel
theorem dX3_run_26 : decode cX3_run 26 = .ok (.isub, 1) := by decide +kernel
theorem dX3_run_27 : decode cX3_run 27 = .ok (.invokestatic 67, 3) := by decide +kernel
theorem dX3_run_30 : decode cX3_run 30 = .ok (.istore 4, 2) := by decide +kernel
theorem dX3_run_32 : decode cX3_run 32 = .ok (.aload_n 0, 1) := by decide +kernel
theorem dX3_run_33 : decode cX3_run 33 = .ok (.iload_n 1, 1) := by decide +kernel
theorem dX3_run_34 : decode cX3_run 34 = .ok (.iload 4, 2) := by decide +kernel
theorem dX3_run_36 : decode cX3_run 36 = .ok (.iconst 1, 1) := by decide +kernel
theorem dX3_run_37 : decode cX3_run 37 = .ok (.iadd, 1) := by decide +kernel
theorem dX3_run_38 : decode cX3_run 38 = .ok (.i2l, 1) := by decide +kernel
theorem dX3_run_39 : decode cX3_run 39 = .ok (.invokevirtual 73, 3) := by decide +kernel
theorem dX3_run_42 : decode cX3_run 42 = .ok (.aload_n 0, 1) := by decide +kernel
theorem dX3_run_43 : decode cX3_run 43 = .ok (.iload_n 1, 1) := by decide +kernel
theorem dX3_run_44 : decode cX3_run 44 = .ok (.invokevirtual 77, 3) := by decide +kernel
theorem dX3_run_47 : decode cX3_run 47 = .ok (.astore 5, 2) := by decide +kernel
theorem dX3_run_49 : decode cX3_run 49 = .ok (.iload_n 2, 1) := by decide +kernel
theorem dX3_run_50 : decode cX3_run 50 = .ok (.iload_n 3, 1) := by decide +kernel
theorem dX3_run_51 : decode cX3_run 51 = .ok (.if_icmp .gt 7, 3) := by decide +kernel
theorem dX3_run_54 : decode cX3_run 54 = .ok (.iconst 1, 1) := by decide +kernel
theorem dX3_run_55 : decode cX3_run 55 = .ok (.goto 4, 3) := by decide +kernel
theorem dX3_run_58 : decode cX3_run 58 = .ok (.iconst (-1), 1) := by decide +kernel
theorem dX3_run_59 : decode cX3_run 59 = .ok (.istore 6, 2) := by decide +kernel
theorem dX3_run_61 : decode cX3_run 61 = .ok (.iconst 0, 1) := by decide +kernel
theorem dX3_run_62 : decode cX3_run 62 = .ok (.istore 7, 2) := by decide +kernel
theorem dX3_run_64 : decode cX3_run 64 = .ok (.iload 7, 2) := by decide +kernel
theorem dX3_run_66 : decode cX3_run 66 = .ok (.iload 4, 2) := by decide +kernel
theorem dX3_run_68 : decode cX3_run 68 = .ok (.if_icmp .gt 21, 3) := by decide +kernel
theorem dX3_run_71 : decode cX3_run 71 = .ok (.aload 5, 2) := by decide +kernel
theorem dX3_run_73 : decode cX3_run 73 = .ok (.iload_n 2, 1) := by decide +kernel
theorem dX3_run_74 : decode cX3_run 74 = .ok (.iload 7, 2) := by decide +kernel
theorem dX3_run_76 : decode cX3_run 76 = .ok (.iload 6, 2) := by decide +kernel
theorem dX3_run_78 : decode cX3_run 78 = .ok (.imul, 1) := by decide +kernel
theorem dX3_run_79 : decode cX3_run 79 = .ok (.iadd, 1) := by decide +kernel
theorem dX3_run_80 : decode cX3_run 80 = .ok (.invokevirtual 81, 3) := by decide +kernel
theorem dX3_run_83 : decode cX3_run 83 = .ok (.iinc 7 1, 3) := by decide +kernel
theorem dX3_run_86 : decode cX3_run 86 = .ok (.goto (-22), 3) := by decide +kernel
theorem dX3_run_89 : decode cX3_run 89 = .ok (.aload 5, 2) := by decide +kernel
theorem dX3_run_91 : decode cX3_run 91 = .ok (.getfield 85, 3) := by decide +kernel
theorem dX3_run_94 : decode cX3_run 94 = .ok (.ireturn, 1) := by decide +kernel
theorem dX3_again_0 : decode cX3_again 0 = .ok (.aload_n 0, 1) := by decide +kernel
theorem dX3_again_1 : decode cX3_again 1 = .ok (.iload_n 1, 1) := by decide +kernel
theorem dX3_again_2 : decode cX3_again 2 = .ok (.invokevirtual 77, 3) := by decide +kernel
theorem dX3_again_5 : decode cX3_again 5 = .ok (.astore 5, 2) := by decide +kernel
theorem dX3_again_7 : decode cX3_again 7 = .ok (.iload_n 2, 1) := by decide +kernel
theorem dX3_again_8 : decode cX3_again 8 = .ok (.iconst 1, 1) := by decide +kernel
theorem dX3_again_9 : decode cX3_again 9 = .ok (.if_icmp .lt 12, 3) := by decide +kernel
theorem dX3_again_12 : decode cX3_again 12 = .ok (.iload_n 2, 1) := by decide +kernel
theorem dX3_again_13 : decode cX3_again 13 = .ok (.aload 5, 2) := by decide +kernel
theorem dX3_again_15 : decode cX3_again 15 = .ok (.getfield 85, 3) := by decide +kernel
theorem dX3_again_18 : decode cX3_again 18 = .ok (.if_icmp .le 13, 3) := by decide +kernel
theorem dX3_again_21 : decode cX3_again 21 = .ok (.new 60, 3) := by decide +kernel
theorem dX3_again_24 : decode cX3_again 24 = .ok (.dup, 1) := by decide +kernel
theorem dX3_again_25 : decode cX3_again 25 = .ok (.ldc 89, 2) := by decide +kernel
theorem dX3_again_27 : decode cX3_again 27 = .ok (.invokespecial 64, 3) := by decide +kernel
theorem dX3_again_30 : decode cX3_again 30 = .ok (.athrow, 1) := by decide +kernel
theorem dX3_again_31 : decode cX3_again 31 = .ok (.iload 4, 2) := by decide +kernel
theorem dX3_again_33 : decode cX3_again 33 = .ok (.ifCond .ne 17, 3) := by decide +kernel
theorem dX3_again_36 : decode cX3_again 36 = .ok (.iload_n 3, 1) := by decide +kernel
theorem dX3_again_37 : decode cX3_again 37 = .ok (.ifCond .ge 13, 3) := by decide +kernel
theorem dX3_again_40 : decode cX3_again 40 = .ok (.new 60, 3) := by decide +kernel
theorem dX3_again_43 : decode cX3_again 43 = .ok (.dup, 1) := by decide +kernel
theorem dX3_again_44 : decode cX3_again 44 = .ok (.ldc 91, 2) := by decide +kernel
theorem dX3_again_46 : decode cX3_again 46 = .ok (.invokespecial 64, 3) := by decide +kernel
theorem dX3_again_49 : decode cX3_again 49 = .ok (.athrow, 1) := by decide +kernel
theorem dX3_again_50 : decode cX3_again 50 = .ok (.iload 4, 2) := by decide +kernel
theorem dX3_again_52 : decode cX3_again 52 = .ok (.ifCond .eq 10, 3) := by decide +kernel
theorem dX3_again_55 : decode cX3_again 55 = .ok (.iload_n 2, 1) := by decide +kernel
theorem dX3_again_56 : decode cX3_again 56 = .ok (.iconst 1, 1) := by decide +kernel
theorem dX3_again_57 : decode cX3_again 57 = .ok (.isub, 1) := by decide +kernel
theorem dX3_again_58 : decode cX3_again 58 = .ok (.i2l, 1) := by decide +kernel
theorem dX3_again_59 : decode cX3_again 59 = .ok (.goto 8, 3) := by decide +kernel
theorem dX3_again_62 : decode cX3_again 62 = .ok (.iload_n 2, 1) := by decide +kernel
theorem dX3_again_63 : decode cX3_again 63 = .ok (.i2l, 1) := by decide +kernel
theorem dX3_again_64 : decode cX3_again 64 = .ok (.iload_n 3, 1) := by decide +kernel
theorem dX3_again_65 : decode cX3_again 65 = .ok (.i2l, 1) := by decide +kernel
theorem dX3_again_66 : decode cX3_again 66 = .ok (.lmul, 1) := by decide +kernel
theorem dX3_again_67 : decode cX3_again 67 = .ok (.lstore 6, 2) := by decide +kernel
theorem dX3_again_69 : decode cX3_again 69 = .ok (.aload_n 0, 1) := by decide +kernel
theorem dX3_again_70 : decode cX3_again 70 = .ok (.iload_n 1, 1) := by decide +kernel
theorem dX3_again_71 : decode cX3_again 71 = .ok (.lload 6, 2) := by decide +kernel
theorem dX3_again_73 : decode cX3_again 73 = .ok (.invokevirtual 73, 3) := by decide +kernel
theorem dX3_again_76 : decode cX3_again 76 = .ok (.iload 4, 2) := by decide +kernel
theorem dX3_again_78 : decode cX3_again 78 = .ok (.ifCond .eq 12, 3) := by decide +kernel
theorem dX3_again_81 : decode cX3_again 81 = .ok (.aload 5, 2) := by decide +kernel
theorem dX3_again_83 : decode cX3_again 83 = .ok (.iload_n 2, 1) := by decide +kernel
theorem dX3_again_84 : decode cX3_again 84 = .ok (.invokevirtual 93, 3) := by decide +kernel
theorem dX3_again_87 : decode cX3_again 87 = .ok (.goto 12, 3) := by decide +kernel
theorem dX3_again_90 : decode cX3_again 90 = .ok (.aload 5, 2) := by decide +kernel
theorem dX3_again_92 : decode cX3_again 92 = .ok (.iload_n 2, 1) := by decide +kernel
theorem dX3_again_93 : decode cX3_again 93 = .ok (.lload 6, 2) := by decide +kernel
theorem dX3_again_95 : decode cX3_again 95 = .ok (.l2i, 1) := by decide +kernel
theorem dX3_again_96 : decode cX3_again 96 = .ok (.invokevirtual 96, 3) := by decide +kernel
theorem dX3_again_99 : decode cX3_again 99 = .ok (.aload 5, 2) := by decide +kernel
theorem dX3_again_101 : decode cX3_again 101 = .ok (.getfield 85, 3) := by decide +kernel
theorem dX3_again_104 : decode cX3_again 104 = .ok (.ireturn, 1) := by decide +kernel
theorem dX3_clear_0 : decode cX3_clear 0 = .ok (.iload_n 1, 1) := by decide +kernel
theorem dX3_clear_1 : decode cX3_clear 1 = .ok (.ifCond .eq 23, 3) := by decide +kernel
theorem dX3_clear_4 : decode cX3_clear 4 = .ok (.aload_n 0, 1) := by decide +kernel
theorem dX3_clear_5 : decode cX3_clear 5 = .ok (.getfield 32, 3) := by decide +kernel
theorem dX3_clear_8 : decode cX3_clear 8 = .ok (.getfield 99, 3) := by decide +kernel
theorem dX3_clear_11 : decode cX3_clear 11 = .ok (.ifCond .le 13, 3) := by decide +kernel
theorem dX3_clear_14 : decode cX3_clear 14 = .ok (.new 102, 3) := by decide +kernel
theorem dX3_clear_17 : decode cX3_clear 17 = .ok (.dup, 1) := by decide +kernel
theorem dX3_clear_18 : decode cX3_clear 18 = .ok (.ldc 104, 2) := by decide +kernel
theorem dX3_clear_20 : decode cX3_clear 20 = .ok (.invokespecial 106, 3) := by decide +kernel
theorem dX3_clear_23 : decode cX3_clear 23 = .ok (.athrow, 1) := by decide +kernel
theorem dX3_clear_24 : decode cX3_clear 24 = .ok (.aload_n 0, 1) := by decide +kernel
theorem dX3_clear_25 : decode cX3_clear 25 = .ok (.iload_n 1, 1) := by decide +kernel
theorem dX3_clear_26 : decode cX3_clear 26 = .ok (.invokevirtual 77, 3) := by decide +kernel
theorem dX3_clear_29 : decode cX3_clear 29 = .ok (.astore_n 2, 1) := by decide +kernel
theorem dX3_clear_30 : decode cX3_clear 30 = .ok (.aload_n 2, 1) := by decide +kernel
theorem dX3_clear_31 : decode cX3_clear 31 = .ok (.iload_n 1, 1) := by decide +kernel
theorem dX3_clear_32 : decode cX3_clear 32 = .ok (.ifCond .eq 7, 3) := by decide +kernel
theorem dX3_clear_35 : decode cX3_clear 35 = .ok (.iconst 0, 1) := by decide +kernel
theorem dX3_clear_36 : decode cX3_clear 36 = .ok (.goto 10, 3) := by decide +kernel
theorem dX3_clear_39 : decode cX3_clear 39 = .ok (.aload_n 0, 1) := by decide +kernel
theorem dX3_clear_40 : decode cX3_clear 40 = .ok (.getfield 32, 3) := by decide +kernel
theorem dX3_clear_43 : decode cX3_clear 43 = .ok (.getfield 99, 3) := by decide +kernel
theorem dX3_clear_46 : decode cX3_clear 46 = .ok (.putfield 85, 3) := by decide +kernel
theorem dX3_clear_49 : decode cX3_clear 49 = .ok (.aload_n 2, 1) := by decide +kernel
theorem dX3_clear_50 : decode cX3_clear 50 = .ok (.getfield 85, 3) := by decide +kernel
theorem dX3_clear_53 : decode cX3_clear 53 = .ok (.ireturn, 1) := by decide +kernel
theorem dX3_tie_0 : decode cX3_tie 0 = .ok (.iload_n 1, 1) := by decide +kernel
theorem dX3_tie_1 : decode cX3_tie 1 = .ok (.invokestatic 56, 3) := by decide +kernel
theorem dX3_tie_4 : decode cX3_tie 4 = .ok (.ifCond .eq 10, 3) := by decide +kernel
theorem dX3_tie_7 : decode cX3_tie 7 = .ok (.iload_n 2, 1) := by decide +kernel
theorem dX3_tie_8 : decode cX3_tie 8 = .ok (.invokestatic 56, 3) := by decide +kernel
theorem dX3_tie_11 : decode cX3_tie 11 = .ok (.ifCond .ne 13, 3) := by decide +kernel
theorem dX3_tie_14 : decode cX3_tie 14 = .ok (.new 60, 3) := by decide +kernel
theorem dX3_tie_17 : decode cX3_tie 17 = .ok (.dup, 1) := by decide +kernel
theorem dX3_tie_18 : decode cX3_tie 18 = .ok (.ldc 62, 2) := by decide +kernel
theorem dX3_tie_20 : decode cX3_tie 20 = .ok (.invokespecial 64, 3) := by decide +kernel
theorem dX3_tie_23 : decode cX3_tie 23 = .ok (.athrow, 1) := by decide +kernel
theorem dX3_tie_24 : decode cX3_tie 24 = .ok (.aload_n 0, 1) := by decide +kernel
theorem dX3_tie_25 : decode cX3_tie 25 = .ok (.iload_n 1, 1) := by decide +kernel
theorem dX3_tie_26 : decode cX3_tie 26 = .ok (.iload_n 2, 1) := by decide +kernel
theorem dX3_tie_27 : decode cX3_tie 27 = .ok (.invokevirtual 107, 3) := by decide +kernel
theorem dX3_tie_30 : decode cX3_tie 30 = .ok (.istore 4, 2) := by decide +kernel
theorem dX3_tie_32 : decode cX3_tie 32 = .ok (.aload_n 0, 1) := by decide +kernel
theorem dX3_tie_33 : decode cX3_tie 33 = .ok (.getfield 19, 3) := by decide +kernel
theorem dX3_tie_36 : decode cX3_tie 36 = .ok (.iload_n 1, 1) := by decide +kernel
theorem dX3_tie_37 : decode cX3_tie 37 = .ok (.aload_n 0, 1) := by decide +kernel
theorem dX3_tie_38 : decode cX3_tie 38 = .ok (.getfield 19, 3) := by decide +kernel
theorem dX3_tie_41 : decode cX3_tie 41 = .ok (.iload_n 1, 1) := by decide +kernel
theorem dX3_tie_42 : decode cX3_tie 42 = .ok (.iaload, 1) := by decide +kernel
theorem dX3_tie_43 : decode cX3_tie 43 = .ok (.iload_n 2, 1) := by decide +kernel
theorem dX3_tie_44 : decode cX3_tie 44 = .ok (.iload_n 3, 1) := by decide +kernel
theorem dX3_tie_45 : decode cX3_tie 45 = .ok (.invokestatic 111, 3) := by decide +kernel
theorem dX3_tie_48 : decode cX3_tie 48 = .ok (.iastore, 1) := by decide +kernel
theorem dX3_tie_49 : decode cX3_tie 49 = .ok (.iload 4, 2) := by decide +kernel
theorem dX3_tie_51 : decode cX3_tie 51 = .ok (.ireturn, 1) := by decide +kernel
theorem dX3_draft_0 : decode cX3_draft 0 = .ok (.iload_n 1, 1) := by decide +kernel
theorem dX3_draft_1 : decode cX3_draft 1 = .ok (.tableswitch 88 0 5 #[39, 48, 57, 64, 72, 80], 39) := by decide +kernel
theorem dX3_draft_40 : decode cX3_draft 40 = .ok (.aload_n 0, 1) := by decide +kernel
theorem dX3_draft_41 : decode cX3_draft 41 = .ok (.getfield 10, 3) := by decide +kernel
theorem dX3_draft_44 : decode cX3_draft 44 = .ok (.iload_n 2, 1) := by decide +kernel
theorem dX3_draft_45 : decode cX3_draft 45 = .ok (.invokevirtual 115, 3) := by decide +kernel
theorem dX3_draft_48 : decode cX3_draft 48 = .ok (.ireturn, 1) := by decide +kernel
theorem dX3_draft_49 : decode cX3_draft 49 = .ok (.aload_n 0, 1) := by decide +kernel
theorem dX3_draft_50 : decode cX3_draft 50 = .ok (.getfield 16, 3) := by decide +kernel
theorem dX3_draft_53 : decode cX3_draft 53 = .ok (.iload_n 2, 1) := by decide +kernel
theorem dX3_draft_54 : decode cX3_draft 54 = .ok (.invokevirtual 115, 3) := by decide +kernel
theorem dX3_draft_57 : decode cX3_draft 57 = .ok (.ireturn, 1) := by decide +kernel
theorem dX3_draft_58 : decode cX3_draft 58 = .ok (.aload_n 0, 1) := by decide +kernel
theorem dX3_draft_59 : decode cX3_draft 59 = .ok (.iload_n 2, 1) := by decide +kernel
theorem dX3_draft_60 : decode cX3_draft 60 = .ok (.iload_n 3, 1) := by decide +kernel
theorem dX3_draft_61 : decode cX3_draft 61 = .ok (.invokevirtual 118, 3) := by decide +kernel
theorem dX3_draft_64 : decode cX3_draft 64 = .ok (.ireturn, 1) := by decide +kernel
theorem dX3_draft_65 : decode cX3_draft 65 = .ok (.aload_n 0, 1) := by decide +kernel
theorem dX3_draft_66 : decode cX3_draft 66 = .ok (.getfield 10, 3) := by decide +kernel
theorem dX3_draft_69 : decode cX3_draft 69 = .ok (.getfield 85, 3) := by decide +kernel
theorem dX3_draft_72 : decode cX3_draft 72 = .ok (.ireturn, 1) := by decide +kernel
theorem dX3_draft_73 : decode cX3_draft 73 = .ok (.aload_n 0, 1) := by decide +kernel
theorem dX3_draft_74 : decode cX3_draft 74 = .ok (.getfield 16, 3) := by decide +kernel
theorem dX3_draft_77 : decode cX3_draft 77 = .ok (.getfield 85, 3) := by decide +kernel
theorem dX3_draft_80 : decode cX3_draft 80 = .ok (.ireturn, 1) := by decide +kernel
theorem dX3_draft_81 : decode cX3_draft 81 = .ok (.aload_n 0, 1) := by decide +kernel
theorem dX3_draft_82 : decode cX3_draft 82 = .ok (.getfield 32, 3) := by decide +kernel
theorem dX3_draft_85 : decode cX3_draft 85 = .ok (.getfield 99, 3) := by decide +kernel
theorem dX3_draft_88 : decode cX3_draft 88 = .ok (.ireturn, 1) := by decide +kernel
theorem dX3_draft_89 : decode cX3_draft 89 = .ok (.new 60, 3) := by decide +kernel
theorem dX3_draft_92 : decode cX3_draft 92 = .ok (.dup, 1) := by decide +kernel
theorem dX3_draft_93 : decode cX3_draft 93 = .ok (.ldc 122, 2) := by decide +kernel
theorem dX3_draft_95 : decode cX3_draft 95 = .ok (.invokespecial 64, 3) := by decide +kernel
theorem dX3_draft_98 : decode cX3_draft 98 = .ok (.athrow, 1) := by decide +kernel
theorem dX3_colour_0 : decode cX3_colour 0 = .ok (.iload_n 2, 1) := by decide +kernel
theorem dX3_colour_1 : decode cX3_colour 1 = .ok (.ifCond .lt 9, 3) := by decide +kernel
theorem dX3_colour_4 : decode cX3_colour 4 = .ok (.iload_n 2, 1) := by decide +kernel
theorem dX3_colour_5 : decode cX3_colour 5 = .ok (.bipush 30, 2) := by decide +kernel
theorem dX3_colour_7 : decode cX3_colour 7 = .ok (.if_icmp .lt 13, 3) := by decide +kernel
theorem dX3_colour_10 : decode cX3_colour 10 = .ok (.new 60, 3) := by decide +kernel
theorem dX3_colour_13 : decode cX3_colour 13 = .ok (.dup, 1) := by decide +kernel
theorem dX3_colour_14 : decode cX3_colour 14 = .ok (.ldc 124, 2) := by decide +kernel
theorem dX3_colour_16 : decode cX3_colour 16 = .ok (.invokespecial 64, 3) := by decide +kernel
theorem dX3_colour_19 : decode cX3_colour 19 = .ok (.athrow, 1) := by decide +kernel
theorem dX3_colour_20 : decode cX3_colour 20 = .ok (.iload_n 3, 1) := by decide +kernel
theorem dX3_colour_21 : decode cX3_colour 21 = .ok (.ifCond .lt 9, 3) := by decide +kernel
theorem dX3_colour_24 : decode cX3_colour 24 = .ok (.iload_n 3, 1) := by decide +kernel
theorem dX3_colour_25 : decode cX3_colour 25 = .ok (.bipush 10, 2) := by decide +kernel
theorem dX3_colour_27 : decode cX3_colour 27 = .ok (.if_icmp .lt 13, 3) := by decide +kernel
theorem dX3_colour_30 : decode cX3_colour 30 = .ok (.new 60, 3) := by decide +kernel
theorem dX3_colour_33 : decode cX3_colour 33 = .ok (.dup, 1) := by decide +kernel
theorem dX3_colour_34 : decode cX3_colour 34 = .ok (.ldc 126, 2) := by decide +kernel
theorem dX3_colour_36 : decode cX3_colour 36 = .ok (.invokespecial 64, 3) := by decide +kernel
theorem dX3_colour_39 : decode cX3_colour 39 = .ok (.athrow, 1) := by decide +kernel
theorem dX3_colour_40 : decode cX3_colour 40 = .ok (.iload_n 1, 1) := by decide +kernel
theorem dX3_colour_41 : decode cX3_colour 41 = .ok (.ifCond .eq 10, 3) := by decide +kernel
theorem dX3_colour_44 : decode cX3_colour 44 = .ok (.aload_n 0, 1) := by decide +kernel
theorem dX3_colour_45 : decode cX3_colour 45 = .ok (.getfield 23, 3) := by decide +kernel
theorem dX3_colour_48 : decode cX3_colour 48 = .ok (.goto 7, 3) := by decide +kernel
theorem dX3_colour_51 : decode cX3_colour 51 = .ok (.aload_n 0, 1) := by decide +kernel
theorem dX3_colour_52 : decode cX3_colour 52 = .ok (.getfield 26, 3) := by decide +kernel
theorem dX3_colour_55 : decode cX3_colour 55 = .ok (.astore 4, 2) := by decide +kernel
theorem dX3_colour_57 : decode cX3_colour 57 = .ok (.aload 4, 2) := by decide +kernel
theorem dX3_colour_59 : decode cX3_colour 59 = .ok (.iload_n 2, 1) := by decide +kernel
theorem dX3_colour_60 : decode cX3_colour 60 = .ok (.iaload, 1) := by decide +kernel
theorem dX3_colour_61 : decode cX3_colour 61 = .ok (.istore 5, 2) := by decide +kernel
theorem dX3_colour_63 : decode cX3_colour 63 = .ok (.aload 4, 2) := by decide +kernel
theorem dX3_colour_65 : decode cX3_colour 65 = .ok (.iload_n 2, 1) := by decide +kernel
theorem dX3_colour_66 : decode cX3_colour 66 = .ok (.iload_n 3, 1) := by decide +kernel
theorem dX3_colour_67 : decode cX3_colour 67 = .ok (.iastore, 1) := by decide +kernel
theorem dX3_colour_68 : decode cX3_colour 68 = .ok (.iload 5, 2) := by decide +kernel
theorem dX3_colour_70 : decode cX3_colour 70 = .ok (.ireturn, 1) := by decide +kernel
theorem dX3_weave_0 : decode cX3_weave 0 = .ok (.iload_n 1, 1) := by decide +kernel
theorem dX3_weave_1 : decode cX3_weave 1 = .ok (.ifCond .ge 13, 3) := by decide +kernel
theorem dX3_weave_4 : decode cX3_weave 4 = .ok (.new 60, 3) := by decide +kernel
theorem dX3_weave_7 : decode cX3_weave 7 = .ok (.dup, 1) := by decide +kernel
theorem dX3_weave_8 : decode cX3_weave 8 = .ok (.ldc 128, 2) := by decide +kernel
theorem dX3_weave_10 : decode cX3_weave 10 = .ok (.invokespecial 64, 3) := by decide +kernel
theorem dX3_weave_13 : decode cX3_weave 13 = .ok (.athrow, 1) := by decide +kernel
theorem dX3_weave_14 : decode cX3_weave 14 = .ok (.aload_n 0, 1) := by decide +kernel
theorem dX3_weave_15 : decode cX3_weave 15 = .ok (.getfield 10, 3) := by decide +kernel
theorem dX3_weave_18 : decode cX3_weave 18 = .ok (.getfield 85, 3) := by decide +kernel
theorem dX3_weave_21 : decode cX3_weave 21 = .ok (.ifCond .ne 13, 3) := by decide +kernel
theorem dX3_weave_24 : decode cX3_weave 24 = .ok (.new 102, 3) := by decide +kernel
theorem dX3_weave_27 : decode cX3_weave 27 = .ok (.dup, 1) := by decide +kernel
theorem dX3_weave_28 : decode cX3_weave 28 = .ok (.ldc 130, 2) := by decide +kernel
theorem dX3_weave_30 : decode cX3_weave 30 = .ok (.invokespecial 106, 3) := by decide +kernel
theorem dX3_weave_33 : decode cX3_weave 33 = .ok (.athrow, 1) := by decide +kernel
theorem dX3_weave_34 : decode cX3_weave 34 = .ok (.iload_n 1, 1) := by decide +kernel
theorem dX3_weave_35 : decode cX3_weave 35 = .ok (.aload_n 0, 1) := by decide +kernel
theorem dX3_weave_36 : decode cX3_weave 36 = .ok (.getfield 16, 3) := by decide +kernel
theorem dX3_weave_39 : decode cX3_weave 39 = .ok (.getfield 85, 3) := by decide +kernel
theorem dX3_weave_42 : decode cX3_weave 42 = .ok (.aload_n 0, 1) := by decide +kernel
theorem dX3_weave_43 : decode cX3_weave 43 = .ok (.getfield 32, 3) := by decide +kernel
theorem dX3_weave_46 : decode cX3_weave 46 = .ok (.getfield 99, 3) := by decide +kernel
theorem dX3_weave_49 : decode cX3_weave 49 = .ok (.isub, 1) := by decide +kernel
theorem dX3_weave_50 : decode cX3_weave 50 = .ok (.invokestatic 132, 3) := by decide +kernel
theorem dX3_weave_53 : decode cX3_weave 53 = .ok (.istore_n 2, 1) := by decide +kernel
theorem dX3_weave_54 : decode cX3_weave 54 = .ok (.aload_n 0, 1) := by decide +kernel
theorem dX3_weave_55 : decode cX3_weave 55 = .ok (.getfield 32, 3) := by decide +kernel
theorem dX3_weave_58 : decode cX3_weave 58 = .ok (.aload_n 0, 1) := by decide +kernel
theorem dX3_weave_59 : decode cX3_weave 59 = .ok (.getfield 10, 3) := by decide +kernel
theorem dX3_weave_62 : decode cX3_weave 62 = .ok (.getfield 85, 3) := by decide +kernel
theorem dX3_weave_65 : decode cX3_weave 65 = .ok (.putfield 135, 3) := by decide +kernel
theorem dX3_weave_68 : decode cX3_weave 68 = .ok (.iconst 0, 1) := by decide +kernel
theorem dX3_weave_69 : decode cX3_weave 69 = .ok (.istore_n 3, 1) := by decide +kernel
theorem dX3_weave_70 : decode cX3_weave 70 = .ok (.iload_n 3, 1) := by decide +kernel
theorem dX3_weave_71 : decode cX3_weave 71 = .ok (.iload_n 2, 1) := by decide +kernel
theorem dX3_weave_72 : decode cX3_weave 72 = .ok (.if_icmp .ge 35, 3) := by decide +kernel
theorem dX3_weave_75 : decode cX3_weave 75 = .ok (.aload_n 0, 1) := by decide +kernel
theorem dX3_weave_76 : decode cX3_weave 76 = .ok (.getfield 32, 3) := by decide +kernel
theorem dX3_weave_79 : decode cX3_weave 79 = .ok (.aload_n 0, 1) := by decide +kernel
theorem dX3_weave_80 : decode cX3_weave 80 = .ok (.aload_n 0, 1) := by decide +kernel
theorem dX3_weave_81 : decode cX3_weave 81 = .ok (.getfield 16, 3) := by decide +kernel
theorem dX3_weave_84 : decode cX3_weave 84 = .ok (.getfield 138, 3) := by decide +kernel
theorem dX3_weave_87 : decode cX3_weave 87 = .ok (.aload_n 0, 1) := by decide +kernel
theorem dX3_weave_88 : decode cX3_weave 88 = .ok (.getfield 32, 3) := by decide +kernel
theorem dX3_weave_91 : decode cX3_weave 91 = .ok (.getfield 99, 3) := by decide +kernel
theorem dX3_weave_94 : decode cX3_weave 94 = .ok (.iaload, 1) := by decide +kernel
theorem dX3_weave_95 : decode cX3_weave 95 = .ok (.invokevirtual 141, 3) := by decide +kernel
theorem dX3_weave_98 : decode cX3_weave 98 = .ok (.invokevirtual 144, 3) := by decide +kernel
theorem dX3_weave_101 : decode cX3_weave 101 = .ok (.iinc 3 1, 3) := by decide +kernel
theorem dX3_weave_104 : decode cX3_weave 104 = .ok (.goto (-34), 3) := by decide +kernel
theorem dX3_weave_107 : decode cX3_weave 107 = .ok (.iload_n 2, 1) := by decide +kernel
theorem dX3_weave_108 : decode cX3_weave 108 = .ok (.ireturn, 1) := by decide +kernel
theorem dX3_unweave_0 : decode cX3_unweave 0 = .ok (.iload_n 1, 1) := by decide +kernel
theorem dX3_unweave_1 : decode cX3_unweave 1 = .ok (.ifCond .lt 14, 3) := by decide +kernel
theorem dX3_unweave_4 : decode cX3_unweave 4 = .ok (.iload_n 1, 1) := by decide +kernel
