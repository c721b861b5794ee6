theorem dX3_unweave_5 : decode cX3_unweave 5 = .ok (.aload_n 0, 1) := by decide +kernel
theorem dX3_unweave_6 : decode cX3_unweave 6 = .ok (.getfield 32, 3) := by decide +kernel
theorem dX3_unweave_9 : decode cX3_unweave 9 = .ok (.getfield 99, 3) := by decide +kernel
theorem dX3_unweave_12 : decode cX3_unweave 12 = .ok (.if_icmp .le 13, 3) := by decide +kernel
theorem dX3_unweave_15 : decode cX3_unweave 15 = .ok (.new 60, 3) := by decide +kernel
theorem dX3_unweave_18 : decode cX3_unweave 18 = .ok (.dup, 1) := by decide +kernel
theorem dX3_unweave_19 : decode cX3_unweave 19 = .ok (.ldc 147, 2) := by decide +kernel
theorem dX3_unweave_21 : decode cX3_unweave 21 = .ok (.invokespecial 64, 3) := by decide +kernel
theorem dX3_unweave_24 : decode cX3_unweave 24 = .ok (.athrow, 1) := by decide +kernel
theorem dX3_unweave_25 : decode cX3_unweave 25 = .ok (.aload_n 0, 1) := by decide +kernel
theorem dX3_unweave_26 : decode cX3_unweave 26 = .ok (.getfield 32, 3) := by decide +kernel
theorem dX3_unweave_29 : decode cX3_unweave 29 = .ok (.dup, 1) := by decide +kernel
theorem dX3_unweave_30 : decode cX3_unweave 30 = .ok (.getfield 99, 3) := by decide +kernel
theorem dX3_unweave_33 : decode cX3_unweave 33 = .ok (.iload_n 1, 1) := by decide +kernel
theorem dX3_unweave_34 : decode cX3_unweave 34 = .ok (.isub, 1) := by decide +kernel
theorem dX3_unweave_35 : decode cX3_unweave 35 = .ok (.putfield 99, 3) := by decide +kernel
theorem dX3_unweave_38 : decode cX3_unweave 38 = .ok (.return_, 1) := by decide +kernel
theorem dX3_over_0 : decode cX3_over 0 = .ok (.aload_n 0, 1) := by decide +kernel
theorem dX3_over_1 : decode cX3_over 1 = .ok (.getfield 32, 3) := by decide +kernel
theorem dX3_over_4 : decode cX3_over 4 = .ok (.iload_n 1, 1) := by decide +kernel
theorem dX3_over_5 : decode cX3_over 5 = .ok (.iload_n 2, 1) := by decide +kernel
theorem dX3_over_6 : decode cX3_over 6 = .ok (.invokevirtual 149, 3) := by decide +kernel
theorem dX3_over_9 : decode cX3_over 9 = .ok (.ifCond .ne 13, 3) := by decide +kernel
theorem dX3_over_12 : decode cX3_over 12 = .ok (.new 152, 3) := by decide +kernel
theorem dX3_over_15 : decode cX3_over 15 = .ok (.dup, 1) := by decide +kernel
theorem dX3_over_16 : decode cX3_over 16 = .ok (.ldc 154, 2) := by decide +kernel
theorem dX3_over_18 : decode cX3_over 18 = .ok (.invokespecial 156, 3) := by decide +kernel
theorem dX3_over_21 : decode cX3_over 21 = .ok (.athrow, 1) := by decide +kernel
theorem dX3_over_22 : decode cX3_over 22 = .ok (.aload_n 0, 1) := by decide +kernel
theorem dX3_over_23 : decode cX3_over 23 = .ok (.getfield 32, 3) := by decide +kernel
theorem dX3_over_26 : decode cX3_over 26 = .ok (.iload_n 1, 1) := by decide +kernel
theorem dX3_over_27 : decode cX3_over 27 = .ok (.iload_n 2, 1) := by decide +kernel
theorem dX3_over_28 : decode cX3_over 28 = .ok (.invokevirtual 157, 3) := by decide +kernel
theorem dX3_over_31 : decode cX3_over 31 = .ok (.ifCond .eq 7, 3) := by decide +kernel
theorem dX3_over_34 : decode cX3_over 34 = .ok (.iconst 1, 1) := by decide +kernel
theorem dX3_over_35 : decode cX3_over 35 = .ok (.goto 4, 3) := by decide +kernel
theorem dX3_over_38 : decode cX3_over 38 = .ok (.iconst 0, 1) := by decide +kernel
theorem dX3_over_39 : decode cX3_over 39 = .ok (.ireturn, 1) := by decide +kernel
theorem dX3_seen_0 : decode cX3_seen 0 = .ok (.aload_n 0, 1) := by decide +kernel
theorem dX3_seen_1 : decode cX3_seen 1 = .ok (.getfield 32, 3) := by decide +kernel
theorem dX3_seen_4 : decode cX3_seen 4 = .ok (.iload_n 1, 1) := by decide +kernel
theorem dX3_seen_5 : decode cX3_seen 5 = .ok (.iload_n 2, 1) := by decide +kernel
theorem dX3_seen_6 : decode cX3_seen 6 = .ok (.invokevirtual 149, 3) := by decide +kernel
theorem dX3_seen_9 : decode cX3_seen 9 = .ok (.ifCond .ne 13, 3) := by decide +kernel
theorem dX3_seen_12 : decode cX3_seen 12 = .ok (.new 152, 3) := by decide +kernel
theorem dX3_seen_15 : decode cX3_seen 15 = .ok (.dup, 1) := by decide +kernel
theorem dX3_seen_16 : decode cX3_seen 16 = .ok (.ldc 154, 2) := by decide +kernel
theorem dX3_seen_18 : decode cX3_seen 18 = .ok (.invokespecial 156, 3) := by decide +kernel
theorem dX3_seen_21 : decode cX3_seen 21 = .ok (.athrow, 1) := by decide +kernel
theorem dX3_seen_22 : decode cX3_seen 22 = .ok (.aload_n 0, 1) := by decide +kernel
theorem dX3_seen_23 : decode cX3_seen 23 = .ok (.getfield 32, 3) := by decide +kernel
theorem dX3_seen_26 : decode cX3_seen 26 = .ok (.iload_n 1, 1) := by decide +kernel
theorem dX3_seen_27 : decode cX3_seen 27 = .ok (.iload_n 2, 1) := by decide +kernel
theorem dX3_seen_28 : decode cX3_seen 28 = .ok (.invokevirtual 157, 3) := by decide +kernel
theorem dX3_seen_31 : decode cX3_seen 31 = .ok (.iload_n 3, 1) := by decide +kernel
theorem dX3_seen_32 : decode cX3_seen 32 = .ok (.if_icmp .eq 7, 3) := by decide +kernel
theorem dX3_seen_35 : decode cX3_seen 35 = .ok (.iconst 1, 1) := by decide +kernel
theorem dX3_seen_36 : decode cX3_seen 36 = .ok (.goto 4, 3) := by decide +kernel
theorem dX3_seen_39 : decode cX3_seen 39 = .ok (.iconst 0, 1) := by decide +kernel
theorem dX3_seen_40 : decode cX3_seen 40 = .ok (.istore 4, 2) := by decide +kernel
theorem dX3_seen_42 : decode cX3_seen 42 = .ok (.iload 4, 2) := by decide +kernel
theorem dX3_seen_44 : decode cX3_seen 44 = .ok (.ifCond .eq 12, 3) := by decide +kernel
theorem dX3_seen_47 : decode cX3_seen 47 = .ok (.aload_n 0, 1) := by decide +kernel
theorem dX3_seen_48 : decode cX3_seen 48 = .ok (.getfield 23, 3) := by decide +kernel
theorem dX3_seen_51 : decode cX3_seen 51 = .ok (.iload_n 1, 1) := by decide +kernel
theorem dX3_seen_52 : decode cX3_seen 52 = .ok (.iaload, 1) := by decide +kernel
theorem dX3_seen_53 : decode cX3_seen 53 = .ok (.goto 9, 3) := by decide +kernel
theorem dX3_seen_56 : decode cX3_seen 56 = .ok (.aload_n 0, 1) := by decide +kernel
theorem dX3_seen_57 : decode cX3_seen 57 = .ok (.getfield 26, 3) := by decide +kernel
theorem dX3_seen_60 : decode cX3_seen 60 = .ok (.iload_n 2, 1) := by decide +kernel
theorem dX3_seen_61 : decode cX3_seen 61 = .ok (.iaload, 1) := by decide +kernel
theorem dX3_seen_62 : decode cX3_seen 62 = .ok (.ireturn, 1) := by decide +kernel
theorem dX3_longest_0 : decode cX3_longest 0 = .ok (.aload_n 0, 1) := by decide +kernel
theorem dX3_longest_1 : decode cX3_longest 1 = .ok (.iload_n 1, 1) := by decide +kernel
theorem dX3_longest_2 : decode cX3_longest 2 = .ok (.invokevirtual 160, 3) := by decide +kernel
theorem dX3_longest_5 : decode cX3_longest 5 = .ok (.ifCond .ne 13, 3) := by decide +kernel
theorem dX3_longest_8 : decode cX3_longest 8 = .ok (.new 152, 3) := by decide +kernel
theorem dX3_longest_11 : decode cX3_longest 11 = .ok (.dup, 1) := by decide +kernel
theorem dX3_longest_12 : decode cX3_longest 12 = .ok (.ldc 163, 2) := by decide +kernel
theorem dX3_longest_14 : decode cX3_longest 14 = .ok (.invokespecial 156, 3) := by decide +kernel
theorem dX3_longest_17 : decode cX3_longest 17 = .ok (.athrow, 1) := by decide +kernel
theorem dX3_longest_18 : decode cX3_longest 18 = .ok (.iload_n 1, 1) := by decide +kernel
theorem dX3_longest_19 : decode cX3_longest 19 = .ok (.invokestatic 165, 3) := by decide +kernel
theorem dX3_longest_22 : decode cX3_longest 22 = .ok (.ifCond .eq 27, 3) := by decide +kernel
theorem dX3_longest_25 : decode cX3_longest 25 = .ok (.aload_n 0, 1) := by decide +kernel
theorem dX3_longest_26 : decode cX3_longest 26 = .ok (.getfield 32, 3) := by decide +kernel
theorem dX3_longest_29 : decode cX3_longest 29 = .ok (.iconst 1, 1) := by decide +kernel
theorem dX3_longest_30 : decode cX3_longest 30 = .ok (.iload_n 1, 1) := by decide +kernel
theorem dX3_longest_31 : decode cX3_longest 31 = .ok (.bipush 100, 2) := by decide +kernel
theorem dX3_longest_33 : decode cX3_longest 33 = .ok (.isub, 1) := by decide +kernel
theorem dX3_longest_34 : decode cX3_longest 34 = .ok (.invokevirtual 168, 3) := by decide +kernel
theorem dX3_longest_37 : decode cX3_longest 37 = .ok (.aload_n 0, 1) := by decide +kernel
theorem dX3_longest_38 : decode cX3_longest 38 = .ok (.getfield 32, 3) := by decide +kernel
theorem dX3_longest_41 : decode cX3_longest 41 = .ok (.getfield 135, 3) := by decide +kernel
theorem dX3_longest_44 : decode cX3_longest 44 = .ok (.iload_n 2, 1) := by decide +kernel
theorem dX3_longest_45 : decode cX3_longest 45 = .ok (.invokestatic 172, 3) := by decide +kernel
theorem dX3_longest_48 : decode cX3_longest 48 = .ok (.ireturn, 1) := by decide +kernel
theorem dX3_longest_49 : decode cX3_longest 49 = .ok (.aload_n 0, 1) := by decide +kernel
theorem dX3_longest_50 : decode cX3_longest 50 = .ok (.getfield 32, 3) := by decide +kernel
theorem dX3_longest_53 : decode cX3_longest 53 = .ok (.iconst 0, 1) := by decide +kernel
theorem dX3_longest_54 : decode cX3_longest 54 = .ok (.iload_n 1, 1) := by decide +kernel
theorem dX3_longest_55 : decode cX3_longest 55 = .ok (.invokevirtual 168, 3) := by decide +kernel
theorem dX3_longest_58 : decode cX3_longest 58 = .ok (.aload_n 0, 1) := by decide +kernel
theorem dX3_longest_59 : decode cX3_longest 59 = .ok (.getfield 32, 3) := by decide +kernel
theorem dX3_longest_62 : decode cX3_longest 62 = .ok (.getfield 99, 3) := by decide +kernel
theorem dX3_longest_65 : decode cX3_longest 65 = .ok (.iload_n 2, 1) := by decide +kernel
theorem dX3_longest_66 : decode cX3_longest 66 = .ok (.ifCond .ne 7, 3) := by decide +kernel
theorem dX3_longest_69 : decode cX3_longest 69 = .ok (.iconst 1, 1) := by decide +kernel
theorem dX3_longest_70 : decode cX3_longest 70 = .ok (.goto 4, 3) := by decide +kernel
theorem dX3_longest_73 : decode cX3_longest 73 = .ok (.iconst 0, 1) := by decide +kernel
theorem dX3_longest_74 : decode cX3_longest 74 = .ok (.invokestatic 172, 3) := by decide +kernel
theorem dX3_longest_77 : decode cX3_longest 77 = .ok (.ireturn, 1) := by decide +kernel
theorem dX3_layers_0 : decode cX3_layers 0 = .ok (.aload_n 0, 1) := by decide +kernel
theorem dX3_layers_1 : decode cX3_layers 1 = .ok (.invokevirtual 175, 3) := by decide +kernel
theorem dX3_layers_4 : decode cX3_layers 4 = .ok (.aload_n 0, 1) := by decide +kernel
theorem dX3_layers_5 : decode cX3_layers 5 = .ok (.getfield 39, 3) := by decide +kernel
theorem dX3_layers_8 : decode cX3_layers 8 = .ok (.aload_n 0, 1) := by decide +kernel
theorem dX3_layers_9 : decode cX3_layers 9 = .ok (.getfield 32, 3) := by decide +kernel
theorem dX3_layers_12 : decode cX3_layers 12 = .ok (.invokevirtual 178, 3) := by decide +kernel
theorem dX3_layers_15 : decode cX3_layers 15 = .ok (.ireturn, 1) := by decide +kernel
theorem dX3_layer_0 : decode cX3_layer 0 = .ok (.aload_n 0, 1) := by decide +kernel
theorem dX3_layer_1 : decode cX3_layer 1 = .ok (.invokevirtual 175, 3) := by decide +kernel
theorem dX3_layer_4 : decode cX3_layer 4 = .ok (.aload_n 0, 1) := by decide +kernel
theorem dX3_layer_5 : decode cX3_layer 5 = .ok (.iload_n 1, 1) := by decide +kernel
theorem dX3_layer_6 : decode cX3_layer 6 = .ok (.invokevirtual 160, 3) := by decide +kernel
theorem dX3_layer_9 : decode cX3_layer 9 = .ok (.ifCond .ne 13, 3) := by decide +kernel
theorem dX3_layer_12 : decode cX3_layer 12 = .ok (.new 152, 3) := by decide +kernel
theorem dX3_layer_15 : decode cX3_layer 15 = .ok (.dup, 1) := by decide +kernel
theorem dX3_layer_16 : decode cX3_layer 16 = .ok (.ldc 163, 2) := by decide +kernel
theorem dX3_layer_18 : decode cX3_layer 18 = .ok (.invokespecial 156, 3) := by decide +kernel
theorem dX3_layer_21 : decode cX3_layer 21 = .ok (.athrow, 1) := by decide +kernel
theorem dX3_layer_22 : decode cX3_layer 22 = .ok (.aload_n 0, 1) := by decide +kernel
theorem dX3_layer_23 : decode cX3_layer 23 = .ok (.getfield 39, 3) := by decide +kernel
theorem dX3_layer_26 : decode cX3_layer 26 = .ok (.aload_n 0, 1) := by decide +kernel
theorem dX3_layer_27 : decode cX3_layer 27 = .ok (.getfield 32, 3) := by decide +kernel
theorem dX3_layer_30 : decode cX3_layer 30 = .ok (.invokevirtual 178, 3) := by decide +kernel
theorem dX3_layer_33 : decode cX3_layer 33 = .ok (.pop, 1) := by decide +kernel
theorem dX3_layer_34 : decode cX3_layer 34 = .ok (.aload_n 0, 1) := by decide +kernel
theorem dX3_layer_35 : decode cX3_layer 35 = .ok (.getfield 39, 3) := by decide +kernel
theorem dX3_layer_38 : decode cX3_layer 38 = .ok (.getfield 182, 3) := by decide +kernel
theorem dX3_layer_41 : decode cX3_layer 41 = .ok (.iload_n 1, 1) := by decide +kernel
theorem dX3_layer_42 : decode cX3_layer 42 = .ok (.invokestatic 165, 3) := by decide +kernel
theorem dX3_layer_45 : decode cX3_layer 45 = .ok (.ifCond .eq 18, 3) := by decide +kernel
theorem dX3_layer_48 : decode cX3_layer 48 = .ok (.aload_n 0, 1) := by decide +kernel
theorem dX3_layer_49 : decode cX3_layer 49 = .ok (.getfield 32, 3) := by decide +kernel
theorem dX3_layer_52 : decode cX3_layer 52 = .ok (.getfield 135, 3) := by decide +kernel
theorem dX3_layer_55 : decode cX3_layer 55 = .ok (.iload_n 1, 1) := by decide +kernel
theorem dX3_layer_56 : decode cX3_layer 56 = .ok (.iadd, 1) := by decide +kernel
theorem dX3_layer_57 : decode cX3_layer 57 = .ok (.bipush 100, 2) := by decide +kernel
theorem dX3_layer_59 : decode cX3_layer 59 = .ok (.isub, 1) := by decide +kernel
theorem dX3_layer_60 : decode cX3_layer 60 = .ok (.goto 4, 3) := by decide +kernel
theorem dX3_layer_63 : decode cX3_layer 63 = .ok (.iload_n 1, 1) := by decide +kernel
theorem dX3_layer_64 : decode cX3_layer 64 = .ok (.iaload, 1) := by decide +kernel
theorem dX3_layer_65 : decode cX3_layer 65 = .ok (.ireturn, 1) := by decide +kernel
theorem dX3_period_0 : decode cX3_period 0 = .ok (.aload_n 0, 1) := by decide +kernel
theorem dX3_period_1 : decode cX3_period 1 = .ok (.invokevirtual 175, 3) := by decide +kernel
theorem dX3_period_4 : decode cX3_period 4 = .ok (.aload_n 0, 1) := by decide +kernel
theorem dX3_period_5 : decode cX3_period 5 = .ok (.getfield 32, 3) := by decide +kernel
theorem dX3_period_8 : decode cX3_period 8 = .ok (.iload_n 1, 1) := by decide +kernel
theorem dX3_period_9 : decode cX3_period 9 = .ok (.invokevirtual 185, 3) := by decide +kernel
theorem dX3_period_12 : decode cX3_period 12 = .ok (.ireturn, 1) := by decide +kernel
theorem dX3_picture_0 : decode cX3_picture 0 = .ok (.iload_n 1, 1) := by decide +kernel
theorem dX3_picture_1 : decode cX3_picture 1 = .ok (.iconst 1, 1) := by decide +kernel
theorem dX3_picture_2 : decode cX3_picture 2 = .ok (.if_icmp .lt 20, 3) := by decide +kernel
theorem dX3_picture_5 : decode cX3_picture 5 = .ok (.iload_n 1, 1) := by decide +kernel
theorem dX3_picture_6 : decode cX3_picture 6 = .ok (.bipush 30, 2) := by decide +kernel
theorem dX3_picture_8 : decode cX3_picture 8 = .ok (.if_icmp .gt 14, 3) := by decide +kernel
theorem dX3_picture_11 : decode cX3_picture 11 = .ok (.iload_n 2, 1) := by decide +kernel
theorem dX3_picture_12 : decode cX3_picture 12 = .ok (.iconst 1, 1) := by decide +kernel
theorem dX3_picture_13 : decode cX3_picture 13 = .ok (.if_icmp .lt 9, 3) := by decide +kernel
theorem dX3_picture_16 : decode cX3_picture 16 = .ok (.iload_n 2, 1) := by decide +kernel
theorem dX3_picture_17 : decode cX3_picture 17 = .ok (.bipush 30, 2) := by decide +kernel
theorem dX3_picture_19 : decode cX3_picture 19 = .ok (.if_icmp .le 13, 3) := by decide +kernel
theorem dX3_picture_22 : decode cX3_picture 22 = .ok (.new 60, 3) := by decide +kernel
theorem dX3_picture_25 : decode cX3_picture 25 = .ok (.dup, 1) := by decide +kernel
theorem dX3_picture_26 : decode cX3_picture 26 = .ok (.ldc 189, 2) := by decide +kernel
theorem dX3_picture_28 : decode cX3_picture 28 = .ok (.invokespecial 64, 3) := by decide +kernel
theorem dX3_picture_31 : decode cX3_picture 31 = .ok (.athrow, 1) := by decide +kernel
theorem dX3_picture_32 : decode cX3_picture 32 = .ok (.aload_n 0, 1) := by decide +kernel
theorem dX3_picture_33 : decode cX3_picture 33 = .ok (.getfield 43, 3) := by decide +kernel
theorem dX3_picture_36 : decode cX3_picture 36 = .ok (.iload_n 1, 1) := by decide +kernel
theorem dX3_picture_37 : decode cX3_picture 37 = .ok (.iload_n 2, 1) := by decide +kernel
theorem dX3_picture_38 : decode cX3_picture 38 = .ok (.invokevirtual 52, 3) := by decide +kernel
theorem dX3_picture_41 : decode cX3_picture 41 = .ok (.return_, 1) := by decide +kernel
theorem dX3_paint_0 : decode cX3_paint 0 = .ok (.aload_n 0, 1) := by decide +kernel
theorem dX3_paint_1 : decode cX3_paint 1 = .ok (.getfield 43, 3) := by decide +kernel
theorem dX3_paint_4 : decode cX3_paint 4 = .ok (.iload_n 1, 1) := by decide +kernel
theorem dX3_paint_5 : decode cX3_paint 5 = .ok (.iload_n 2, 1) := by decide +kernel
theorem dX3_paint_6 : decode cX3_paint 6 = .ok (.invokevirtual 149, 3) := by decide +kernel
theorem dX3_paint_9 : decode cX3_paint 9 = .ok (.ifCond .ne 13, 3) := by decide +kernel
theorem dX3_paint_12 : decode cX3_paint 12 = .ok (.new 152, 3) := by decide +kernel
theorem dX3_paint_15 : decode cX3_paint 15 = .ok (.dup, 1) := by decide +kernel
theorem dX3_paint_16 : decode cX3_paint 16 = .ok (.ldc 154, 2) := by decide +kernel
theorem dX3_paint_18 : decode cX3_paint 18 = .ok (.invokespecial 156, 3) := by decide +kernel
theorem dX3_paint_21 : decode cX3_paint 21 = .ok (.athrow, 1) := by decide +kernel
theorem dX3_paint_22 : decode cX3_paint 22 = .ok (.aload_n 0, 1) := by decide +kernel
theorem dX3_paint_23 : decode cX3_paint 23 = .ok (.getfield 43, 3) := by decide +kernel
theorem dX3_paint_26 : decode cX3_paint 26 = .ok (.iload_n 1, 1) := by decide +kernel
theorem dX3_paint_27 : decode cX3_paint 27 = .ok (.iload_n 2, 1) := by decide +kernel
theorem dX3_paint_28 : decode cX3_paint 28 = .ok (.invokevirtual 157, 3) := by decide +kernel
theorem dX3_paint_31 : decode cX3_paint 31 = .ok (.istore 4, 2) := by decide +kernel
theorem dX3_paint_33 : decode cX3_paint 33 = .ok (.aload_n 0, 1) := by decide +kernel
theorem dX3_paint_34 : decode cX3_paint 34 = .ok (.getfield 43, 3) := by decide +kernel
theorem dX3_paint_37 : decode cX3_paint 37 = .ok (.iload_n 1, 1) := by decide +kernel
theorem dX3_paint_38 : decode cX3_paint 38 = .ok (.iload_n 2, 1) := by decide +kernel
theorem dX3_paint_39 : decode cX3_paint 39 = .ok (.iload_n 3, 1) := by decide +kernel
theorem dX3_paint_40 : decode cX3_paint 40 = .ok (.invokevirtual 191, 3) := by decide +kernel
theorem dX3_paint_43 : decode cX3_paint 43 = .ok (.iload 4, 2) := by decide +kernel
theorem dX3_paint_45 : decode cX3_paint 45 = .ok (.ireturn, 1) := by decide +kernel
theorem dX3_factor_0 : decode cX3_factor 0 = .ok (.aload_n 0, 1) := by decide +kernel
theorem dX3_factor_1 : decode cX3_factor 1 = .ok (.getfield 46, 3) := by decide +kernel
theorem dX3_factor_4 : decode cX3_factor 4 = .ok (.aload_n 0, 1) := by decide +kernel
theorem dX3_factor_5 : decode cX3_factor 5 = .ok (.getfield 43, 3) := by decide +kernel
theorem dX3_factor_8 : decode cX3_factor 8 = .ok (.iconst 0, 1) := by decide +kernel
theorem dX3_factor_9 : decode cX3_factor 9 = .ok (.invokevirtual 195, 3) := by decide +kernel
theorem dX3_factor_12 : decode cX3_factor 12 = .ok (.istore_n 2, 1) := by decide +kernel
theorem dX3_factor_13 : decode cX3_factor 13 = .ok (.aload_n 0, 1) := by decide +kernel
theorem dX3_factor_14 : decode cX3_factor 14 = .ok (.getfield 49, 3) := by decide +kernel
theorem dX3_factor_17 : decode cX3_factor 17 = .ok (.aload_n 0, 1) := by decide +kernel
theorem dX3_factor_18 : decode cX3_factor 18 = .ok (.getfield 43, 3) := by decide +kernel
theorem dX3_factor_21 : decode cX3_factor 21 = .ok (.iconst 1, 1) := by decide +kernel
theorem dX3_factor_22 : decode cX3_factor 22 = .ok (.invokevirtual 195, 3) := by decide +kernel
theorem dX3_factor_25 : decode cX3_factor 25 = .ok (.istore_n 3, 1) := by decide +kernel
theorem dX3_factor_26 : decode cX3_factor 26 = .ok (.iload_n 1, 1) := by decide +kernel
theorem dX3_factor_27 : decode cX3_factor 27 = .ok (.ifCond .eq 25, 3) := by decide +kernel
theorem dX3_factor_30 : decode cX3_factor 30 = .ok (.iload_n 2, 1) := by decide +kernel
theorem dX3_factor_31 : decode cX3_factor 31 = .ok (.bipush 12, 2) := by decide +kernel
theorem dX3_factor_33 : decode cX3_factor 33 = .ok (.if_icmp .gt 9, 3) := by decide +kernel
theorem dX3_factor_36 : decode cX3_factor 36 = .ok (.iload_n 3, 1) := by decide +kernel
theorem dX3_factor_37 : decode cX3_factor 37 = .ok (.bipush 12, 2) := by decide +kernel
theorem dX3_factor_39 : decode cX3_factor 39 = .ok (.if_icmp .le 13, 3) := by decide +kernel
theorem dX3_factor_42 : decode cX3_factor 42 = .ok (.new 102, 3) := by decide +kernel
theorem dX3_factor_45 : decode cX3_factor 45 = .ok (.dup, 1) := by decide +kernel
theorem dX3_factor_46 : decode cX3_factor 46 = .ok (.ldc 199, 2) := by decide +kernel
theorem dX3_factor_48 : decode cX3_factor 48 = .ok (.invokespecial 106, 3) := by decide +kernel
theorem dX3_factor_51 : decode cX3_factor 51 = .ok (.athrow, 1) := by decide +kernel
theorem dX3_factor_52 : decode cX3_factor 52 = .ok (.iload_n 1, 1) := by decide +kernel
theorem dX3_factor_53 : decode cX3_factor 53 = .ok (.ifCond .eq 7, 3) := by decide +kernel
theorem dX3_factor_56 : decode cX3_factor 56 = .ok (.aload_n 0, 1) := by decide +kernel
theorem dX3_factor_57 : decode cX3_factor 57 = .ok (.invokevirtual 201, 3) := by decide +kernel
theorem dX3_factor_60 : decode cX3_factor 60 = .ok (.bipush 100, 2) := by decide +kernel
theorem dX3_factor_62 : decode cX3_factor 62 = .ok (.iload_n 2, 1) := by decide +kernel
theorem dX3_factor_63 : decode cX3_factor 63 = .ok (.imul, 1) := by decide +kernel
theorem dX3_factor_64 : decode cX3_factor 64 = .ok (.iload_n 3, 1) := by decide +kernel
theorem dX3_factor_65 : decode cX3_factor 65 = .ok (.iadd, 1) := by decide +kernel
theorem dX3_factor_66 : decode cX3_factor 66 = .ok (.ireturn, 1) := by decide +kernel
theorem dX3_isKind_0 : decode cX3_isKind 0 = .ok (.iload_n 0, 1) := by decide +kernel
theorem dX3_isKind_1 : decode cX3_isKind 1 = .ok (.ifCond .lt 13, 3) := by decide +kernel
theorem dX3_isKind_4 : decode cX3_isKind 4 = .ok (.iload_n 0, 1) := by decide +kernel
theorem dX3_isKind_5 : decode cX3_isKind 5 = .ok (.bipush 12, 2) := by decide +kernel
theorem dX3_isKind_7 : decode cX3_isKind 7 = .ok (.if_icmp .ge 7, 3) := by decide +kernel
theorem dX3_isKind_10 : decode cX3_isKind 10 = .ok (.iconst 1, 1) := by decide +kernel
theorem dX3_isKind_11 : decode cX3_isKind 11 = .ok (.goto 4, 3) := by decide +kernel
theorem dX3_isKind_14 : decode cX3_isKind 14 = .ok (.iconst 0, 1) := by decide +kernel
theorem dX3_isKind_15 : decode cX3_isKind 15 = .ok (.ireturn, 1) := by decide +kernel
theorem dX3_withBit_0 : decode cX3_withBit 0 = .ok (.iload_n 2, 1) := by decide +kernel
theorem dX3_withBit_1 : decode cX3_withBit 1 = .ok (.ifCond .eq 11, 3) := by decide +kernel
theorem dX3_withBit_4 : decode cX3_withBit 4 = .ok (.iload_n 0, 1) := by decide +kernel
theorem dX3_withBit_5 : decode cX3_withBit 5 = .ok (.iconst 1, 1) := by decide +kernel
theorem dX3_withBit_6 : decode cX3_withBit 6 = .ok (.iload_n 1, 1) := by decide +kernel
theorem dX3_withBit_7 : decode cX3_withBit 7 = .ok (.ishl, 1) := by decide +kernel
theorem dX3_withBit_8 : decode cX3_withBit 8 = .ok (.ior, 1) := by decide +kernel
theorem dX3_withBit_9 : decode cX3_withBit 9 = .ok (.goto 10, 3) := by decide +kernel
theorem dX3_withBit_12 : decode cX3_withBit 12 = .ok (.iload_n 0, 1) := by decide +kernel
theorem dX3_withBit_13 : decode cX3_withBit 13 = .ok (.iconst 1, 1) := by decide +kernel
theorem dX3_withBit_14 : decode cX3_withBit 14 = .ok (.iload_n 1, 1) := by decide +kernel
theorem dX3_withBit_15 : decode cX3_withBit 15 = .ok (.ishl, 1) := by decide +kernel
theorem dX3_withBit_16 : decode cX3_withBit 16 = .ok (.iconst (-1), 1) := by decide +kernel
theorem dX3_withBit_17 : decode cX3_withBit 17 = .ok (.ixor, 1) := by decide +kernel
theorem dX3_withBit_18 : decode cX3_withBit 18 = .ok (.iand, 1) := by decide +kernel
theorem dX3_withBit_19 : decode cX3_withBit 19 = .ok (.ireturn, 1) := by decide +kernel
theorem dX3_isPick_0 : decode cX3_isPick 0 = .ok (.iload_n 0, 1) := by decide +kernel
theorem dX3_isPick_1 : decode cX3_isPick 1 = .ok (.bipush 100, 2) := by decide +kernel
theorem dX3_isPick_3 : decode cX3_isPick 3 = .ok (.if_icmp .lt 7, 3) := by decide +kernel
theorem dX3_isPick_6 : decode cX3_isPick 6 = .ok (.iconst 1, 1) := by decide +kernel
theorem dX3_isPick_7 : decode cX3_isPick 7 = .ok (.goto 4, 3) := by decide +kernel
theorem dX3_isPick_10 : decode cX3_isPick 10 = .ok (.iconst 0, 1) := by decide +kernel
theorem dX3_isPick_11 : decode cX3_isPick 11 = .ok (.ireturn, 1) := by decide +kernel
theorem dX3_isThread_0 : decode cX3_isThread 0 = .ok (.iload_n 1, 1) := by decide +kernel
theorem dX3_isThread_1 : decode cX3_isThread 1 = .ok (.invokestatic 165, 3) := by decide +kernel
theorem dX3_isThread_4 : decode cX3_isThread 4 = .ok (.ifCond .eq 25, 3) := by decide +kernel
theorem dX3_isThread_7 : decode cX3_isThread 7 = .ok (.iload_n 1, 1) := by decide +kernel
theorem dX3_isThread_8 : decode cX3_isThread 8 = .ok (.bipush 100, 2) := by decide +kernel
theorem dX3_isThread_10 : decode cX3_isThread 10 = .ok (.isub, 1) := by decide +kernel
theorem dX3_isThread_11 : decode cX3_isThread 11 = .ok (.aload_n 0, 1) := by decide +kernel
theorem dX3_isThread_12 : decode cX3_isThread 12 = .ok (.getfield 32, 3) := by decide +kernel
theorem dX3_isThread_15 : decode cX3_isThread 15 = .ok (.getfield 99, 3) := by decide +kernel
theorem dX3_isThread_18 : decode cX3_isThread 18 = .ok (.if_icmp .ge 7, 3) := by decide +kernel
theorem dX3_isThread_21 : decode cX3_isThread 21 = .ok (.iconst 1, 1) := by decide +kernel
theorem dX3_isThread_22 : decode cX3_isThread 22 = .ok (.goto 27, 3) := by decide +kernel
theorem dX3_isThread_25 : decode cX3_isThread 25 = .ok (.iconst 0, 1) := by decide +kernel
theorem dX3_isThread_26 : decode cX3_isThread 26 = .ok (.goto 23, 3) := by decide +kernel
theorem dX3_isThread_29 : decode cX3_isThread 29 = .ok (.iload_n 1, 1) := by decide +kernel
theorem dX3_isThread_30 : decode cX3_isThread 30 = .ok (.ifCond .lt 18, 3) := by decide +kernel
theorem dX3_isThread_33 : decode cX3_isThread 33 = .ok (.iload_n 1, 1) := by decide +kernel
theorem dX3_isThread_34 : decode cX3_isThread 34 = .ok (.aload_n 0, 1) := by decide +kernel
theorem dX3_isThread_35 : decode cX3_isThread 35 = .ok (.getfield 10, 3) := by decide +kernel
theorem dX3_isThread_38 : decode cX3_isThread 38 = .ok (.getfield 85, 3) := by decide +kernel
theorem dX3_isThread_41 : decode cX3_isThread 41 = .ok (.if_icmp .ge 7, 3) := by decide +kernel
theorem dX3_isThread_44 : decode cX3_isThread 44 = .ok (.iconst 1, 1) := by decide +kernel
theorem dX3_isThread_45 : decode cX3_isThread 45 = .ok (.goto 4, 3) := by decide +kernel
theorem dX3_isThread_48 : decode cX3_isThread 48 = .ok (.iconst 0, 1) := by decide +kernel
theorem dX3_isThread_49 : decode cX3_isThread 49 = .ok (.ireturn, 1) := by decide +kernel
theorem dX3_rowOf_0 : decode cX3_rowOf 0 = .ok (.iload_n 1, 1) := by decide +kernel
theorem dX3_rowOf_1 : decode cX3_rowOf 1 = .ok (.ifCond .eq 10, 3) := by decide +kernel
theorem dX3_rowOf_4 : decode cX3_rowOf 4 = .ok (.aload_n 0, 1) := by decide +kernel
theorem dX3_rowOf_5 : decode cX3_rowOf 5 = .ok (.getfield 10, 3) := by decide +kernel
theorem dX3_rowOf_8 : decode cX3_rowOf 8 = .ok (.goto 7, 3) := by decide +kernel
theorem dX3_rowOf_11 : decode cX3_rowOf 11 = .ok (.aload_n 0, 1) := by decide +kernel
theorem dX3_rowOf_12 : decode cX3_rowOf 12 = .ok (.getfield 16, 3) := by decide +kernel
theorem dX3_rowOf_15 : decode cX3_rowOf 15 = .ok (.areturn, 1) := by decide +kernel
theorem dX3_isTied_0 : decode cX3_isTied 0 = .ok (.aload_n 0, 1) := by decide +kernel
theorem dX3_isTied_1 : decode cX3_isTied 1 = .ok (.getfield 19, 3) := by decide +kernel
theorem dX3_isTied_4 : decode cX3_isTied 4 = .ok (.iload_n 1, 1) := by decide +kernel
theorem dX3_isTied_5 : decode cX3_isTied 5 = .ok (.iaload, 1) := by decide +kernel
theorem dX3_isTied_6 : decode cX3_isTied 6 = .ok (.iload_n 2, 1) := by decide +kernel
theorem dX3_isTied_7 : decode cX3_isTied 7 = .ok (.ishr, 1) := by decide +kernel
theorem dX3_isTied_8 : decode cX3_isTied 8 = .ok (.iconst 1, 1) := by decide +kernel
theorem dX3_isTied_9 : decode cX3_isTied 9 = .ok (.iand, 1) := by decide +kernel
theorem dX3_isTied_10 : decode cX3_isTied 10 = .ok (.iconst 1, 1) := by decide +kernel
theorem dX3_isTied_11 : decode cX3_isTied 11 = .ok (.if_icmp .ne 7, 3) := by decide +kernel
theorem dX3_isTied_14 : decode cX3_isTied 14 = .ok (.iconst 1, 1) := by decide +kernel
theorem dX3_isTied_15 : decode cX3_isTied 15 = .ok (.goto 4, 3) := by decide +kernel
theorem dX3_isTied_18 : decode cX3_isTied 18 = .ok (.iconst 0, 1) := by decide +kernel
theorem dX3_isTied_19 : decode cX3_isTied 19 = .ok (.ireturn, 1) := by decide +kernel
theorem dX3_tiedOrNone_0 : decode cX3_tiedOrNone 0 = .ok (.iload_n 1, 1) := by decide +kernel
theorem dX3_tiedOrNone_1 : decode cX3_tiedOrNone 1 = .ok (.invokestatic 56, 3) := by decide +kernel
theorem dX3_tiedOrNone_4 : decode cX3_tiedOrNone 4 = .ok (.ifCond .eq 10, 3) := by decide +kernel
theorem dX3_tiedOrNone_7 : decode cX3_tiedOrNone 7 = .ok (.iload_n 2, 1) := by decide +kernel
theorem dX3_tiedOrNone_8 : decode cX3_tiedOrNone 8 = .ok (.invokestatic 56, 3) := by decide +kernel
theorem dX3_tiedOrNone_11 : decode cX3_tiedOrNone 11 = .ok (.ifCond .ne 5, 3) := by decide +kernel
theorem dX3_tiedOrNone_14 : decode cX3_tiedOrNone 14 = .ok (.iconst (-1), 1) := by decide +kernel
theorem dX3_tiedOrNone_15 : decode cX3_tiedOrNone 15 = .ok (.ireturn, 1) := by decide +kernel
theorem dX3_tiedOrNone_16 : decode cX3_tiedOrNone 16 = .ok (.aload_n 0, 1) := by decide +kernel
theorem dX3_tiedOrNone_17 : decode cX3_tiedOrNone 17 = .ok (.iload_n 1, 1) := by decide +kernel
theorem dX3_tiedOrNone_18 : decode cX3_tiedOrNone 18 = .ok (.iload_n 2, 1) := by decide +kernel
theorem dX3_tiedOrNone_19 : decode cX3_tiedOrNone 19 = .ok (.invokevirtual 107, 3) := by decide +kernel
theorem dX3_tiedOrNone_22 : decode cX3_tiedOrNone 22 = .ok (.ifCond .eq 7, 3) := by decide +kernel
theorem dX3_tiedOrNone_25 : decode cX3_tiedOrNone 25 = .ok (.iconst 1, 1) := by decide +kernel
theorem dX3_tiedOrNone_26 : decode cX3_tiedOrNone 26 = .ok (.goto 4, 3) := by decide +kernel
theorem dX3_tiedOrNone_29 : decode cX3_tiedOrNone 29 = .ok (.iconst 0, 1) := by decide +kernel
theorem dX3_tiedOrNone_30 : decode cX3_tiedOrNone 30 = .ok (.ireturn, 1) := by decide +kernel
theorem dX3_requireRoom_0 : decode cX3_requireRoom 0 = .ok (.iload_n 1, 1) := by decide +kernel
theorem dX3_requireRoom_1 : decode cX3_requireRoom 1 = .ok (.ifCond .eq 23, 3) := by decide +kernel
theorem dX3_requireRoom_4 : decode cX3_requireRoom 4 = .ok (.aload_n 0, 1) := by decide +kernel
theorem dX3_requireRoom_5 : decode cX3_requireRoom 5 = .ok (.getfield 32, 3) := by decide +kernel
theorem dX3_requireRoom_8 : decode cX3_requireRoom 8 = .ok (.getfield 99, 3) := by decide +kernel
theorem dX3_requireRoom_11 : decode cX3_requireRoom 11 = .ok (.ifCond .le 13, 3) := by decide +kernel
theorem dX3_requireRoom_14 : decode cX3_requireRoom 14 = .ok (.new 102, 3) := by decide +kernel
theorem dX3_requireRoom_17 : decode cX3_requireRoom 17 = .ok (.dup, 1) := by decide +kernel
theorem dX3_requireRoom_18 : decode cX3_requireRoom 18 = .ok (.ldc 104, 2) := by decide +kernel
theorem dX3_requireRoom_20 : decode cX3_requireRoom 20 = .ok (.invokespecial 106, 3) := by decide +kernel
theorem dX3_requireRoom_23 : decode cX3_requireRoom 23 = .ok (.athrow, 1) := by decide +kernel
theorem dX3_requireRoom_24 : decode cX3_requireRoom 24 = .ok (.lload_n 2, 1) := by decide +kernel
theorem dX3_requireRoom_25 : decode cX3_requireRoom 25 = .ok (.bipush 30, 2) := by decide +kernel
theorem dX3_requireRoom_27 : decode cX3_requireRoom 27 = .ok (.aload_n 0, 1) := by decide +kernel
theorem dX3_requireRoom_28 : decode cX3_requireRoom 28 = .ok (.iload_n 1, 1) := by decide +kernel
theorem dX3_requireRoom_29 : decode cX3_requireRoom 29 = .ok (.invokevirtual 77, 3) := by decide +kernel
theorem dX3_requireRoom_32 : decode cX3_requireRoom 32 = .ok (.getfield 85, 3) := by decide +kernel
theorem dX3_requireRoom_35 : decode cX3_requireRoom 35 = .ok (.isub, 1) := by decide +kernel
theorem dX3_requireRoom_36 : decode cX3_requireRoom 36 = .ok (.i2l, 1) := by decide +kernel
theorem dX3_requireRoom_37 : decode cX3_requireRoom 37 = .ok (.lcmp, 1) := by decide +kernel
theorem dX3_requireRoom_38 : decode cX3_requireRoom 38 = .ok (.ifCond .le 13, 3) := by decide +kernel
theorem dX3_requireRoom_41 : decode cX3_requireRoom 41 = .ok (.new 102, 3) := by decide +kernel
theorem dX3_requireRoom_44 : decode cX3_requireRoom 44 = .ok (.dup, 1) := by decide +kernel
theorem dX3_requireRoom_45 : decode cX3_requireRoom 45 = .ok (.ldc 204, 2) := by decide +kernel
theorem dX3_requireRoom_47 : decode cX3_requireRoom 47 = .ok (.invokespecial 106, 3) := by decide +kernel
theorem dX3_requireRoom_50 : decode cX3_requireRoom 50 = .ok (.athrow, 1) := by decide +kernel
theorem dX3_requireRoom_51 : decode cX3_requireRoom 51 = .ok (.return_, 1) := by decide +kernel
theorem dX3_requireCloth_0 : decode cX3_requireCloth 0 = .ok (.aload_n 0, 1) := by decide +kernel
theorem dX3_requireCloth_1 : decode cX3_requireCloth 1 = .ok (.getfield 32, 3) := by decide +kernel
theorem dX3_requireCloth_4 : decode cX3_requireCloth 4 = .ok (.getfield 99, 3) := by decide +kernel
theorem dX3_requireCloth_7 : decode cX3_requireCloth 7 = .ok (.ifCond .ne 13, 3) := by decide +kernel
theorem dX3_requireCloth_10 : decode cX3_requireCloth 10 = .ok (.new 102, 3) := by decide +kernel
theorem dX3_requireCloth_13 : decode cX3_requireCloth 13 = .ok (.dup, 1) := by decide +kernel
theorem dX3_requireCloth_14 : decode cX3_requireCloth 14 = .ok (.ldc 206, 2) := by decide +kernel
theorem dX3_requireCloth_16 : decode cX3_requireCloth 16 = .ok (.invokespecial 106, 3) := by decide +kernel
theorem dX3_requireCloth_19 : decode cX3_requireCloth 19 = .ok (.athrow, 1) := by decide +kernel
theorem dX3_requireCloth_20 : decode cX3_requireCloth 20 = .ok (.return_, 1) := by decide +kernel
theorem dX3_endsRaisedBy_0 : decode cX3_endsRaisedBy 0 = .ok (.iconst 0, 1) := by decide +kernel
theorem dX3_endsRaisedBy_1 : decode cX3_endsRaisedBy 1 = .ok (.istore_n 2, 1) := by decide +kernel
theorem dX3_endsRaisedBy_2 : decode cX3_endsRaisedBy 2 = .ok (.iconst 0, 1) := by decide +kernel
theorem dX3_endsRaisedBy_3 : decode cX3_endsRaisedBy 3 = .ok (.istore_n 3, 1) := by decide +kernel
theorem dX3_endsRaisedBy_4 : decode cX3_endsRaisedBy 4 = .ok (.iload_n 3, 1) := by decide +kernel
theorem dX3_endsRaisedBy_5 : decode cX3_endsRaisedBy 5 = .ok (.aload_n 0, 1) := by decide +kernel
theorem dX3_endsRaisedBy_6 : decode cX3_endsRaisedBy 6 = .ok (.getfield 10, 3) := by decide +kernel
theorem dX3_endsRaisedBy_9 : decode cX3_endsRaisedBy 9 = .ok (.getfield 85, 3) := by decide +kernel
theorem dX3_endsRaisedBy_12 : decode cX3_endsRaisedBy 12 = .ok (.if_icmp .ge 29, 3) := by decide +kernel
theorem dX3_endsRaisedBy_15 : decode cX3_endsRaisedBy 15 = .ok (.iload_n 2, 1) := by decide +kernel
theorem dX3_endsRaisedBy_16 : decode cX3_endsRaisedBy 16 = .ok (.iload_n 3, 1) := by decide +kernel
theorem dX3_endsRaisedBy_17 : decode cX3_endsRaisedBy 17 = .ok (.aload_n 0, 1) := by decide +kernel
theorem dX3_endsRaisedBy_18 : decode cX3_endsRaisedBy 18 = .ok (.aload_n 0, 1) := by decide +kernel
theorem dX3_endsRaisedBy_19 : decode cX3_endsRaisedBy 19 = .ok (.getfield 10, 3) := by decide +kernel
theorem dX3_endsRaisedBy_22 : decode cX3_endsRaisedBy 22 = .ok (.getfield 138, 3) := by decide +kernel
theorem dX3_endsRaisedBy_25 : decode cX3_endsRaisedBy 25 = .ok (.iload_n 3, 1) := by decide +kernel
theorem dX3_endsRaisedBy_26 : decode cX3_endsRaisedBy 26 = .ok (.iaload, 1) := by decide +kernel
theorem dX3_endsRaisedBy_27 : decode cX3_endsRaisedBy 27 = .ok (.iload_n 1, 1) := by decide +kernel
theorem dX3_endsRaisedBy_28 : decode cX3_endsRaisedBy 28 = .ok (.invokevirtual 107, 3) := by decide +kernel
theorem dX3_endsRaisedBy_31 : decode cX3_endsRaisedBy 31 = .ok (.invokestatic 111, 3) := by decide +kernel
theorem dX3_endsRaisedBy_34 : decode cX3_endsRaisedBy 34 = .ok (.istore_n 2, 1) := by decide +kernel
theorem dX3_endsRaisedBy_35 : decode cX3_endsRaisedBy 35 = .ok (.iinc 3 1, 3) := by decide +kernel
theorem dX3_endsRaisedBy_38 : decode cX3_endsRaisedBy 38 = .ok (.goto (-34), 3) := by decide +kernel
theorem dX3_endsRaisedBy_41 : decode cX3_endsRaisedBy 41 = .ok (.iload_n 2, 1) := by decide +kernel
theorem dX3_endsRaisedBy_42 : decode cX3_endsRaisedBy 42 = .ok (.ireturn, 1) := by decide +kernel
theorem dX3_longestStretch_0 : decode cX3_longestStretch 0 = .ok (.iload_n 2, 1) := by decide +kernel
theorem dX3_longestStretch_1 : decode cX3_longestStretch 1 = .ok (.ifCond .eq 7, 3) := by decide +kernel
theorem dX3_longestStretch_4 : decode cX3_longestStretch 4 = .ok (.iconst 1, 1) := by decide +kernel
theorem dX3_longestStretch_5 : decode cX3_longestStretch 5 = .ok (.goto 4, 3) := by decide +kernel
theorem dX3_longestStretch_8 : decode cX3_longestStretch 8 = .ok (.iconst 0, 1) := by decide +kernel
theorem dX3_longestStretch_9 : decode cX3_longestStretch 9 = .ok (.istore_n 3, 1) := by decide +kernel
theorem dX3_longestStretch_10 : decode cX3_longestStretch 10 = .ok (.iconst 0, 1) := by decide +kernel
theorem dX3_longestStretch_11 : decode cX3_longestStretch 11 = .ok (.istore 4, 2) := by decide +kernel
theorem dX3_longestStretch_13 : decode cX3_longestStretch 13 = .ok (.iconst 0, 1) := by decide +kernel
theorem dX3_longestStretch_14 : decode cX3_longestStretch 14 = .ok (.istore 5, 2) := by decide +kernel
theorem dX3_longestStretch_16 : decode cX3_longestStretch 16 = .ok (.iconst 0, 1) := by decide +kernel
theorem dX3_longestStretch_17 : decode cX3_longestStretch 17 = .ok (.istore 6, 2) := by decide +kernel
theorem dX3_longestStretch_19 : decode cX3_longestStretch 19 = .ok (.iload 6, 2) := by decide +kernel
theorem dX3_longestStretch_21 : decode cX3_longestStretch 21 = .ok (.iload_n 1, 1) := by decide +kernel
theorem dX3_longestStretch_22 : decode cX3_longestStretch 22 = .ok (.if_icmp .ge 38, 3) := by decide +kernel
theorem dX3_longestStretch_25 : decode cX3_longestStretch 25 = .ok (.iload_n 0, 1) := by decide +kernel
theorem dX3_longestStretch_26 : decode cX3_longestStretch 26 = .ok (.iload 6, 2) := by decide +kernel
theorem dX3_longestStretch_28 : decode cX3_longestStretch 28 = .ok (.ishr, 1) := by decide +kernel
theorem dX3_longestStretch_29 : decode cX3_longestStretch 29 = .ok (.iconst 1, 1) := by decide +kernel
theorem dX3_longestStretch_30 : decode cX3_longestStretch 30 = .ok (.iand, 1) := by decide +kernel
theorem dX3_longestStretch_31 : decode cX3_longestStretch 31 = .ok (.iload_n 3, 1) := by decide +kernel
theorem dX3_longestStretch_32 : decode cX3_longestStretch 32 = .ok (.if_icmp .ne 10, 3) := by decide +kernel
theorem dX3_longestStretch_35 : decode cX3_longestStretch 35 = .ok (.iload 5, 2) := by decide +kernel
theorem dX3_longestStretch_37 : decode cX3_longestStretch 37 = .ok (.iconst 1, 1) := by decide +kernel
theorem dX3_longestStretch_38 : decode cX3_longestStretch 38 = .ok (.iadd, 1) := by decide +kernel
theorem dX3_longestStretch_39 : decode cX3_longestStretch 39 = .ok (.goto 4, 3) := by decide +kernel
theorem dX3_longestStretch_42 : decode cX3_longestStretch 42 = .ok (.iconst 0, 1) := by decide +kernel
theorem dX3_longestStretch_43 : decode cX3_longestStretch 43 = .ok (.istore 5, 2) := by decide +kernel
theorem dX3_longestStretch_45 : decode cX3_longestStretch 45 = .ok (.iload 4, 2) := by decide +kernel
theorem dX3_longestStretch_47 : decode cX3_longestStretch 47 = .ok (.iload 5, 2) := by decide +kernel
theorem dX3_longestStretch_49 : decode cX3_longestStretch 49 = .ok (.invokestatic 208, 3) := by decide +kernel
theorem dX3_longestStretch_52 : decode cX3_longestStretch 52 = .ok (.istore 4, 2) := by decide +kernel
theorem dX3_longestStretch_54 : decode cX3_longestStretch 54 = .ok (.iinc 6 1, 3) := by decide +kernel
theorem dX3_longestStretch_57 : decode cX3_longestStretch 57 = .ok (.goto (-38), 3) := by decide +kernel
theorem dX3_longestStretch_60 : decode cX3_longestStretch 60 = .ok (.iload 4, 2) := by decide +kernel
theorem dX3_longestStretch_62 : decode cX3_longestStretch 62 = .ok (.ireturn, 1) := by decide +kernel
theorem dX3_adoptPaintedDraft_0 : decode cX3_adoptPaintedDraft 0 = .ok (.aload_n 0, 1) := by decide +kernel
theorem dX3_adoptPaintedDraft_1 : decode cX3_adoptPaintedDraft 1 = .ok (.getfield 10, 3) := by decide +kernel
theorem dX3_adoptPaintedDraft_4 : decode cX3_adoptPaintedDraft 4 = .ok (.aload_n 0, 1) := by decide +kernel
theorem dX3_adoptPaintedDraft_5 : decode cX3_adoptPaintedDraft 5 = .ok (.getfield 46, 3) := by decide +kernel
theorem dX3_adoptPaintedDraft_8 : decode cX3_adoptPaintedDraft 8 = .ok (.invokevirtual 211, 3) := by decide +kernel
theorem dX3_adoptPaintedDraft_11 : decode cX3_adoptPaintedDraft 11 = .ok (.aload_n 0, 1) := by decide +kernel
theorem dX3_adoptPaintedDraft_12 : decode cX3_adoptPaintedDraft 12 = .ok (.getfield 16, 3) := by decide +kernel
theorem dX3_adoptPaintedDraft_15 : decode cX3_adoptPaintedDraft 15 = .ok (.aload_n 0, 1) := by decide +kernel
theorem dX3_adoptPaintedDraft_16 : decode cX3_adoptPaintedDraft 16 = .ok (.getfield 49, 3) := by decide +kernel
theorem dX3_adoptPaintedDraft_19 : decode cX3_adoptPaintedDraft 19 = .ok (.invokevirtual 211, 3) := by decide +kernel
theorem dX3_adoptPaintedDraft_22 : decode cX3_adoptPaintedDraft 22 = .ok (.aload_n 0, 1) := by decide +kernel
theorem dX3_adoptPaintedDraft_23 : decode cX3_adoptPaintedDraft 23 = .ok (.getfield 19, 3) := by decide +kernel
theorem dX3_adoptPaintedDraft_26 : decode cX3_adoptPaintedDraft 26 = .ok (.iconst 0, 1) := by decide +kernel
theorem dX3_adoptPaintedDraft_27 : decode cX3_adoptPaintedDraft 27 = .ok (.invokestatic 215, 3) := by decide +kernel
theorem dX3_adoptPaintedDraft_30 : decode cX3_adoptPaintedDraft 30 = .ok (.iconst 0, 1) := by decide +kernel
theorem dX3_adoptPaintedDraft_31 : decode cX3_adoptPaintedDraft 31 = .ok (.istore_n 1, 1) := by decide +kernel
theorem dX3_adoptPaintedDraft_32 : decode cX3_adoptPaintedDraft 32 = .ok (.iload_n 1, 1) := by decide +kernel
theorem dX3_adoptPaintedDraft_33 : decode cX3_adoptPaintedDraft 33 = .ok (.aload_n 0, 1) := by decide +kernel
theorem dX3_adoptPaintedDraft_34 : decode cX3_adoptPaintedDraft 34 = .ok (.getfield 43, 3) := by decide +kernel
theorem dX3_adoptPaintedDraft_37 : decode cX3_adoptPaintedDraft 37 = .ok (.getfield 99, 3) := by decide +kernel
theorem dX3_adoptPaintedDraft_40 : decode cX3_adoptPaintedDraft 40 = .ok (.if_icmp .ge 71, 3) := by decide +kernel
theorem dX3_adoptPaintedDraft_43 : decode cX3_adoptPaintedDraft 43 = .ok (.iconst 0, 1) := by decide +kernel
theorem dX3_adoptPaintedDraft_44 : decode cX3_adoptPaintedDraft 44 = .ok (.istore_n 2, 1) := by decide +kernel
theorem dX3_adoptPaintedDraft_45 : decode cX3_adoptPaintedDraft 45 = .ok (.iload_n 2, 1) := by decide +kernel
theorem dX3_adoptPaintedDraft_46 : decode cX3_adoptPaintedDraft 46 = .ok (.aload_n 0, 1) := by decide +kernel
theorem dX3_adoptPaintedDraft_47 : decode cX3_adoptPaintedDraft 47 = .ok (.getfield 43, 3) := by decide +kernel
theorem dX3_adoptPaintedDraft_50 : decode cX3_adoptPaintedDraft 50 = .ok (.getfield 135, 3) := by decide +kernel
theorem dX3_adoptPaintedDraft_53 : decode cX3_adoptPaintedDraft 53 = .ok (.if_icmp .ge 52, 3) := by decide +kernel
theorem dX3_adoptPaintedDraft_56 : decode cX3_adoptPaintedDraft 56 = .ok (.aload_n 0, 1) := by decide +kernel
theorem dX3_adoptPaintedDraft_57 : decode cX3_adoptPaintedDraft 57 = .ok (.getfield 10, 3) := by decide +kernel
theorem dX3_adoptPaintedDraft_60 : decode cX3_adoptPaintedDraft 60 = .ok (.getfield 138, 3) := by decide +kernel
theorem dX3_adoptPaintedDraft_63 : decode cX3_adoptPaintedDraft 63 = .ok (.iload_n 2, 1) := by decide +kernel
theorem dX3_adoptPaintedDraft_64 : decode cX3_adoptPaintedDraft 64 = .ok (.iaload, 1) := by decide +kernel
theorem dX3_adoptPaintedDraft_65 : decode cX3_adoptPaintedDraft 65 = .ok (.istore_n 3, 1) := by decide +kernel
theorem dX3_adoptPaintedDraft_66 : decode cX3_adoptPaintedDraft 66 = .ok (.aload_n 0, 1) := by decide +kernel
theorem dX3_adoptPaintedDraft_67 : decode cX3_adoptPaintedDraft 67 = .ok (.getfield 19, 3) := by decide +kernel
theorem dX3_adoptPaintedDraft_70 : decode cX3_adoptPaintedDraft 70 = .ok (.iload_n 3, 1) := by decide +kernel
theorem dX3_adoptPaintedDraft_71 : decode cX3_adoptPaintedDraft 71 = .ok (.aload_n 0, 1) := by decide +kernel
theorem dX3_adoptPaintedDraft_72 : decode cX3_adoptPaintedDraft 72 = .ok (.getfield 19, 3) := by decide +kernel
theorem dX3_adoptPaintedDraft_75 : decode cX3_adoptPaintedDraft 75 = .ok (.iload_n 3, 1) := by decide +kernel
theorem dX3_adoptPaintedDraft_76 : decode cX3_adoptPaintedDraft 76 = .ok (.iaload, 1) := by decide +kernel
theorem dX3_adoptPaintedDraft_77 : decode cX3_adoptPaintedDraft 77 = .ok (.aload_n 0, 1) := by decide +kernel
theorem dX3_adoptPaintedDraft_78 : decode cX3_adoptPaintedDraft 78 = .ok (.getfield 16, 3) := by decide +kernel
theorem dX3_adoptPaintedDraft_81 : decode cX3_adoptPaintedDraft 81 = .ok (.getfield 138, 3) := by decide +kernel
theorem dX3_adoptPaintedDraft_84 : decode cX3_adoptPaintedDraft 84 = .ok (.iload_n 1, 1) := by decide +kernel
theorem dX3_adoptPaintedDraft_85 : decode cX3_adoptPaintedDraft 85 = .ok (.iaload, 1) := by decide +kernel
theorem dX3_adoptPaintedDraft_86 : decode cX3_adoptPaintedDraft 86 = .ok (.aload_n 0, 1) := by decide +kernel
theorem dX3_adoptPaintedDraft_87 : decode cX3_adoptPaintedDraft 87 = .ok (.getfield 43, 3) := by decide +kernel
theorem dX3_adoptPaintedDraft_90 : decode cX3_adoptPaintedDraft 90 = .ok (.iload_n 2, 1) := by decide +kernel
theorem dX3_adoptPaintedDraft_91 : decode cX3_adoptPaintedDraft 91 = .ok (.iload_n 1, 1) := by decide +kernel
theorem dX3_adoptPaintedDraft_92 : decode cX3_adoptPaintedDraft 92 = .ok (.invokevirtual 157, 3) := by decide +kernel
theorem dX3_adoptPaintedDraft_95 : decode cX3_adoptPaintedDraft 95 = .ok (.invokestatic 111, 3) := by decide +kernel
theorem dX3_adoptPaintedDraft_98 : decode cX3_adoptPaintedDraft 98 = .ok (.iastore, 1) := by decide +kernel
theorem dX3_adoptPaintedDraft_99 : decode cX3_adoptPaintedDraft 99 = .ok (.iinc 2 1, 3) := by decide +kernel
theorem dX3_adoptPaintedDraft_102 : decode cX3_adoptPaintedDraft 102 = .ok (.goto (-57), 3) := by decide +kernel
theorem dX3_adoptPaintedDraft_105 : decode cX3_adoptPaintedDraft 105 = .ok (.iinc 1 1, 3) := by decide +kernel
theorem dX3_adoptPaintedDraft_108 : decode cX3_adoptPaintedDraft 108 = .ok (.goto (-76), 3) := by decide +kernel
theorem dX3_adoptPaintedDraft_111 : decode cX3_adoptPaintedDraft 111 = .ok (.aload_n 0, 1) := by decide +kernel
theorem dX3_adoptPaintedDraft_112 : decode cX3_adoptPaintedDraft 112 = .ok (.getfield 32, 3) := by decide +kernel
theorem dX3_adoptPaintedDraft_115 : decode cX3_adoptPaintedDraft 115 = .ok (.iconst 0, 1) := by decide +kernel
theorem dX3_adoptPaintedDraft_116 : decode cX3_adoptPaintedDraft 116 = .ok (.putfield 99, 3) := by decide +kernel
theorem dX3_adoptPaintedDraft_119 : decode cX3_adoptPaintedDraft 119 = .ok (.return_, 1) := by decide +kernel
theorem dX4_init_0 : decode cX4_init 0 = .ok (.aload_n 0, 1) := by decide +kernel
theorem dX4_init_1 : decode cX4_init 1 = .ok (.invokespecial 1, 3) := by decide +kernel
theorem dX4_init_4 : decode cX4_init 4 = .ok (.aload_n 0, 1) := by decide +kernel
theorem dX4_init_5 : decode cX4_init 5 = .ok (.bipush 60, 2) := by decide +kernel
theorem dX4_init_7 : decode cX4_init 7 = .ok (.newarray .int, 2) := by decide +kernel
theorem dX4_init_9 : decode cX4_init 9 = .ok (.putfield 7, 3) := by decide +kernel
theorem dX4_init_12 : decode cX4_init 12 = .ok (.aload_n 0, 1) := by decide +kernel
theorem dX4_init_13 : decode cX4_init 13 = .ok (.sipush 144, 3) := by decide +kernel
theorem dX4_init_16 : decode cX4_init 16 = .ok (.newarray .boolean, 2) := by decide +kernel
theorem dX4_init_18 : decode cX4_init 18 = .ok (.putfield 13, 3) := by decide +kernel
theorem dX4_init_21 : decode cX4_init 21 = .ok (.aload_n 0, 1) := by decide +kernel
theorem dX4_init_22 : decode cX4_init 22 = .ok (.bipush 60, 2) := by decide +kernel
theorem dX4_init_24 : decode cX4_init 24 = .ok (.newarray .int, 2) := by decide +kernel
theorem dX4_init_26 : decode cX4_init 26 = .ok (.putfield 17, 3) := by decide +kernel
theorem dX4_init_29 : decode cX4_init 29 = .ok (.aload_n 0, 1) := by decide +kernel
theorem dX4_init_30 : decode cX4_init 30 = .ok (.sipush 900, 3) := by decide +kernel
theorem dX4_init_33 : decode cX4_init 33 = .ok (.newarray .boolean, 2) := by decide +kernel
theorem dX4_init_35 : decode cX4_init 35 = .ok (.putfield 20, 3) := by decide +kernel
theorem dX4_init_38 : decode cX4_init 38 = .ok (.aload_n 0, 1) := by decide +kernel
theorem dX4_init_39 : decode cX4_init 39 = .ok (.sipush 3600, 3) := by decide +kernel
theorem dX4_init_42 : decode cX4_init 42 = .ok (.newarray .boolean, 2) := by decide +kernel
theorem dX4_init_44 : decode cX4_init 44 = .ok (.putfield 23, 3) := by decide +kernel
theorem dX4_init_47 : decode cX4_init 47 = .ok (.aload_n 0, 1) := by decide +kernel
theorem dX4_init_48 : decode cX4_init 48 = .ok (.bipush 60, 2) := by decide +kernel
theorem dX4_init_50 : decode cX4_init 50 = .ok (.newarray .int, 2) := by decide +kernel
theorem dX4_init_52 : decode cX4_init 52 = .ok (.putfield 26, 3) := by decide +kernel
theorem dX4_init_55 : decode cX4_init 55 = .ok (.aload_n 0, 1) := by decide +kernel
theorem dX4_init_56 : decode cX4_init 56 = .ok (.iconst 1, 1) := by decide +kernel
theorem dX4_init_57 : decode cX4_init 57 = .ok (.putfield 29, 3) := by decide +kernel
theorem dX4_init_60 : decode cX4_init 60 = .ok (.aload_n 0, 1) := by decide +kernel
theorem dX4_init_61 : decode cX4_init 61 = .ok (.iconst 1, 1) := by decide +kernel
theorem dX4_init_62 : decode cX4_init 62 = .ok (.putfield 33, 3) := by decide +kernel
theorem dX4_init_65 : decode cX4_init 65 = .ok (.aload_n 0, 1) := by decide +kernel
theorem dX4_init_66 : decode cX4_init 66 = .ok (.sipush 900, 3) := by decide +kernel
theorem dX4_init_69 : decode cX4_init 69 = .ok (.newarray .boolean, 2) := by decide +kernel
theorem dX4_init_71 : decode cX4_init 71 = .ok (.putfield 36, 3) := by decide +kernel
theorem dX4_init_74 : decode cX4_init 74 = .ok (.aload_n 0, 1) := by decide +kernel
theorem dX4_init_75 : decode cX4_init 75 = .ok (.bipush 60, 2) := by decide +kernel
theorem dX4_init_77 : decode cX4_init 77 = .ok (.newarray .int, 2) := by decide +kernel
theorem dX4_init_79 : decode cX4_init 79 = .ok (.putfield 39, 3) := by decide +kernel
theorem dX4_init_82 : decode cX4_init 82 = .ok (.return_, 1) := by decide +kernel
theorem dX4_thrown_0 : decode cX4_thrown 0 = .ok (.aload_n 0, 1) := by decide +kernel
theorem dX4_thrown_1 : decode cX4_thrown 1 = .ok (.getfield 42, 3) := by decide +kernel
theorem dX4_thrown_4 : decode cX4_thrown 4 = .ok (.ireturn, 1) := by decide +kernel
theorem dX4_count_0 : decode cX4_count 0 = .ok (.iload_n 1, 1) := by decide +kernel
theorem dX4_count_1 : decode cX4_count 1 = .ok (.ifCond .eq 10, 3) := by decide +kernel
theorem dX4_count_4 : decode cX4_count 4 = .ok (.aload_n 0, 1) := by decide +kernel
theorem dX4_count_5 : decode cX4_count 5 = .ok (.getfield 45, 3) := by decide +kernel
theorem dX4_count_8 : decode cX4_count 8 = .ok (.goto 7, 3) := by decide +kernel
theorem dX4_count_11 : decode cX4_count 11 = .ok (.aload_n 0, 1) := by decide +kernel
theorem dX4_count_12 : decode cX4_count 12 = .ok (.getfield 48, 3) := by decide +kernel
theorem dX4_count_15 : decode cX4_count 15 = .ok (.ireturn, 1) := by decide +kernel
theorem dX4_append_0 : decode cX4_append 0 = .ok (.iload_n 1, 1) := by decide +kernel
theorem dX4_append_1 : decode cX4_append 1 = .ok (.ifCond .eq 26, 3) := by decide +kernel
theorem dX4_append_4 : decode cX4_append 4 = .ok (.aload_n 0, 1) := by decide +kernel
theorem dX4_append_5 : decode cX4_append 5 = .ok (.getfield 7, 3) := by decide +kernel
theorem dX4_append_8 : decode cX4_append 8 = .ok (.aload_n 0, 1) := by decide +kernel
theorem dX4_append_9 : decode cX4_append 9 = .ok (.getfield 45, 3) := by decide +kernel
theorem dX4_append_12 : decode cX4_append 12 = .ok (.iload_n 2, 1) := by decide +kernel
theorem dX4_append_13 : decode cX4_append 13 = .ok (.iastore, 1) := by decide +kernel
theorem dX4_append_14 : decode cX4_append 14 = .ok (.aload_n 0, 1) := by decide +kernel
theorem dX4_append_15 : decode cX4_append 15 = .ok (.dup, 1) := by decide +kernel
theorem dX4_append_16 : decode cX4_append 16 = .ok (.getfield 45, 3) := by decide +kernel
theorem dX4_append_19 : decode cX4_append 19 = .ok (.iconst 1, 1) := by decide +kernel
theorem dX4_append_20 : decode cX4_append 20 = .ok (.iadd, 1) := by decide +kernel
theorem dX4_append_21 : decode cX4_append 21 = .ok (.putfield 45, 3) := by decide +kernel
theorem dX4_append_24 : decode cX4_append 24 = .ok (.goto 26, 3) := by decide +kernel
theorem dX4_append_27 : decode cX4_append 27 = .ok (.aload_n 0, 1) := by decide +kernel
theorem dX4_append_28 : decode cX4_append 28 = .ok (.getfield 7, 3) := by decide +kernel
theorem dX4_append_31 : decode cX4_append 31 = .ok (.bipush 30, 2) := by decide +kernel
theorem dX4_append_33 : decode cX4_append 33 = .ok (.aload_n 0, 1) := by decide +kernel
theorem dX4_append_34 : decode cX4_append 34 = .ok (.getfield 48, 3) := by decide +kernel
theorem dX4_append_37 : decode cX4_append 37 = .ok (.iadd, 1) := by decide +kernel
theorem dX4_append_38 : decode cX4_append 38 = .ok (.iload_n 2, 1) := by decide +kernel
theorem dX4_append_39 : decode cX4_append 39 = .ok (.iastore, 1) := by decide +kernel
theorem dX4_append_40 : decode cX4_append 40 = .ok (.aload_n 0, 1) := by decide +kernel
theorem dX4_append_41 : decode cX4_append 41 = .ok (.dup, 1) := by decide +kernel
theorem dX4_append_42 : decode cX4_append 42 = .ok (.getfield 48, 3) := by decide +kernel
theorem dX4_append_45 : decode cX4_append 45 = .ok (.iconst 1, 1) := by decide +kernel
theorem dX4_append_46 : decode cX4_append 46 = .ok (.iadd, 1) := by decide +kernel
theorem dX4_append_47 : decode cX4_append 47 = .ok (.putfield 48, 3) := by decide +kernel
theorem dX4_append_50 : decode cX4_append 50 = .ok (.return_, 1) := by decide +kernel
theorem dX4_mayAppend_0 : decode cX4_mayAppend 0 = .ok (.aload_n 0, 1) := by decide +kernel
theorem dX4_mayAppend_1 : decode cX4_mayAppend 1 = .ok (.aload_n 0, 1) := by decide +kernel
theorem dX4_mayAppend_2 : decode cX4_mayAppend 2 = .ok (.iload_n 1, 1) := by decide +kernel
theorem dX4_mayAppend_3 : decode cX4_mayAppend 3 = .ok (.invokevirtual 51, 3) := by decide +kernel
theorem dX4_mayAppend_6 : decode cX4_mayAppend 6 = .ok (.i2l, 1) := by decide +kernel
theorem dX4_mayAppend_7 : decode cX4_mayAppend 7 = .ok (.lload_n 2, 1) := by decide +kernel
theorem dX4_mayAppend_8 : decode cX4_mayAppend 8 = .ok (.ladd, 1) := by decide +kernel
theorem dX4_mayAppend_9 : decode cX4_mayAppend 9 = .ok (.ldc2_w 55, 3) := by decide +kernel
theorem dX4_mayAppend_12 : decode cX4_mayAppend 12 = .ok (.lcmp, 1) := by decide +kernel
theorem dX4_mayAppend_13 : decode cX4_mayAppend 13 = .ok (.ifCond .gt 14, 3) := by decide +kernel
theorem dX4_mayAppend_16 : decode cX4_mayAppend 16 = .ok (.iload_n 1, 1) := by decide +kernel
theorem dX4_mayAppend_17 : decode cX4_mayAppend 17 = .ok (.ifCond .eq 14, 3) := by decide +kernel
theorem dX4_mayAppend_20 : decode cX4_mayAppend 20 = .ok (.aload_n 0, 1) := by decide +kernel
theorem dX4_mayAppend_21 : decode cX4_mayAppend 21 = .ok (.getfield 57, 3) := by decide +kernel
theorem dX4_mayAppend_24 : decode cX4_mayAppend 24 = .ok (.ifCond .le 7, 3) := by decide +kernel
theorem dX4_mayAppend_27 : decode cX4_mayAppend 27 = .ok (.iconst 2, 1) := by decide +kernel
theorem dX4_mayAppend_28 : decode cX4_mayAppend 28 = .ok (.goto 4, 3) := by decide +kernel
theorem dX4_mayAppend_31 : decode cX4_mayAppend 31 = .ok (.iconst 0, 1) := by decide +kernel
theorem dX4_mayAppend_32 : decode cX4_mayAppend 32 = .ok (.putfield 42, 3) := by decide +kernel
theorem dX4_mayAppend_35 : decode cX4_mayAppend 35 = .ok (.aload_n 0, 1) := by decide +kernel
theorem dX4_mayAppend_36 : decode cX4_mayAppend 36 = .ok (.getfield 42, 3) := by decide +kernel
theorem dX4_mayAppend_39 : decode cX4_mayAppend 39 = .ok (.ifCond .ne 7, 3) := by decide +kernel
theorem dX4_mayAppend_42 : decode cX4_mayAppend 42 = .ok (.iconst 1, 1) := by decide +kernel
theorem dX4_mayAppend_43 : decode cX4_mayAppend 43 = .ok (.goto 4, 3) := by decide +kernel
theorem dX4_mayAppend_46 : decode cX4_mayAppend 46 = .ok (.iconst 0, 1) := by decide +kernel
theorem dX4_mayAppend_47 : decode cX4_mayAppend 47 = .ok (.ireturn, 1) := by decide +kernel
theorem dX4_isOne_0 : decode cX4_isOne 0 = .ok (.iload_n 0, 1) := by decide +kernel
theorem dX4_isOne_1 : decode cX4_isOne 1 = .ok (.ifCond .lt 13, 3) := by decide +kernel
theorem dX4_isOne_4 : decode cX4_isOne 4 = .ok (.iload_n 0, 1) := by decide +kernel
theorem dX4_isOne_5 : decode cX4_isOne 5 = .ok (.bipush 12, 2) := by decide +kernel
theorem dX4_isOne_7 : decode cX4_isOne 7 = .ok (.if_icmp .ge 7, 3) := by decide +kernel
theorem dX4_isOne_10 : decode cX4_isOne 10 = .ok (.iconst 1, 1) := by decide +kernel
theorem dX4_isOne_11 : decode cX4_isOne 11 = .ok (.goto 4, 3) := by decide +kernel
theorem dX4_isOne_14 : decode cX4_isOne 14 = .ok (.iconst 0, 1) := by decide +kernel
theorem dX4_isOne_15 : decode cX4_isOne 15 = .ok (.ireturn, 1) := by decide +kernel
theorem dX4_run_0 : decode cX4_run 0 = .ok (.aload_n 0, 1) := by decide +kernel
theorem dX4_run_1 : decode cX4_run 1 = .ok (.iload_n 2, 1) := by decide +kernel
theorem dX4_run_2 : decode cX4_run 2 = .ok (.invokestatic 60, 3) := by decide +kernel
theorem dX4_run_5 : decode cX4_run 5 = .ok (.ifCond .eq 14, 3) := by decide +kernel
theorem dX4_run_8 : decode cX4_run 8 = .ok (.iload_n 3, 1) := by decide +kernel
theorem dX4_run_9 : decode cX4_run 9 = .ok (.invokestatic 60, 3) := by decide +kernel
theorem dX4_run_12 : decode cX4_run 12 = .ok (.ifCond .eq 7, 3) := by decide +kernel
theorem dX4_run_15 : decode cX4_run 15 = .ok (.iconst 0, 1) := by decide +kernel
theorem dX4_run_16 : decode cX4_run 16 = .ok (.goto 4, 3) := by decide +kernel
theorem dX4_run_19 : decode cX4_run 19 = .ok (.iconst 1, 1) := by decide +kernel
theorem dX4_run_20 : decode cX4_run 20 = .ok (.putfield 42, 3) := by decide +kernel
theorem dX4_run_23 : decode cX4_run 23 = .ok (.aload_n 0, 1) := by decide +kernel
theorem dX4_run_24 : decode cX4_run 24 = .ok (.getfield 42, 3) := by decide +kernel
theorem dX4_run_27 : decode cX4_run 27 = .ok (.ifCond .eq 5, 3) := by decide +kernel
theorem dX4_run_30 : decode cX4_run 30 = .ok (.iconst 0, 1) := by decide +kernel
theorem dX4_run_31 : decode cX4_run 31 = .ok (.ireturn, 1) := by decide +kernel
theorem dX4_run_32 : decode cX4_run 32 = .ok (.iload_n 2, 1) := by decide +kernel
theorem dX4_run_33 : decode cX4_run 33 = .ok (.iload_n 3, 1) := by decide +kernel
theorem dX4_run_34 : decode cX4_run 34 = .ok (.if_icmp .gt 7, 3) := by decide +kernel
theorem dX4_run_37 : decode cX4_run 37 = .ok (.iconst 1, 1) := by decide +kernel
theorem dX4_run_38 : decode cX4_run 38 = .ok (.goto 4, 3) := by decide +kernel
theorem dX4_run_41 : decode cX4_run 41 = .ok (.iconst (-1), 1) := by decide +kernel
theorem dX4_run_42 : decode cX4_run 42 = .ok (.istore 4, 2) := by decide +kernel
theorem dX4_run_44 : decode cX4_run 44 = .ok (.aload_n 0, 1) := by decide +kernel
theorem dX4_run_45 : decode cX4_run 45 = .ok (.iload_n 1, 1) := by decide +kernel
theorem dX4_run_46 : decode cX4_run 46 = .ok (.iload_n 3, 1) := by decide +kernel
theorem dX4_run_47 : decode cX4_run 47 = .ok (.iload_n 2, 1) := by decide +kernel
theorem dX4_run_48 : decode cX4_run 48 = .ok (.isub, 1) := by decide +kernel
theorem dX4_run_49 : decode cX4_run 49 = .ok (.iload 4, 2) := by decide +kernel
theorem dX4_run_51 : decode cX4_run 51 = .ok (.imul, 1) := by decide +kernel
theorem dX4_run_52 : decode cX4_run 52 = .ok (.iconst 1, 1) := by decide +kernel
theorem dX4_run_53 : decode cX4_run 53 = .ok (.iadd, 1) := by decide +kernel
theorem dX4_run_54 : decode cX4_run 54 = .ok (.i2l, 1) := by decide +kernel
theorem dX4_run_55 : decode cX4_run 55 = .ok (.invokevirtual 64, 3) := by decide +kernel
theorem dX4_run_58 : decode cX4_run 58 = .ok (.ifCond .ne 5, 3) := by decide +kernel
theorem dX4_run_61 : decode cX4_run 61 = .ok (.iconst 0, 1) := by decide +kernel
theorem dX4_run_62 : decode cX4_run 62 = .ok (.ireturn, 1) := by decide +kernel
theorem dX4_run_63 : decode cX4_run 63 = .ok (.iload_n 2, 1) := by decide +kernel
theorem dX4_run_64 : decode cX4_run 64 = .ok (.istore 5, 2) := by decide +kernel
theorem dX4_run_66 : decode cX4_run 66 = .ok (.iload 5, 2) := by decide +kernel
theorem dX4_run_68 : decode cX4_run 68 = .ok (.iload_n 3, 1) := by decide +kernel
theorem dX4_run_69 : decode cX4_run 69 = .ok (.iload 4, 2) := by decide +kernel
theorem dX4_run_71 : decode cX4_run 71 = .ok (.iadd, 1) := by decide +kernel
theorem dX4_run_72 : decode cX4_run 72 = .ok (.if_icmp .eq 20, 3) := by decide +kernel
theorem dX4_run_75 : decode cX4_run 75 = .ok (.aload_n 0, 1) := by decide +kernel
theorem dX4_run_76 : decode cX4_run 76 = .ok (.iload_n 1, 1) := by decide +kernel
theorem dX4_run_77 : decode cX4_run 77 = .ok (.iload 5, 2) := by decide +kernel
theorem dX4_run_79 : decode cX4_run 79 = .ok (.invokevirtual 68, 3) := by decide +kernel
theorem dX4_run_82 : decode cX4_run 82 = .ok (.iload 5, 2) := by decide +kernel
theorem dX4_run_84 : decode cX4_run 84 = .ok (.iload 4, 2) := by decide +kernel
theorem dX4_run_86 : decode cX4_run 86 = .ok (.iadd, 1) := by decide +kernel
theorem dX4_run_87 : decode cX4_run 87 = .ok (.istore 5, 2) := by decide +kernel
theorem dX4_run_89 : decode cX4_run 89 = .ok (.goto (-23), 3) := by decide +kernel
theorem dX4_run_92 : decode cX4_run 92 = .ok (.aload_n 0, 1) := by decide +kernel
theorem dX4_run_93 : decode cX4_run 93 = .ok (.iload_n 1, 1) := by decide +kernel
theorem dX4_run_94 : decode cX4_run 94 = .ok (.invokevirtual 51, 3) := by decide +kernel
theorem dX4_run_97 : decode cX4_run 97 = .ok (.ireturn, 1) := by decide +kernel
theorem dX4_again_0 : decode cX4_again 0 = .ok (.aload_n 0, 1) := by decide +kernel
theorem dX4_again_1 : decode cX4_again 1 = .ok (.iload_n 1, 1) := by decide +kernel
theorem dX4_again_2 : decode cX4_again 2 = .ok (.invokevirtual 51, 3) := by decide +kernel
theorem dX4_again_5 : decode cX4_again 5 = .ok (.istore 5, 2) := by decide +kernel
theorem dX4_again_7 : decode cX4_again 7 = .ok (.aload_n 0, 1) := by decide +kernel
theorem dX4_again_8 : decode cX4_again 8 = .ok (.iload_n 2, 1) := by decide +kernel
theorem dX4_again_9 : decode cX4_again 9 = .ok (.iconst 1, 1) := by decide +kernel
theorem dX4_again_10 : decode cX4_again 10 = .ok (.if_icmp .lt 18, 3) := by decide +kernel
theorem dX4_again_13 : decode cX4_again 13 = .ok (.iload_n 2, 1) := by decide +kernel
theorem dX4_again_14 : decode cX4_again 14 = .ok (.iload 5, 2) := by decide +kernel
theorem dX4_again_16 : decode cX4_again 16 = .ok (.if_icmp .gt 12, 3) := by decide +kernel
theorem dX4_again_19 : decode cX4_again 19 = .ok (.iload 4, 2) := by decide +kernel
theorem dX4_again_21 : decode cX4_again 21 = .ok (.ifCond .ne 11, 3) := by decide +kernel
theorem dX4_again_24 : decode cX4_again 24 = .ok (.iload_n 3, 1) := by decide +kernel
theorem dX4_again_25 : decode cX4_again 25 = .ok (.ifCond .ge 7, 3) := by decide +kernel
theorem dX4_again_28 : decode cX4_again 28 = .ok (.iconst 1, 1) := by decide +kernel
theorem dX4_again_29 : decode cX4_again 29 = .ok (.goto 4, 3) := by decide +kernel
theorem dX4_again_32 : decode cX4_again 32 = .ok (.iconst 0, 1) := by decide +kernel
theorem dX4_again_33 : decode cX4_again 33 = .ok (.putfield 42, 3) := by decide +kernel
theorem dX4_again_36 : decode cX4_again 36 = .ok (.aload_n 0, 1) := by decide +kernel
theorem dX4_again_37 : decode cX4_again 37 = .ok (.getfield 42, 3) := by decide +kernel
theorem dX4_again_40 : decode cX4_again 40 = .ok (.ifCond .eq 5, 3) := by decide +kernel
theorem dX4_again_43 : decode cX4_again 43 = .ok (.iconst 0, 1) := by decide +kernel
theorem dX4_again_44 : decode cX4_again 44 = .ok (.ireturn, 1) := by decide +kernel
theorem dX4_again_45 : decode cX4_again 45 = .ok (.iload_n 1, 1) := by decide +kernel
theorem dX4_again_46 : decode cX4_again 46 = .ok (.ifCond .eq 7, 3) := by decide +kernel
theorem dX4_again_49 : decode cX4_again 49 = .ok (.iconst 0, 1) := by decide +kernel
theorem dX4_again_50 : decode cX4_again 50 = .ok (.goto 5, 3) := by decide +kernel
theorem dX4_again_53 : decode cX4_again 53 = .ok (.bipush 30, 2) := by decide +kernel
theorem dX4_again_55 : decode cX4_again 55 = .ok (.istore 6, 2) := by decide +kernel
theorem dX4_again_57 : decode cX4_again 57 = .ok (.iload 4, 2) := by decide +kernel
theorem dX4_again_59 : decode cX4_again 59 = .ok (.ifCond .eq 56, 3) := by decide +kernel
theorem dX4_again_62 : decode cX4_again 62 = .ok (.aload_n 0, 1) := by decide +kernel
theorem dX4_again_63 : decode cX4_again 63 = .ok (.iload_n 1, 1) := by decide +kernel
theorem dX4_again_64 : decode cX4_again 64 = .ok (.iload_n 2, 1) := by decide +kernel
theorem dX4_again_65 : decode cX4_again 65 = .ok (.iconst 1, 1) := by decide +kernel
theorem dX4_again_66 : decode cX4_again 66 = .ok (.isub, 1) := by decide +kernel
theorem dX4_again_67 : decode cX4_again 67 = .ok (.i2l, 1) := by decide +kernel
theorem dX4_again_68 : decode cX4_again 68 = .ok (.invokevirtual 64, 3) := by decide +kernel
theorem dX4_again_71 : decode cX4_again 71 = .ok (.ifCond .ne 5, 3) := by decide +kernel
theorem dX4_again_74 : decode cX4_again 74 = .ok (.iconst 0, 1) := by decide +kernel
theorem dX4_again_75 : decode cX4_again 75 = .ok (.ireturn, 1) := by decide +kernel
theorem dX4_again_76 : decode cX4_again 76 = .ok (.iconst 2, 1) := by decide +kernel
theorem dX4_again_77 : decode cX4_again 77 = .ok (.istore 7, 2) := by decide +kernel
theorem dX4_again_79 : decode cX4_again 79 = .ok (.iload 7, 2) := by decide +kernel
theorem dX4_again_81 : decode cX4_again 81 = .ok (.iload_n 2, 1) := by decide +kernel
theorem dX4_again_82 : decode cX4_again 82 = .ok (.if_icmp .gt 27, 3) := by decide +kernel
theorem dX4_again_85 : decode cX4_again 85 = .ok (.aload_n 0, 1) := by decide +kernel
theorem dX4_again_86 : decode cX4_again 86 = .ok (.iload_n 1, 1) := by decide +kernel
theorem dX4_again_87 : decode cX4_again 87 = .ok (.aload_n 0, 1) := by decide +kernel
theorem dX4_again_88 : decode cX4_again 88 = .ok (.getfield 7, 3) := by decide +kernel
theorem dX4_again_91 : decode cX4_again 91 = .ok (.iload 6, 2) := by decide +kernel
theorem dX4_again_93 : decode cX4_again 93 = .ok (.iload 5, 2) := by decide +kernel
theorem dX4_again_95 : decode cX4_again 95 = .ok (.iadd, 1) := by decide +kernel
theorem dX4_again_96 : decode cX4_again 96 = .ok (.iload 7, 2) := by decide +kernel
theorem dX4_again_98 : decode cX4_again 98 = .ok (.isub, 1) := by decide +kernel
theorem dX4_again_99 : decode cX4_again 99 = .ok (.iaload, 1) := by decide +kernel
theorem dX4_again_100 : decode cX4_again 100 = .ok (.invokevirtual 68, 3) := by decide +kernel
theorem dX4_again_103 : decode cX4_again 103 = .ok (.iinc 7 1, 3) := by decide +kernel
theorem dX4_again_106 : decode cX4_again 106 = .ok (.goto (-27), 3) := by decide +kernel
theorem dX4_again_109 : decode cX4_again 109 = .ok (.aload_n 0, 1) := by decide +kernel
theorem dX4_again_110 : decode cX4_again 110 = .ok (.iload_n 1, 1) := by decide +kernel
theorem dX4_again_111 : decode cX4_again 111 = .ok (.invokevirtual 51, 3) := by decide +kernel
theorem dX4_again_114 : decode cX4_again 114 = .ok (.ireturn, 1) := by decide +kernel
theorem dX4_again_115 : decode cX4_again 115 = .ok (.aload_n 0, 1) := by decide +kernel
theorem dX4_again_116 : decode cX4_again 116 = .ok (.iload_n 1, 1) := by decide +kernel
theorem dX4_again_117 : decode cX4_again 117 = .ok (.iload_n 2, 1) := by decide +kernel
theorem dX4_again_118 : decode cX4_again 118 = .ok (.i2l, 1) := by decide +kernel
theorem dX4_again_119 : decode cX4_again 119 = .ok (.iload_n 3, 1) := by decide +kernel
theorem dX4_again_120 : decode cX4_again 120 = .ok (.i2l, 1) := by decide +kernel
theorem dX4_again_121 : decode cX4_again 121 = .ok (.lmul, 1) := by decide +kernel
theorem dX4_again_122 : decode cX4_again 122 = .ok (.invokevirtual 64, 3) := by decide +kernel
theorem dX4_again_125 : decode cX4_again 125 = .ok (.ifCond .ne 5, 3) := by decide +kernel
theorem dX4_again_128 : decode cX4_again 128 = .ok (.iconst 0, 1) := by decide +kernel
theorem dX4_again_129 : decode cX4_again 129 = .ok (.ireturn, 1) := by decide +kernel
theorem dX4_again_130 : decode cX4_again 130 = .ok (.iconst 0, 1) := by decide +kernel
theorem dX4_again_131 : decode cX4_again 131 = .ok (.istore 7, 2) := by decide +kernel
theorem dX4_again_133 : decode cX4_again 133 = .ok (.iload 7, 2) := by decide +kernel
theorem dX4_again_135 : decode cX4_again 135 = .ok (.iload_n 2, 1) := by decide +kernel
theorem dX4_again_136 : decode cX4_again 136 = .ok (.iload_n 3, 1) := by decide +kernel
theorem dX4_again_137 : decode cX4_again 137 = .ok (.imul, 1) := by decide +kernel
theorem dX4_again_138 : decode cX4_again 138 = .ok (.if_icmp .ge 31, 3) := by decide +kernel
theorem dX4_again_141 : decode cX4_again 141 = .ok (.aload_n 0, 1) := by decide +kernel
theorem dX4_again_142 : decode cX4_again 142 = .ok (.iload_n 1, 1) := by decide +kernel
theorem dX4_again_143 : decode cX4_again 143 = .ok (.aload_n 0, 1) := by decide +kernel
theorem dX4_again_144 : decode cX4_again 144 = .ok (.getfield 7, 3) := by decide +kernel
theorem dX4_again_147 : decode cX4_again 147 = .ok (.iload 6, 2) := by decide +kernel
theorem dX4_again_149 : decode cX4_again 149 = .ok (.iload 5, 2) := by decide +kernel
theorem dX4_again_151 : decode cX4_again 151 = .ok (.iadd, 1) := by decide +kernel
theorem dX4_again_152 : decode cX4_again 152 = .ok (.iload_n 2, 1) := by decide +kernel
theorem dX4_again_153 : decode cX4_again 153 = .ok (.isub, 1) := by decide +kernel
theorem dX4_again_154 : decode cX4_again 154 = .ok (.iload 7, 2) := by decide +kernel
theorem dX4_again_156 : decode cX4_again 156 = .ok (.iload_n 2, 1) := by decide +kernel
theorem dX4_again_157 : decode cX4_again 157 = .ok (.irem, 1) := by decide +kernel
theorem dX4_again_158 : decode cX4_again 158 = .ok (.iadd, 1) := by decide +kernel
theorem dX4_again_159 : decode cX4_again 159 = .ok (.iaload, 1) := by decide +kernel
theorem dX4_again_160 : decode cX4_again 160 = .ok (.invokevirtual 68, 3) := by decide +kernel
theorem dX4_again_163 : decode cX4_again 163 = .ok (.iinc 7 1, 3) := by decide +kernel
theorem dX4_again_166 : decode cX4_again 166 = .ok (.goto (-33), 3) := by decide +kernel
theorem dX4_again_169 : decode cX4_again 169 = .ok (.aload_n 0, 1) := by decide +kernel
theorem dX4_again_170 : decode cX4_again 170 = .ok (.iload_n 1, 1) := by decide +kernel
theorem dX4_again_171 : decode cX4_again 171 = .ok (.invokevirtual 51, 3) := by decide +kernel
theorem dX4_again_174 : decode cX4_again 174 = .ok (.ireturn, 1) := by decide +kernel
theorem dX4_clear_0 : decode cX4_clear 0 = .ok (.aload_n 0, 1) := by decide +kernel
theorem dX4_clear_1 : decode cX4_clear 1 = .ok (.iload_n 1, 1) := by decide +kernel
theorem dX4_clear_2 : decode cX4_clear 2 = .ok (.ifCond .eq 14, 3) := by decide +kernel
theorem dX4_clear_5 : decode cX4_clear 5 = .ok (.aload_n 0, 1) := by decide +kernel
theorem dX4_clear_6 : decode cX4_clear 6 = .ok (.getfield 57, 3) := by decide +kernel
theorem dX4_clear_9 : decode cX4_clear 9 = .ok (.ifCond .le 7, 3) := by decide +kernel
theorem dX4_clear_12 : decode cX4_clear 12 = .ok (.iconst 1, 1) := by decide +kernel
theorem dX4_clear_13 : decode cX4_clear 13 = .ok (.goto 4, 3) := by decide +kernel
theorem dX4_clear_16 : decode cX4_clear 16 = .ok (.iconst 0, 1) := by decide +kernel
theorem dX4_clear_17 : decode cX4_clear 17 = .ok (.putfield 42, 3) := by decide +kernel
theorem dX4_clear_20 : decode cX4_clear 20 = .ok (.aload_n 0, 1) := by decide +kernel
theorem dX4_clear_21 : decode cX4_clear 21 = .ok (.getfield 42, 3) := by decide +kernel
theorem dX4_clear_24 : decode cX4_clear 24 = .ok (.ifCond .eq 5, 3) := by decide +kernel
theorem dX4_clear_27 : decode cX4_clear 27 = .ok (.iconst 0, 1) := by decide +kernel
theorem dX4_clear_28 : decode cX4_clear 28 = .ok (.ireturn, 1) := by decide +kernel
theorem dX4_clear_29 : decode cX4_clear 29 = .ok (.iload_n 1, 1) := by decide +kernel
theorem dX4_clear_30 : decode cX4_clear 30 = .ok (.ifCond .eq 11, 3) := by decide +kernel
theorem dX4_clear_33 : decode cX4_clear 33 = .ok (.aload_n 0, 1) := by decide +kernel
theorem dX4_clear_34 : decode cX4_clear 34 = .ok (.iconst 0, 1) := by decide +kernel
theorem dX4_clear_35 : decode cX4_clear 35 = .ok (.putfield 45, 3) := by decide +kernel
theorem dX4_clear_38 : decode cX4_clear 38 = .ok (.goto 11, 3) := by decide +kernel
theorem dX4_clear_41 : decode cX4_clear 41 = .ok (.aload_n 0, 1) := by decide +kernel
theorem dX4_clear_42 : decode cX4_clear 42 = .ok (.aload_n 0, 1) := by decide +kernel
theorem dX4_clear_43 : decode cX4_clear 43 = .ok (.getfield 57, 3) := by decide +kernel
theorem dX4_clear_46 : decode cX4_clear 46 = .ok (.putfield 48, 3) := by decide +kernel
theorem dX4_clear_49 : decode cX4_clear 49 = .ok (.aload_n 0, 1) := by decide +kernel
theorem dX4_clear_50 : decode cX4_clear 50 = .ok (.iload_n 1, 1) := by decide +kernel
theorem dX4_clear_51 : decode cX4_clear 51 = .ok (.invokevirtual 51, 3) := by decide +kernel
theorem dX4_clear_54 : decode cX4_clear 54 = .ok (.ireturn, 1) := by decide +kernel
theorem dX4_tie_0 : decode cX4_tie 0 = .ok (.aload_n 0, 1) := by decide +kernel
theorem dX4_tie_1 : decode cX4_tie 1 = .ok (.iload_n 1, 1) := by decide +kernel
theorem dX4_tie_2 : decode cX4_tie 2 = .ok (.invokestatic 60, 3) := by decide +kernel
theorem dX4_tie_5 : decode cX4_tie 5 = .ok (.ifCond .eq 14, 3) := by decide +kernel
theorem dX4_tie_8 : decode cX4_tie 8 = .ok (.iload_n 2, 1) := by decide +kernel
theorem dX4_tie_9 : decode cX4_tie 9 = .ok (.invokestatic 60, 3) := by decide +kernel
theorem dX4_tie_12 : decode cX4_tie 12 = .ok (.ifCond .eq 7, 3) := by decide +kernel
theorem dX4_tie_15 : decode cX4_tie 15 = .ok (.iconst 0, 1) := by decide +kernel
theorem dX4_tie_16 : decode cX4_tie 16 = .ok (.goto 4, 3) := by decide +kernel
theorem dX4_tie_19 : decode cX4_tie 19 = .ok (.iconst 1, 1) := by decide +kernel
theorem dX4_tie_20 : decode cX4_tie 20 = .ok (.putfield 42, 3) := by decide +kernel
theorem dX4_tie_23 : decode cX4_tie 23 = .ok (.aload_n 0, 1) := by decide +kernel
theorem dX4_tie_24 : decode cX4_tie 24 = .ok (.getfield 42, 3) := by decide +kernel
theorem dX4_tie_27 : decode cX4_tie 27 = .ok (.ifCond .eq 5, 3) := by decide +kernel
theorem dX4_tie_30 : decode cX4_tie 30 = .ok (.iconst 0, 1) := by decide +kernel
theorem dX4_tie_31 : decode cX4_tie 31 = .ok (.ireturn, 1) := by decide +kernel
theorem dX4_tie_32 : decode cX4_tie 32 = .ok (.aload_n 0, 1) := by decide +kernel
theorem dX4_tie_33 : decode cX4_tie 33 = .ok (.getfield 13, 3) := by decide +kernel
theorem dX4_tie_36 : decode cX4_tie 36 = .ok (.bipush 12, 2) := by decide +kernel
theorem dX4_tie_38 : decode cX4_tie 38 = .ok (.iload_n 1, 1) := by decide +kernel
theorem dX4_tie_39 : decode cX4_tie 39 = .ok (.imul, 1) := by decide +kernel
theorem dX4_tie_40 : decode cX4_tie 40 = .ok (.iload_n 2, 1) := by decide +kernel
theorem dX4_tie_41 : decode cX4_tie 41 = .ok (.iadd, 1) := by decide +kernel
theorem dX4_tie_42 : decode cX4_tie 42 = .ok (.baload, 1) := by decide +kernel
theorem dX4_tie_43 : decode cX4_tie 43 = .ok (.istore 4, 2) := by decide +kernel
theorem dX4_tie_45 : decode cX4_tie 45 = .ok (.aload_n 0, 1) := by decide +kernel
theorem dX4_tie_46 : decode cX4_tie 46 = .ok (.getfield 13, 3) := by decide +kernel
theorem dX4_tie_49 : decode cX4_tie 49 = .ok (.bipush 12, 2) := by decide +kernel
theorem dX4_tie_51 : decode cX4_tie 51 = .ok (.iload_n 1, 1) := by decide +kernel
theorem dX4_tie_52 : decode cX4_tie 52 = .ok (.imul, 1) := by decide +kernel
theorem dX4_tie_53 : decode cX4_tie 53 = .ok (.iload_n 2, 1) := by decide +kernel
theorem dX4_tie_54 : decode cX4_tie 54 = .ok (.iadd, 1) := by decide +kernel
theorem dX4_tie_55 : decode cX4_tie 55 = .ok (.iload_n 3, 1) := by decide +kernel
theorem dX4_tie_56 : decode cX4_tie 56 = .ok (.bastore, 1) := by decide +kernel
theorem dX4_tie_57 : decode cX4_tie 57 = .ok (.iload 4, 2) := by decide +kernel
theorem dX4_tie_59 : decode cX4_tie 59 = .ok (.ireturn, 1) := by decide +kernel
theorem dX4_draft_0 : decode cX4_draft 0 = .ok (.aload_n 0, 1) := by decide +kernel
theorem dX4_draft_1 : decode cX4_draft 1 = .ok (.iload_n 1, 1) := by decide +kernel
theorem dX4_draft_2 : decode cX4_draft 2 = .ok (.ifCond .lt 8, 3) := by decide +kernel
theorem dX4_draft_5 : decode cX4_draft 5 = .ok (.iload_n 1, 1) := by decide +kernel
theorem dX4_draft_6 : decode cX4_draft 6 = .ok (.iconst 5, 1) := by decide +kernel
theorem dX4_draft_7 : decode cX4_draft 7 = .ok (.if_icmp .le 7, 3) := by decide +kernel
theorem dX4_draft_10 : decode cX4_draft 10 = .ok (.iconst 1, 1) := by decide +kernel
theorem dX4_draft_11 : decode cX4_draft 11 = .ok (.goto 4, 3) := by decide +kernel
theorem dX4_draft_14 : decode cX4_draft 14 = .ok (.iconst 0, 1) := by decide +kernel
theorem dX4_draft_15 : decode cX4_draft 15 = .ok (.putfield 42, 3) := by decide +kernel
theorem dX4_draft_18 : decode cX4_draft 18 = .ok (.aload_n 0, 1) := by decide +kernel
theorem dX4_draft_19 : decode cX4_draft 19 = .ok (.getfield 42, 3) := by decide +kernel
theorem dX4_draft_22 : decode cX4_draft 22 = .ok (.ifCond .eq 5, 3) := by decide +kernel
theorem dX4_draft_25 : decode cX4_draft 25 = .ok (.iconst 0, 1) := by decide +kernel
theorem dX4_draft_26 : decode cX4_draft 26 = .ok (.ireturn, 1) := by decide +kernel
theorem dX4_draft_27 : decode cX4_draft 27 = .ok (.iload_n 1, 1) := by decide +kernel
theorem dX4_draft_28 : decode cX4_draft 28 = .ok (.ifCond .ne 26, 3) := by decide +kernel
theorem dX4_draft_31 : decode cX4_draft 31 = .ok (.iload_n 2, 1) := by decide +kernel
theorem dX4_draft_32 : decode cX4_draft 32 = .ok (.ifCond .lt 11, 3) := by decide +kernel
theorem dX4_draft_35 : decode cX4_draft 35 = .ok (.iload_n 2, 1) := by decide +kernel
theorem dX4_draft_36 : decode cX4_draft 36 = .ok (.aload_n 0, 1) := by decide +kernel
theorem dX4_draft_37 : decode cX4_draft 37 = .ok (.getfield 45, 3) := by decide +kernel
theorem dX4_draft_40 : decode cX4_draft 40 = .ok (.if_icmp .lt 7, 3) := by decide +kernel
theorem dX4_draft_43 : decode cX4_draft 43 = .ok (.iconst (-1), 1) := by decide +kernel
theorem dX4_draft_44 : decode cX4_draft 44 = .ok (.goto 9, 3) := by decide +kernel
theorem dX4_draft_47 : decode cX4_draft 47 = .ok (.aload_n 0, 1) := by decide +kernel
theorem dX4_draft_48 : decode cX4_draft 48 = .ok (.getfield 7, 3) := by decide +kernel
theorem dX4_draft_51 : decode cX4_draft 51 = .ok (.iload_n 2, 1) := by decide +kernel
theorem dX4_draft_52 : decode cX4_draft 52 = .ok (.iaload, 1) := by decide +kernel
theorem dX4_draft_53 : decode cX4_draft 53 = .ok (.ireturn, 1) := by decide +kernel
theorem dX4_draft_54 : decode cX4_draft 54 = .ok (.iload_n 1, 1) := by decide +kernel
theorem dX4_draft_55 : decode cX4_draft 55 = .ok (.iconst 1, 1) := by decide +kernel
theorem dX4_draft_56 : decode cX4_draft 56 = .ok (.if_icmp .ne 29, 3) := by decide +kernel
theorem dX4_draft_59 : decode cX4_draft 59 = .ok (.iload_n 2, 1) := by decide +kernel
theorem dX4_draft_60 : decode cX4_draft 60 = .ok (.ifCond .lt 11, 3) := by decide +kernel
theorem dX4_draft_63 : decode cX4_draft 63 = .ok (.iload_n 2, 1) := by decide +kernel
theorem dX4_draft_64 : decode cX4_draft 64 = .ok (.aload_n 0, 1) := by decide +kernel
theorem dX4_draft_65 : decode cX4_draft 65 = .ok (.getfield 48, 3) := by decide +kernel
theorem dX4_draft_68 : decode cX4_draft 68 = .ok (.if_icmp .lt 7, 3) := by decide +kernel
theorem dX4_draft_71 : decode cX4_draft 71 = .ok (.iconst (-1), 1) := by decide +kernel
theorem dX4_draft_72 : decode cX4_draft 72 = .ok (.goto 12, 3) := by decide +kernel
theorem dX4_draft_75 : decode cX4_draft 75 = .ok (.aload_n 0, 1) := by decide +kernel
theorem dX4_draft_76 : decode cX4_draft 76 = .ok (.getfield 7, 3) := by decide +kernel
theorem dX4_draft_79 : decode cX4_draft 79 = .ok (.bipush 30, 2) := by decide +kernel
theorem dX4_draft_81 : decode cX4_draft 81 = .ok (.iload_n 2, 1) := by decide +kernel
theorem dX4_draft_82 : decode cX4_draft 82 = .ok (.iadd, 1) := by decide +kernel
theorem dX4_draft_83 : decode cX4_draft 83 = .ok (.iaload, 1) := by decide +kernel
theorem dX4_draft_84 : decode cX4_draft 84 = .ok (.ireturn, 1) := by decide +kernel
theorem dX4_draft_85 : decode cX4_draft 85 = .ok (.iload_n 1, 1) := by decide +kernel
theorem dX4_draft_86 : decode cX4_draft 86 = .ok (.iconst 2, 1) := by decide +kernel
theorem dX4_draft_87 : decode cX4_draft 87 = .ok (.if_icmp .ne 41, 3) := by decide +kernel
theorem dX4_draft_90 : decode cX4_draft 90 = .ok (.iload_n 2, 1) := by decide +kernel
theorem dX4_draft_91 : decode cX4_draft 91 = .ok (.invokestatic 60, 3) := by decide +kernel
theorem dX4_draft_94 : decode cX4_draft 94 = .ok (.ifCond .eq 10, 3) := by decide +kernel
theorem dX4_draft_97 : decode cX4_draft 97 = .ok (.iload_n 3, 1) := by decide +kernel
theorem dX4_draft_98 : decode cX4_draft 98 = .ok (.invokestatic 60, 3) := by decide +kernel
