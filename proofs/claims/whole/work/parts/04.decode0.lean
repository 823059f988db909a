theorem dX0_init_0 : decode cX0_init 0 = .ok (.aload_n 0, 1) := by decide +kernel
theorem dX0_init_1 : decode cX0_init 1 = .ok (.invokespecial 1, 3) := by decide +kernel
theorem dX0_init_4 : decode cX0_init 4 = .ok (.aload_n 0, 1) := by decide +kernel
theorem dX0_init_5 : decode cX0_init 5 = .ok (.sipush 160, 3) := by decide +kernel
theorem dX0_init_8 : decode cX0_init 8 = .ok (.newarray .long, 2) := by decide +kernel
theorem dX0_init_10 : decode cX0_init 10 = .ok (.putfield 9, 3) := by decide +kernel
theorem dX0_init_13 : decode cX0_init 13 = .ok (.aload_n 0, 1) := by decide +kernel
theorem dX0_init_14 : decode cX0_init 14 = .ok (.sipush 160, 3) := by decide +kernel
theorem dX0_init_17 : decode cX0_init 17 = .ok (.putfield 13, 3) := by decide +kernel
theorem dX0_init_20 : decode cX0_init 20 = .ok (.aload_n 0, 1) := by decide +kernel
theorem dX0_init_21 : decode cX0_init 21 = .ok (.iconst (-1), 1) := by decide +kernel
theorem dX0_init_22 : decode cX0_init 22 = .ok (.putfield 17, 3) := by decide +kernel
theorem dX0_init_25 : decode cX0_init 25 = .ok (.return_, 1) := by decide +kernel
theorem dX0_wipe_0 : decode cX0_wipe 0 = .ok (.aload_n 0, 1) := by decide +kernel
theorem dX0_wipe_1 : decode cX0_wipe 1 = .ok (.getfield 13, 3) := by decide +kernel
theorem dX0_wipe_4 : decode cX0_wipe 4 = .ok (.istore_n 1, 1) := by decide +kernel
theorem dX0_wipe_5 : decode cX0_wipe 5 = .ok (.iload_n 1, 1) := by decide +kernel
theorem dX0_wipe_6 : decode cX0_wipe 6 = .ok (.aload_n 0, 1) := by decide +kernel
theorem dX0_wipe_7 : decode cX0_wipe 7 = .ok (.getfield 17, 3) := by decide +kernel
theorem dX0_wipe_10 : decode cX0_wipe 10 = .ok (.if_icmp .gt 16, 3) := by decide +kernel
theorem dX0_wipe_13 : decode cX0_wipe 13 = .ok (.aload_n 0, 1) := by decide +kernel
theorem dX0_wipe_14 : decode cX0_wipe 14 = .ok (.getfield 9, 3) := by decide +kernel
theorem dX0_wipe_17 : decode cX0_wipe 17 = .ok (.iload_n 1, 1) := by decide +kernel
theorem dX0_wipe_18 : decode cX0_wipe 18 = .ok (.lconst 0, 1) := by decide +kernel
theorem dX0_wipe_19 : decode cX0_wipe 19 = .ok (.lastore, 1) := by decide +kernel
theorem dX0_wipe_20 : decode cX0_wipe 20 = .ok (.iinc 1 1, 3) := by decide +kernel
theorem dX0_wipe_23 : decode cX0_wipe 23 = .ok (.goto (-18), 3) := by decide +kernel
theorem dX0_wipe_26 : decode cX0_wipe 26 = .ok (.aload_n 0, 1) := by decide +kernel
theorem dX0_wipe_27 : decode cX0_wipe 27 = .ok (.sipush 160, 3) := by decide +kernel
theorem dX0_wipe_30 : decode cX0_wipe 30 = .ok (.putfield 13, 3) := by decide +kernel
theorem dX0_wipe_33 : decode cX0_wipe 33 = .ok (.aload_n 0, 1) := by decide +kernel
theorem dX0_wipe_34 : decode cX0_wipe 34 = .ok (.iconst (-1), 1) := by decide +kernel
theorem dX0_wipe_35 : decode cX0_wipe 35 = .ok (.putfield 17, 3) := by decide +kernel
theorem dX0_wipe_38 : decode cX0_wipe 38 = .ok (.return_, 1) := by decide +kernel
theorem dX0_setDigit_0 : decode cX0_setDigit 0 = .ok (.iload_n 1, 1) := by decide +kernel
theorem dX0_setDigit_1 : decode cX0_setDigit 1 = .ok (.invokestatic 20, 3) := by decide +kernel
theorem dX0_setDigit_4 : decode cX0_setDigit 4 = .ok (.istore_n 3, 1) := by decide +kernel
theorem dX0_setDigit_5 : decode cX0_setDigit 5 = .ok (.iload_n 3, 1) := by decide +kernel
theorem dX0_setDigit_6 : decode cX0_setDigit 6 = .ok (.ifCond .lt 14, 3) := by decide +kernel
theorem dX0_setDigit_9 : decode cX0_setDigit 9 = .ok (.iload_n 3, 1) := by decide +kernel
theorem dX0_setDigit_10 : decode cX0_setDigit 10 = .ok (.sipush 160, 3) := by decide +kernel
theorem dX0_setDigit_13 : decode cX0_setDigit 13 = .ok (.if_icmp .ge 7, 3) := by decide +kernel
theorem dX0_setDigit_16 : decode cX0_setDigit 16 = .ok (.iload_n 2, 1) := by decide +kernel
theorem dX0_setDigit_17 : decode cX0_setDigit 17 = .ok (.ifCond .ne 4, 3) := by decide +kernel
theorem dX0_setDigit_20 : decode cX0_setDigit 20 = .ok (.return_, 1) := by decide +kernel
theorem dX0_setDigit_21 : decode cX0_setDigit 21 = .ok (.aload_n 0, 1) := by decide +kernel
theorem dX0_setDigit_22 : decode cX0_setDigit 22 = .ok (.getfield 9, 3) := by decide +kernel
theorem dX0_setDigit_25 : decode cX0_setDigit 25 = .ok (.iload_n 3, 1) := by decide +kernel
theorem dX0_setDigit_26 : decode cX0_setDigit 26 = .ok (.dup2, 1) := by decide +kernel
theorem dX0_setDigit_27 : decode cX0_setDigit 27 = .ok (.laload, 1) := by decide +kernel
theorem dX0_setDigit_28 : decode cX0_setDigit 28 = .ok (.iload_n 2, 1) := by decide +kernel
theorem dX0_setDigit_29 : decode cX0_setDigit 29 = .ok (.i2l, 1) := by decide +kernel
theorem dX0_setDigit_30 : decode cX0_setDigit 30 = .ok (.iload_n 1, 1) := by decide +kernel
theorem dX0_setDigit_31 : decode cX0_setDigit 31 = .ok (.invokestatic 24, 3) := by decide +kernel
theorem dX0_setDigit_34 : decode cX0_setDigit 34 = .ok (.lmul, 1) := by decide +kernel
theorem dX0_setDigit_35 : decode cX0_setDigit 35 = .ok (.ladd, 1) := by decide +kernel
theorem dX0_setDigit_36 : decode cX0_setDigit 36 = .ok (.lastore, 1) := by decide +kernel
theorem dX0_setDigit_37 : decode cX0_setDigit 37 = .ok (.aload_n 0, 1) := by decide +kernel
theorem dX0_setDigit_38 : decode cX0_setDigit 38 = .ok (.aload_n 0, 1) := by decide +kernel
theorem dX0_setDigit_39 : decode cX0_setDigit 39 = .ok (.getfield 13, 3) := by decide +kernel
theorem dX0_setDigit_42 : decode cX0_setDigit 42 = .ok (.iload_n 3, 1) := by decide +kernel
theorem dX0_setDigit_43 : decode cX0_setDigit 43 = .ok (.invokestatic 28, 3) := by decide +kernel
theorem dX0_setDigit_46 : decode cX0_setDigit 46 = .ok (.putfield 13, 3) := by decide +kernel
theorem dX0_setDigit_49 : decode cX0_setDigit 49 = .ok (.aload_n 0, 1) := by decide +kernel
theorem dX0_setDigit_50 : decode cX0_setDigit 50 = .ok (.aload_n 0, 1) := by decide +kernel
theorem dX0_setDigit_51 : decode cX0_setDigit 51 = .ok (.getfield 17, 3) := by decide +kernel
theorem dX0_setDigit_54 : decode cX0_setDigit 54 = .ok (.iload_n 3, 1) := by decide +kernel
theorem dX0_setDigit_55 : decode cX0_setDigit 55 = .ok (.invokestatic 34, 3) := by decide +kernel
theorem dX0_setDigit_58 : decode cX0_setDigit 58 = .ok (.putfield 17, 3) := by decide +kernel
theorem dX0_setDigit_61 : decode cX0_setDigit 61 = .ok (.return_, 1) := by decide +kernel
theorem dX0_digit_0 : decode cX0_digit 0 = .ok (.aload_n 0, 1) := by decide +kernel
theorem dX0_digit_1 : decode cX0_digit 1 = .ok (.iload_n 1, 1) := by decide +kernel
theorem dX0_digit_2 : decode cX0_digit 2 = .ok (.invokestatic 20, 3) := by decide +kernel
theorem dX0_digit_5 : decode cX0_digit 5 = .ok (.invokevirtual 37, 3) := by decide +kernel
theorem dX0_digit_8 : decode cX0_digit 8 = .ok (.iload_n 1, 1) := by decide +kernel
theorem dX0_digit_9 : decode cX0_digit 9 = .ok (.invokestatic 24, 3) := by decide +kernel
theorem dX0_digit_12 : decode cX0_digit 12 = .ok (.ldiv, 1) := by decide +kernel
theorem dX0_digit_13 : decode cX0_digit 13 = .ok (.ldc2_w 40, 3) := by decide +kernel
theorem dX0_digit_16 : decode cX0_digit 16 = .ok (.lrem, 1) := by decide +kernel
theorem dX0_digit_17 : decode cX0_digit 17 = .ok (.l2i, 1) := by decide +kernel
theorem dX0_digit_18 : decode cX0_digit 18 = .ok (.ireturn, 1) := by decide +kernel
theorem dX0_topPlace_0 : decode cX0_topPlace 0 = .ok (.aload_n 0, 1) := by decide +kernel
theorem dX0_topPlace_1 : decode cX0_topPlace 1 = .ok (.aload_n 0, 1) := by decide +kernel
theorem dX0_topPlace_2 : decode cX0_topPlace 2 = .ok (.getfield 13, 3) := by decide +kernel
theorem dX0_topPlace_5 : decode cX0_topPlace 5 = .ok (.invokevirtual 37, 3) := by decide +kernel
theorem dX0_topPlace_8 : decode cX0_topPlace 8 = .ok (.lstore_n 1, 1) := by decide +kernel
theorem dX0_topPlace_9 : decode cX0_topPlace 9 = .ok (.lload_n 1, 1) := by decide +kernel
theorem dX0_topPlace_10 : decode cX0_topPlace 10 = .ok (.lconst 0, 1) := by decide +kernel
theorem dX0_topPlace_11 : decode cX0_topPlace 11 = .ok (.lcmp, 1) := by decide +kernel
theorem dX0_topPlace_12 : decode cX0_topPlace 12 = .ok (.ifCond .ne 5, 3) := by decide +kernel
theorem dX0_topPlace_15 : decode cX0_topPlace 15 = .ok (.iconst 0, 1) := by decide +kernel
theorem dX0_topPlace_16 : decode cX0_topPlace 16 = .ok (.ireturn, 1) := by decide +kernel
theorem dX0_topPlace_17 : decode cX0_topPlace 17 = .ok (.bipush 8, 2) := by decide +kernel
theorem dX0_topPlace_19 : decode cX0_topPlace 19 = .ok (.istore_n 3, 1) := by decide +kernel
theorem dX0_topPlace_20 : decode cX0_topPlace 20 = .ok (.iload_n 3, 1) := by decide +kernel
theorem dX0_topPlace_21 : decode cX0_topPlace 21 = .ok (.ifCond .le 19, 3) := by decide +kernel
theorem dX0_topPlace_24 : decode cX0_topPlace 24 = .ok (.lload_n 1, 1) := by decide +kernel
theorem dX0_topPlace_25 : decode cX0_topPlace 25 = .ok (.getstatic 42, 3) := by decide +kernel
theorem dX0_topPlace_28 : decode cX0_topPlace 28 = .ok (.iload_n 3, 1) := by decide +kernel
theorem dX0_topPlace_29 : decode cX0_topPlace 29 = .ok (.laload, 1) := by decide +kernel
theorem dX0_topPlace_30 : decode cX0_topPlace 30 = .ok (.lcmp, 1) := by decide +kernel
theorem dX0_topPlace_31 : decode cX0_topPlace 31 = .ok (.ifCond .ge 9, 3) := by decide +kernel
theorem dX0_topPlace_34 : decode cX0_topPlace 34 = .ok (.iinc 3 (-1), 3) := by decide +kernel
theorem dX0_topPlace_37 : decode cX0_topPlace 37 = .ok (.goto (-17), 3) := by decide +kernel
theorem dX0_topPlace_40 : decode cX0_topPlace 40 = .ok (.bipush 34, 2) := by decide +kernel
theorem dX0_topPlace_42 : decode cX0_topPlace 42 = .ok (.aload_n 0, 1) := by decide +kernel
theorem dX0_topPlace_43 : decode cX0_topPlace 43 = .ok (.getfield 13, 3) := by decide +kernel
theorem dX0_topPlace_46 : decode cX0_topPlace 46 = .ok (.isub, 1) := by decide +kernel
theorem dX0_topPlace_47 : decode cX0_topPlace 47 = .ok (.bipush 9, 2) := by decide +kernel
theorem dX0_topPlace_49 : decode cX0_topPlace 49 = .ok (.imul, 1) := by decide +kernel
theorem dX0_topPlace_50 : decode cX0_topPlace 50 = .ok (.iload_n 3, 1) := by decide +kernel
theorem dX0_topPlace_51 : decode cX0_topPlace 51 = .ok (.iadd, 1) := by decide +kernel
theorem dX0_topPlace_52 : decode cX0_topPlace 52 = .ok (.ireturn, 1) := by decide +kernel
theorem dX0_isWide_0 : decode cX0_isWide 0 = .ok (.aload_n 0, 1) := by decide +kernel
theorem dX0_isWide_1 : decode cX0_isWide 1 = .ok (.getfield 13, 3) := by decide +kernel
theorem dX0_isWide_4 : decode cX0_isWide 4 = .ok (.bipush 33, 2) := by decide +kernel
theorem dX0_isWide_6 : decode cX0_isWide 6 = .ok (.if_icmp .ge 7, 3) := by decide +kernel
theorem dX0_isWide_9 : decode cX0_isWide 9 = .ok (.iconst 1, 1) := by decide +kernel
theorem dX0_isWide_10 : decode cX0_isWide 10 = .ok (.goto 4, 3) := by decide +kernel
theorem dX0_isWide_13 : decode cX0_isWide 13 = .ok (.iconst 0, 1) := by decide +kernel
theorem dX0_isWide_14 : decode cX0_isWide 14 = .ok (.ireturn, 1) := by decide +kernel
theorem dX0_whole_0 : decode cX0_whole 0 = .ok (.aload_n 0, 1) := by decide +kernel
theorem dX0_whole_1 : decode cX0_whole 1 = .ok (.getfield 9, 3) := by decide +kernel
theorem dX0_whole_4 : decode cX0_whole 4 = .ok (.bipush 33, 2) := by decide +kernel
theorem dX0_whole_6 : decode cX0_whole 6 = .ok (.laload, 1) := by decide +kernel
theorem dX0_whole_7 : decode cX0_whole 7 = .ok (.ldc2_w 45, 3) := by decide +kernel
theorem dX0_whole_10 : decode cX0_whole 10 = .ok (.lmul, 1) := by decide +kernel
theorem dX0_whole_11 : decode cX0_whole 11 = .ok (.aload_n 0, 1) := by decide +kernel
theorem dX0_whole_12 : decode cX0_whole 12 = .ok (.getfield 9, 3) := by decide +kernel
theorem dX0_whole_15 : decode cX0_whole 15 = .ok (.bipush 34, 2) := by decide +kernel
theorem dX0_whole_17 : decode cX0_whole 17 = .ok (.laload, 1) := by decide +kernel
theorem dX0_whole_18 : decode cX0_whole 18 = .ok (.ladd, 1) := by decide +kernel
theorem dX0_whole_19 : decode cX0_whole 19 = .ok (.lreturn, 1) := by decide +kernel
theorem dX0_takeScaled_0 : decode cX0_takeScaled 0 = .ok (.aload_n 0, 1) := by decide +kernel
theorem dX0_takeScaled_1 : decode cX0_takeScaled 1 = .ok (.invokevirtual 47, 3) := by decide +kernel
theorem dX0_takeScaled_4 : decode cX0_takeScaled 4 = .ok (.aload_n 0, 1) := by decide +kernel
theorem dX0_takeScaled_5 : decode cX0_takeScaled 5 = .ok (.getfield 9, 3) := by decide +kernel
theorem dX0_takeScaled_8 : decode cX0_takeScaled 8 = .ok (.bipush 33, 2) := by decide +kernel
theorem dX0_takeScaled_10 : decode cX0_takeScaled 10 = .ok (.lload_n 1, 1) := by decide +kernel
theorem dX0_takeScaled_11 : decode cX0_takeScaled 11 = .ok (.ldc2_w 45, 3) := by decide +kernel
theorem dX0_takeScaled_14 : decode cX0_takeScaled 14 = .ok (.ldiv, 1) := by decide +kernel
theorem dX0_takeScaled_15 : decode cX0_takeScaled 15 = .ok (.lastore, 1) := by decide +kernel
theorem dX0_takeScaled_16 : decode cX0_takeScaled 16 = .ok (.aload_n 0, 1) := by decide +kernel
theorem dX0_takeScaled_17 : decode cX0_takeScaled 17 = .ok (.getfield 9, 3) := by decide +kernel
theorem dX0_takeScaled_20 : decode cX0_takeScaled 20 = .ok (.bipush 34, 2) := by decide +kernel
theorem dX0_takeScaled_22 : decode cX0_takeScaled 22 = .ok (.lload_n 1, 1) := by decide +kernel
theorem dX0_takeScaled_23 : decode cX0_takeScaled 23 = .ok (.ldc2_w 45, 3) := by decide +kernel
theorem dX0_takeScaled_26 : decode cX0_takeScaled 26 = .ok (.lrem, 1) := by decide +kernel
theorem dX0_takeScaled_27 : decode cX0_takeScaled 27 = .ok (.lastore, 1) := by decide +kernel
theorem dX0_takeScaled_28 : decode cX0_takeScaled 28 = .ok (.aload_n 0, 1) := by decide +kernel
theorem dX0_takeScaled_29 : decode cX0_takeScaled 29 = .ok (.bipush 33, 2) := by decide +kernel
theorem dX0_takeScaled_31 : decode cX0_takeScaled 31 = .ok (.putfield 13, 3) := by decide +kernel
theorem dX0_takeScaled_34 : decode cX0_takeScaled 34 = .ok (.aload_n 0, 1) := by decide +kernel
theorem dX0_takeScaled_35 : decode cX0_takeScaled 35 = .ok (.bipush 34, 2) := by decide +kernel
theorem dX0_takeScaled_37 : decode cX0_takeScaled 37 = .ok (.putfield 17, 3) := by decide +kernel
theorem dX0_takeScaled_40 : decode cX0_takeScaled 40 = .ok (.aload_n 0, 1) := by decide +kernel
theorem dX0_takeScaled_41 : decode cX0_takeScaled 41 = .ok (.invokevirtual 50, 3) := by decide +kernel
theorem dX0_takeScaled_44 : decode cX0_takeScaled 44 = .ok (.aload_n 0, 1) := by decide +kernel
theorem dX0_takeScaled_45 : decode cX0_takeScaled 45 = .ok (.iload_n 3, 1) := by decide +kernel
theorem dX0_takeScaled_46 : decode cX0_takeScaled 46 = .ok (.invokevirtual 53, 3) := by decide +kernel
theorem dX0_takeScaled_49 : decode cX0_takeScaled 49 = .ok (.return_, 1) := by decide +kernel
theorem dX0_scale_0 : decode cX0_scale 0 = .ok (.iload_n 1, 1) := by decide +kernel
theorem dX0_scale_1 : decode cX0_scale 1 = .ok (.istore_n 2, 1) := by decide +kernel
theorem dX0_scale_2 : decode cX0_scale 2 = .ok (.iload_n 2, 1) := by decide +kernel
theorem dX0_scale_3 : decode cX0_scale 3 = .ok (.ifCond .le 19, 3) := by decide +kernel
theorem dX0_scale_6 : decode cX0_scale 6 = .ok (.aload_n 0, 1) := by decide +kernel
theorem dX0_scale_7 : decode cX0_scale 7 = .ok (.iload_n 2, 1) := by decide +kernel
theorem dX0_scale_8 : decode cX0_scale 8 = .ok (.bipush 33, 2) := by decide +kernel
theorem dX0_scale_10 : decode cX0_scale 10 = .ok (.invokestatic 28, 3) := by decide +kernel
theorem dX0_scale_13 : decode cX0_scale 13 = .ok (.invokevirtual 57, 3) := by decide +kernel
theorem dX0_scale_16 : decode cX0_scale 16 = .ok (.iinc 2 (-33), 3) := by decide +kernel
theorem dX0_scale_19 : decode cX0_scale 19 = .ok (.goto (-17), 3) := by decide +kernel
theorem dX0_scale_22 : decode cX0_scale 22 = .ok (.iload_n 1, 1) := by decide +kernel
theorem dX0_scale_23 : decode cX0_scale 23 = .ok (.ineg, 1) := by decide +kernel
theorem dX0_scale_24 : decode cX0_scale 24 = .ok (.istore_n 2, 1) := by decide +kernel
theorem dX0_scale_25 : decode cX0_scale 25 = .ok (.iload_n 2, 1) := by decide +kernel
theorem dX0_scale_26 : decode cX0_scale 26 = .ok (.ifCond .le 19, 3) := by decide +kernel
theorem dX0_scale_29 : decode cX0_scale 29 = .ok (.aload_n 0, 1) := by decide +kernel
theorem dX0_scale_30 : decode cX0_scale 30 = .ok (.iload_n 2, 1) := by decide +kernel
theorem dX0_scale_31 : decode cX0_scale 31 = .ok (.bipush 33, 2) := by decide +kernel
theorem dX0_scale_33 : decode cX0_scale 33 = .ok (.invokestatic 28, 3) := by decide +kernel
theorem dX0_scale_36 : decode cX0_scale 36 = .ok (.invokevirtual 60, 3) := by decide +kernel
theorem dX0_scale_39 : decode cX0_scale 39 = .ok (.iinc 2 (-33), 3) := by decide +kernel
theorem dX0_scale_42 : decode cX0_scale 42 = .ok (.goto (-17), 3) := by decide +kernel
theorem dX0_scale_45 : decode cX0_scale 45 = .ok (.return_, 1) := by decide +kernel
theorem dX0_scaleUp_0 : decode cX0_scaleUp 0 = .ok (.lconst 0, 1) := by decide +kernel
theorem dX0_scaleUp_1 : decode cX0_scaleUp 1 = .ok (.lstore_n 2, 1) := by decide +kernel
theorem dX0_scaleUp_2 : decode cX0_scaleUp 2 = .ok (.aload_n 0, 1) := by decide +kernel
theorem dX0_scaleUp_3 : decode cX0_scaleUp 3 = .ok (.getfield 17, 3) := by decide +kernel
theorem dX0_scaleUp_6 : decode cX0_scaleUp 6 = .ok (.istore 4, 2) := by decide +kernel
theorem dX0_scaleUp_8 : decode cX0_scaleUp 8 = .ok (.iload 4, 2) := by decide +kernel
theorem dX0_scaleUp_10 : decode cX0_scaleUp 10 = .ok (.aload_n 0, 1) := by decide +kernel
theorem dX0_scaleUp_11 : decode cX0_scaleUp 11 = .ok (.getfield 13, 3) := by decide +kernel
theorem dX0_scaleUp_14 : decode cX0_scaleUp 14 = .ok (.if_icmp .lt 44, 3) := by decide +kernel
theorem dX0_scaleUp_17 : decode cX0_scaleUp 17 = .ok (.aload_n 0, 1) := by decide +kernel
theorem dX0_scaleUp_18 : decode cX0_scaleUp 18 = .ok (.getfield 9, 3) := by decide +kernel
theorem dX0_scaleUp_21 : decode cX0_scaleUp 21 = .ok (.iload 4, 2) := by decide +kernel
theorem dX0_scaleUp_23 : decode cX0_scaleUp 23 = .ok (.laload, 1) := by decide +kernel
theorem dX0_scaleUp_24 : decode cX0_scaleUp 24 = .ok (.iload_n 1, 1) := by decide +kernel
theorem dX0_scaleUp_25 : decode cX0_scaleUp 25 = .ok (.lshl, 1) := by decide +kernel
theorem dX0_scaleUp_26 : decode cX0_scaleUp 26 = .ok (.lload_n 2, 1) := by decide +kernel
theorem dX0_scaleUp_27 : decode cX0_scaleUp 27 = .ok (.ladd, 1) := by decide +kernel
theorem dX0_scaleUp_28 : decode cX0_scaleUp 28 = .ok (.lstore 5, 2) := by decide +kernel
theorem dX0_scaleUp_30 : decode cX0_scaleUp 30 = .ok (.lload 5, 2) := by decide +kernel
theorem dX0_scaleUp_32 : decode cX0_scaleUp 32 = .ok (.ldc2_w 45, 3) := by decide +kernel
theorem dX0_scaleUp_35 : decode cX0_scaleUp 35 = .ok (.ldiv, 1) := by decide +kernel
theorem dX0_scaleUp_36 : decode cX0_scaleUp 36 = .ok (.lstore_n 2, 1) := by decide +kernel
theorem dX0_scaleUp_37 : decode cX0_scaleUp 37 = .ok (.aload_n 0, 1) := by decide +kernel
theorem dX0_scaleUp_38 : decode cX0_scaleUp 38 = .ok (.getfield 9, 3) := by decide +kernel
theorem dX0_scaleUp_41 : decode cX0_scaleUp 41 = .ok (.iload 4, 2) := by decide +kernel
theorem dX0_scaleUp_43 : decode cX0_scaleUp 43 = .ok (.lload 5, 2) := by decide +kernel
theorem dX0_scaleUp_45 : decode cX0_scaleUp 45 = .ok (.lload_n 2, 1) := by decide +kernel
theorem dX0_scaleUp_46 : decode cX0_scaleUp 46 = .ok (.ldc2_w 45, 3) := by decide +kernel
theorem dX0_scaleUp_49 : decode cX0_scaleUp 49 = .ok (.lmul, 1) := by decide +kernel
theorem dX0_scaleUp_50 : decode cX0_scaleUp 50 = .ok (.lsub, 1) := by decide +kernel
theorem dX0_scaleUp_51 : decode cX0_scaleUp 51 = .ok (.lastore, 1) := by decide +kernel
theorem dX0_scaleUp_52 : decode cX0_scaleUp 52 = .ok (.iinc 4 (-1), 3) := by decide +kernel
theorem dX0_scaleUp_55 : decode cX0_scaleUp 55 = .ok (.goto (-47), 3) := by decide +kernel
theorem dX0_scaleUp_58 : decode cX0_scaleUp 58 = .ok (.aload_n 0, 1) := by decide +kernel
theorem dX0_scaleUp_59 : decode cX0_scaleUp 59 = .ok (.getfield 13, 3) := by decide +kernel
theorem dX0_scaleUp_62 : decode cX0_scaleUp 62 = .ok (.iconst 1, 1) := by decide +kernel
theorem dX0_scaleUp_63 : decode cX0_scaleUp 63 = .ok (.isub, 1) := by decide +kernel
theorem dX0_scaleUp_64 : decode cX0_scaleUp 64 = .ok (.istore 4, 2) := by decide +kernel
theorem dX0_scaleUp_66 : decode cX0_scaleUp 66 = .ok (.iload 4, 2) := by decide +kernel
theorem dX0_scaleUp_68 : decode cX0_scaleUp 68 = .ok (.ifCond .lt 39, 3) := by decide +kernel
theorem dX0_scaleUp_71 : decode cX0_scaleUp 71 = .ok (.lload_n 2, 1) := by decide +kernel
theorem dX0_scaleUp_72 : decode cX0_scaleUp 72 = .ok (.lconst 0, 1) := by decide +kernel
theorem dX0_scaleUp_73 : decode cX0_scaleUp 73 = .ok (.lcmp, 1) := by decide +kernel
theorem dX0_scaleUp_74 : decode cX0_scaleUp 74 = .ok (.ifCond .le 33, 3) := by decide +kernel
theorem dX0_scaleUp_77 : decode cX0_scaleUp 77 = .ok (.aload_n 0, 1) := by decide +kernel
theorem dX0_scaleUp_78 : decode cX0_scaleUp 78 = .ok (.getfield 9, 3) := by decide +kernel
theorem dX0_scaleUp_81 : decode cX0_scaleUp 81 = .ok (.iload 4, 2) := by decide +kernel
theorem dX0_scaleUp_83 : decode cX0_scaleUp 83 = .ok (.lload_n 2, 1) := by decide +kernel
theorem dX0_scaleUp_84 : decode cX0_scaleUp 84 = .ok (.ldc2_w 45, 3) := by decide +kernel
theorem dX0_scaleUp_87 : decode cX0_scaleUp 87 = .ok (.lrem, 1) := by decide +kernel
theorem dX0_scaleUp_88 : decode cX0_scaleUp 88 = .ok (.lastore, 1) := by decide +kernel
theorem dX0_scaleUp_89 : decode cX0_scaleUp 89 = .ok (.lload_n 2, 1) := by decide +kernel
theorem dX0_scaleUp_90 : decode cX0_scaleUp 90 = .ok (.ldc2_w 45, 3) := by decide +kernel
theorem dX0_scaleUp_93 : decode cX0_scaleUp 93 = .ok (.ldiv, 1) := by decide +kernel
theorem dX0_scaleUp_94 : decode cX0_scaleUp 94 = .ok (.lstore_n 2, 1) := by decide +kernel
theorem dX0_scaleUp_95 : decode cX0_scaleUp 95 = .ok (.aload_n 0, 1) := by decide +kernel
theorem dX0_scaleUp_96 : decode cX0_scaleUp 96 = .ok (.iload 4, 2) := by decide +kernel
theorem dX0_scaleUp_98 : decode cX0_scaleUp 98 = .ok (.putfield 13, 3) := by decide +kernel
theorem dX0_scaleUp_101 : decode cX0_scaleUp 101 = .ok (.iinc 4 (-1), 3) := by decide +kernel
theorem dX0_scaleUp_104 : decode cX0_scaleUp 104 = .ok (.goto (-38), 3) := by decide +kernel
theorem dX0_scaleUp_107 : decode cX0_scaleUp 107 = .ok (.aload_n 0, 1) := by decide +kernel
theorem dX0_scaleUp_108 : decode cX0_scaleUp 108 = .ok (.invokevirtual 50, 3) := by decide +kernel
theorem dX0_scaleUp_111 : decode cX0_scaleUp 111 = .ok (.return_, 1) := by decide +kernel
theorem dX0_scaleDown_0 : decode cX0_scaleDown 0 = .ok (.lconst 1, 1) := by decide +kernel
theorem dX0_scaleDown_1 : decode cX0_scaleDown 1 = .ok (.iload_n 1, 1) := by decide +kernel
theorem dX0_scaleDown_2 : decode cX0_scaleDown 2 = .ok (.lshl, 1) := by decide +kernel
theorem dX0_scaleDown_3 : decode cX0_scaleDown 3 = .ok (.lconst 1, 1) := by decide +kernel
theorem dX0_scaleDown_4 : decode cX0_scaleDown 4 = .ok (.lsub, 1) := by decide +kernel
theorem dX0_scaleDown_5 : decode cX0_scaleDown 5 = .ok (.lstore_n 2, 1) := by decide +kernel
theorem dX0_scaleDown_6 : decode cX0_scaleDown 6 = .ok (.lconst 0, 1) := by decide +kernel
theorem dX0_scaleDown_7 : decode cX0_scaleDown 7 = .ok (.lstore 4, 2) := by decide +kernel
theorem dX0_scaleDown_9 : decode cX0_scaleDown 9 = .ok (.aload_n 0, 1) := by decide +kernel
theorem dX0_scaleDown_10 : decode cX0_scaleDown 10 = .ok (.getfield 13, 3) := by decide +kernel
theorem dX0_scaleDown_13 : decode cX0_scaleDown 13 = .ok (.istore 6, 2) := by decide +kernel
theorem dX0_scaleDown_15 : decode cX0_scaleDown 15 = .ok (.iload 6, 2) := by decide +kernel
theorem dX0_scaleDown_17 : decode cX0_scaleDown 17 = .ok (.aload_n 0, 1) := by decide +kernel
theorem dX0_scaleDown_18 : decode cX0_scaleDown 18 = .ok (.getfield 17, 3) := by decide +kernel
theorem dX0_scaleDown_21 : decode cX0_scaleDown 21 = .ok (.if_icmp .gt 42, 3) := by decide +kernel
theorem dX0_scaleDown_24 : decode cX0_scaleDown 24 = .ok (.lload 4, 2) := by decide +kernel
theorem dX0_scaleDown_26 : decode cX0_scaleDown 26 = .ok (.ldc2_w 45, 3) := by decide +kernel
theorem dX0_scaleDown_29 : decode cX0_scaleDown 29 = .ok (.lmul, 1) := by decide +kernel
theorem dX0_scaleDown_30 : decode cX0_scaleDown 30 = .ok (.aload_n 0, 1) := by decide +kernel
theorem dX0_scaleDown_31 : decode cX0_scaleDown 31 = .ok (.getfield 9, 3) := by decide +kernel
theorem dX0_scaleDown_34 : decode cX0_scaleDown 34 = .ok (.iload 6, 2) := by decide +kernel
theorem dX0_scaleDown_36 : decode cX0_scaleDown 36 = .ok (.laload, 1) := by decide +kernel
theorem dX0_scaleDown_37 : decode cX0_scaleDown 37 = .ok (.ladd, 1) := by decide +kernel
theorem dX0_scaleDown_38 : decode cX0_scaleDown 38 = .ok (.lstore 7, 2) := by decide +kernel
theorem dX0_scaleDown_40 : decode cX0_scaleDown 40 = .ok (.aload_n 0, 1) := by decide +kernel
theorem dX0_scaleDown_41 : decode cX0_scaleDown 41 = .ok (.getfield 9, 3) := by decide +kernel
theorem dX0_scaleDown_44 : decode cX0_scaleDown 44 = .ok (.iload 6, 2) := by decide +kernel
theorem dX0_scaleDown_46 : decode cX0_scaleDown 46 = .ok (.lload 7, 2) := by decide +kernel
theorem dX0_scaleDown_48 : decode cX0_scaleDown 48 = .ok (.iload_n 1, 1) := by decide +kernel
theorem dX0_scaleDown_49 : decode cX0_scaleDown 49 = .ok (.lushr, 1) := by decide +kernel
theorem dX0_scaleDown_50 : decode cX0_scaleDown 50 = .ok (.lastore, 1) := by decide +kernel
theorem dX0_scaleDown_51 : decode cX0_scaleDown 51 = .ok (.lload 7, 2) := by decide +kernel
theorem dX0_scaleDown_53 : decode cX0_scaleDown 53 = .ok (.lload_n 2, 1) := by decide +kernel
theorem dX0_scaleDown_54 : decode cX0_scaleDown 54 = .ok (.land, 1) := by decide +kernel
theorem dX0_scaleDown_55 : decode cX0_scaleDown 55 = .ok (.lstore 4, 2) := by decide +kernel
theorem dX0_scaleDown_57 : decode cX0_scaleDown 57 = .ok (.iinc 6 1, 3) := by decide +kernel
theorem dX0_scaleDown_60 : decode cX0_scaleDown 60 = .ok (.goto (-45), 3) := by decide +kernel
theorem dX0_scaleDown_63 : decode cX0_scaleDown 63 = .ok (.aload_n 0, 1) := by decide +kernel
theorem dX0_scaleDown_64 : decode cX0_scaleDown 64 = .ok (.getfield 17, 3) := by decide +kernel
theorem dX0_scaleDown_67 : decode cX0_scaleDown 67 = .ok (.iconst 1, 1) := by decide +kernel
theorem dX0_scaleDown_68 : decode cX0_scaleDown 68 = .ok (.iadd, 1) := by decide +kernel
theorem dX0_scaleDown_69 : decode cX0_scaleDown 69 = .ok (.istore 6, 2) := by decide +kernel
theorem dX0_scaleDown_71 : decode cX0_scaleDown 71 = .ok (.iload 6, 2) := by decide +kernel
theorem dX0_scaleDown_73 : decode cX0_scaleDown 73 = .ok (.sipush 160, 3) := by decide +kernel
theorem dX0_scaleDown_76 : decode cX0_scaleDown 76 = .ok (.if_icmp .ge 47, 3) := by decide +kernel
theorem dX0_scaleDown_79 : decode cX0_scaleDown 79 = .ok (.lload 4, 2) := by decide +kernel
theorem dX0_scaleDown_81 : decode cX0_scaleDown 81 = .ok (.lconst 0, 1) := by decide +kernel
theorem dX0_scaleDown_82 : decode cX0_scaleDown 82 = .ok (.lcmp, 1) := by decide +kernel
theorem dX0_scaleDown_83 : decode cX0_scaleDown 83 = .ok (.ifCond .le 40, 3) := by decide +kernel
theorem dX0_scaleDown_86 : decode cX0_scaleDown 86 = .ok (.lload 4, 2) := by decide +kernel
theorem dX0_scaleDown_88 : decode cX0_scaleDown 88 = .ok (.ldc2_w 45, 3) := by decide +kernel
theorem dX0_scaleDown_91 : decode cX0_scaleDown 91 = .ok (.lmul, 1) := by decide +kernel
theorem dX0_scaleDown_92 : decode cX0_scaleDown 92 = .ok (.lstore 7, 2) := by decide +kernel
theorem dX0_scaleDown_94 : decode cX0_scaleDown 94 = .ok (.aload_n 0, 1) := by decide +kernel
theorem dX0_scaleDown_95 : decode cX0_scaleDown 95 = .ok (.getfield 9, 3) := by decide +kernel
theorem dX0_scaleDown_98 : decode cX0_scaleDown 98 = .ok (.iload 6, 2) := by decide +kernel
theorem dX0_scaleDown_100 : decode cX0_scaleDown 100 = .ok (.lload 7, 2) := by decide +kernel
theorem dX0_scaleDown_102 : decode cX0_scaleDown 102 = .ok (.iload_n 1, 1) := by decide +kernel
theorem dX0_scaleDown_103 : decode cX0_scaleDown 103 = .ok (.lushr, 1) := by decide +kernel
theorem dX0_scaleDown_104 : decode cX0_scaleDown 104 = .ok (.lastore, 1) := by decide +kernel
theorem dX0_scaleDown_105 : decode cX0_scaleDown 105 = .ok (.lload 7, 2) := by decide +kernel
theorem dX0_scaleDown_107 : decode cX0_scaleDown 107 = .ok (.lload_n 2, 1) := by decide +kernel
theorem dX0_scaleDown_108 : decode cX0_scaleDown 108 = .ok (.land, 1) := by decide +kernel
theorem dX0_scaleDown_109 : decode cX0_scaleDown 109 = .ok (.lstore 4, 2) := by decide +kernel
theorem dX0_scaleDown_111 : decode cX0_scaleDown 111 = .ok (.aload_n 0, 1) := by decide +kernel
theorem dX0_scaleDown_112 : decode cX0_scaleDown 112 = .ok (.iload 6, 2) := by decide +kernel
theorem dX0_scaleDown_114 : decode cX0_scaleDown 114 = .ok (.putfield 17, 3) := by decide +kernel
theorem dX0_scaleDown_117 : decode cX0_scaleDown 117 = .ok (.iinc 6 1, 3) := by decide +kernel
theorem dX0_scaleDown_120 : decode cX0_scaleDown 120 = .ok (.goto (-49), 3) := by decide +kernel
theorem dX0_scaleDown_123 : decode cX0_scaleDown 123 = .ok (.aload_n 0, 1) := by decide +kernel
theorem dX0_scaleDown_124 : decode cX0_scaleDown 124 = .ok (.invokevirtual 50, 3) := by decide +kernel
theorem dX0_scaleDown_127 : decode cX0_scaleDown 127 = .ok (.return_, 1) := by decide +kernel
theorem dX0_takeRounded_0 : decode cX0_takeRounded 0 = .ok (.aload_n 0, 1) := by decide +kernel
theorem dX0_takeRounded_1 : decode cX0_takeRounded 1 = .ok (.invokevirtual 47, 3) := by decide +kernel
theorem dX0_takeRounded_4 : decode cX0_takeRounded 4 = .ok (.iload_n 2, 1) := by decide +kernel
theorem dX0_takeRounded_5 : decode cX0_takeRounded 5 = .ok (.invokestatic 20, 3) := by decide +kernel
theorem dX0_takeRounded_8 : decode cX0_takeRounded 8 = .ok (.istore_n 3, 1) := by decide +kernel
theorem dX0_takeRounded_9 : decode cX0_takeRounded 9 = .ok (.iload_n 3, 1) := by decide +kernel
theorem dX0_takeRounded_10 : decode cX0_takeRounded 10 = .ok (.ifCond .lt 10, 3) := by decide +kernel
theorem dX0_takeRounded_13 : decode cX0_takeRounded 13 = .ok (.iload_n 3, 1) := by decide +kernel
theorem dX0_takeRounded_14 : decode cX0_takeRounded 14 = .ok (.sipush 160, 3) := by decide +kernel
theorem dX0_takeRounded_17 : decode cX0_takeRounded 17 = .ok (.if_icmp .lt 4, 3) := by decide +kernel
theorem dX0_takeRounded_20 : decode cX0_takeRounded 20 = .ok (.return_, 1) := by decide +kernel
theorem dX0_takeRounded_21 : decode cX0_takeRounded 21 = .ok (.aload_n 1, 1) := by decide +kernel
theorem dX0_takeRounded_22 : decode cX0_takeRounded 22 = .ok (.getfield 13, 3) := by decide +kernel
theorem dX0_takeRounded_25 : decode cX0_takeRounded 25 = .ok (.istore 4, 2) := by decide +kernel
theorem dX0_takeRounded_27 : decode cX0_takeRounded 27 = .ok (.iload 4, 2) := by decide +kernel
theorem dX0_takeRounded_29 : decode cX0_takeRounded 29 = .ok (.iload_n 3, 1) := by decide +kernel
theorem dX0_takeRounded_30 : decode cX0_takeRounded 30 = .ok (.if_icmp .gt 23, 3) := by decide +kernel
theorem dX0_takeRounded_33 : decode cX0_takeRounded 33 = .ok (.aload_n 0, 1) := by decide +kernel
theorem dX0_takeRounded_34 : decode cX0_takeRounded 34 = .ok (.getfield 9, 3) := by decide +kernel
theorem dX0_takeRounded_37 : decode cX0_takeRounded 37 = .ok (.iload 4, 2) := by decide +kernel
theorem dX0_takeRounded_39 : decode cX0_takeRounded 39 = .ok (.aload_n 1, 1) := by decide +kernel
theorem dX0_takeRounded_40 : decode cX0_takeRounded 40 = .ok (.getfield 9, 3) := by decide +kernel
theorem dX0_takeRounded_43 : decode cX0_takeRounded 43 = .ok (.iload 4, 2) := by decide +kernel
theorem dX0_takeRounded_45 : decode cX0_takeRounded 45 = .ok (.laload, 1) := by decide +kernel
theorem dX0_takeRounded_46 : decode cX0_takeRounded 46 = .ok (.lastore, 1) := by decide +kernel
theorem dX0_takeRounded_47 : decode cX0_takeRounded 47 = .ok (.iinc 4 1, 3) := by decide +kernel
theorem dX0_takeRounded_50 : decode cX0_takeRounded 50 = .ok (.goto (-23), 3) := by decide +kernel
theorem dX0_takeRounded_53 : decode cX0_takeRounded 53 = .ok (.iload_n 2, 1) := by decide +kernel
theorem dX0_takeRounded_54 : decode cX0_takeRounded 54 = .ok (.invokestatic 24, 3) := by decide +kernel
theorem dX0_takeRounded_57 : decode cX0_takeRounded 57 = .ok (.lstore 4, 2) := by decide +kernel
theorem dX0_takeRounded_59 : decode cX0_takeRounded 59 = .ok (.aload_n 0, 1) := by decide +kernel
theorem dX0_takeRounded_60 : decode cX0_takeRounded 60 = .ok (.getfield 9, 3) := by decide +kernel
theorem dX0_takeRounded_63 : decode cX0_takeRounded 63 = .ok (.iload_n 3, 1) := by decide +kernel
theorem dX0_takeRounded_64 : decode cX0_takeRounded 64 = .ok (.dup2, 1) := by decide +kernel
theorem dX0_takeRounded_65 : decode cX0_takeRounded 65 = .ok (.laload, 1) := by decide +kernel
theorem dX0_takeRounded_66 : decode cX0_takeRounded 66 = .ok (.aload_n 0, 1) := by decide +kernel
theorem dX0_takeRounded_67 : decode cX0_takeRounded 67 = .ok (.getfield 9, 3) := by decide +kernel
theorem dX0_takeRounded_70 : decode cX0_takeRounded 70 = .ok (.iload_n 3, 1) := by decide +kernel
theorem dX0_takeRounded_71 : decode cX0_takeRounded 71 = .ok (.laload, 1) := by decide +kernel
theorem dX0_takeRounded_72 : decode cX0_takeRounded 72 = .ok (.lload 4, 2) := by decide +kernel
theorem dX0_takeRounded_74 : decode cX0_takeRounded 74 = .ok (.lrem, 1) := by decide +kernel
theorem dX0_takeRounded_75 : decode cX0_takeRounded 75 = .ok (.lsub, 1) := by decide +kernel
theorem dX0_takeRounded_76 : decode cX0_takeRounded 76 = .ok (.lastore, 1) := by decide +kernel
theorem dX0_takeRounded_77 : decode cX0_takeRounded 77 = .ok (.aload_n 0, 1) := by decide +kernel
theorem dX0_takeRounded_78 : decode cX0_takeRounded 78 = .ok (.aload_n 1, 1) := by decide +kernel
theorem dX0_takeRounded_79 : decode cX0_takeRounded 79 = .ok (.getfield 13, 3) := by decide +kernel
theorem dX0_takeRounded_82 : decode cX0_takeRounded 82 = .ok (.iload_n 3, 1) := by decide +kernel
theorem dX0_takeRounded_83 : decode cX0_takeRounded 83 = .ok (.invokestatic 28, 3) := by decide +kernel
theorem dX0_takeRounded_86 : decode cX0_takeRounded 86 = .ok (.putfield 13, 3) := by decide +kernel
theorem dX0_takeRounded_89 : decode cX0_takeRounded 89 = .ok (.aload_n 0, 1) := by decide +kernel
theorem dX0_takeRounded_90 : decode cX0_takeRounded 90 = .ok (.iload_n 3, 1) := by decide +kernel
theorem dX0_takeRounded_91 : decode cX0_takeRounded 91 = .ok (.putfield 17, 3) := by decide +kernel
theorem dX0_takeRounded_94 : decode cX0_takeRounded 94 = .ok (.aload_n 1, 1) := by decide +kernel
theorem dX0_takeRounded_95 : decode cX0_takeRounded 95 = .ok (.iload_n 3, 1) := by decide +kernel
theorem dX0_takeRounded_96 : decode cX0_takeRounded 96 = .ok (.lload 4, 2) := by decide +kernel
theorem dX0_takeRounded_98 : decode cX0_takeRounded 98 = .ok (.invokevirtual 63, 3) := by decide +kernel
theorem dX0_takeRounded_101 : decode cX0_takeRounded 101 = .ok (.ifCond .eq 10, 3) := by decide +kernel
theorem dX0_takeRounded_104 : decode cX0_takeRounded 104 = .ok (.aload_n 0, 1) := by decide +kernel
theorem dX0_takeRounded_105 : decode cX0_takeRounded 105 = .ok (.iload_n 3, 1) := by decide +kernel
theorem dX0_takeRounded_106 : decode cX0_takeRounded 106 = .ok (.lload 4, 2) := by decide +kernel
theorem dX0_takeRounded_108 : decode cX0_takeRounded 108 = .ok (.invokevirtual 67, 3) := by decide +kernel
theorem dX0_takeRounded_111 : decode cX0_takeRounded 111 = .ok (.aload_n 0, 1) := by decide +kernel
theorem dX0_takeRounded_112 : decode cX0_takeRounded 112 = .ok (.invokevirtual 50, 3) := by decide +kernel
theorem dX0_takeRounded_115 : decode cX0_takeRounded 115 = .ok (.return_, 1) := by decide +kernel
theorem dX0_roundsUp_0 : decode cX0_roundsUp 0 = .ok (.aload_n 0, 1) := by decide +kernel
theorem dX0_roundsUp_1 : decode cX0_roundsUp 1 = .ok (.iload_n 1, 1) := by decide +kernel
theorem dX0_roundsUp_2 : decode cX0_roundsUp 2 = .ok (.lload_n 2, 1) := by decide +kernel
theorem dX0_roundsUp_3 : decode cX0_roundsUp 3 = .ok (.invokevirtual 71, 3) := by decide +kernel
theorem dX0_roundsUp_6 : decode cX0_roundsUp 6 = .ok (.istore 4, 2) := by decide +kernel
theorem dX0_roundsUp_8 : decode cX0_roundsUp 8 = .ok (.iload 4, 2) := by decide +kernel
theorem dX0_roundsUp_10 : decode cX0_roundsUp 10 = .ok (.ifCond .gt 24, 3) := by decide +kernel
theorem dX0_roundsUp_13 : decode cX0_roundsUp 13 = .ok (.iload 4, 2) := by decide +kernel
theorem dX0_roundsUp_15 : decode cX0_roundsUp 15 = .ok (.ifCond .ne 23, 3) := by decide +kernel
theorem dX0_roundsUp_18 : decode cX0_roundsUp 18 = .ok (.aload_n 0, 1) := by decide +kernel
theorem dX0_roundsUp_19 : decode cX0_roundsUp 19 = .ok (.iload_n 1, 1) := by decide +kernel
theorem dX0_roundsUp_20 : decode cX0_roundsUp 20 = .ok (.invokevirtual 37, 3) := by decide +kernel
theorem dX0_roundsUp_23 : decode cX0_roundsUp 23 = .ok (.lload_n 2, 1) := by decide +kernel
theorem dX0_roundsUp_24 : decode cX0_roundsUp 24 = .ok (.ldiv, 1) := by decide +kernel
theorem dX0_roundsUp_25 : decode cX0_roundsUp 25 = .ok (.ldc2_w 75, 3) := by decide +kernel
theorem dX0_roundsUp_28 : decode cX0_roundsUp 28 = .ok (.lrem, 1) := by decide +kernel
theorem dX0_roundsUp_29 : decode cX0_roundsUp 29 = .ok (.lconst 1, 1) := by decide +kernel
theorem dX0_roundsUp_30 : decode cX0_roundsUp 30 = .ok (.lcmp, 1) := by decide +kernel
theorem dX0_roundsUp_31 : decode cX0_roundsUp 31 = .ok (.ifCond .ne 7, 3) := by decide +kernel
theorem dX0_roundsUp_34 : decode cX0_roundsUp 34 = .ok (.iconst 1, 1) := by decide +kernel
theorem dX0_roundsUp_35 : decode cX0_roundsUp 35 = .ok (.goto 4, 3) := by decide +kernel
theorem dX0_roundsUp_38 : decode cX0_roundsUp 38 = .ok (.iconst 0, 1) := by decide +kernel
theorem dX0_roundsUp_39 : decode cX0_roundsUp 39 = .ok (.ireturn, 1) := by decide +kernel
theorem dX0_sideOfHalf_0 : decode cX0_sideOfHalf 0 = .ok (.lload_n 2, 1) := by decide +kernel
theorem dX0_sideOfHalf_1 : decode cX0_sideOfHalf 1 = .ok (.lconst 1, 1) := by decide +kernel
theorem dX0_sideOfHalf_2 : decode cX0_sideOfHalf 2 = .ok (.lcmp, 1) := by decide +kernel
theorem dX0_sideOfHalf_3 : decode cX0_sideOfHalf 3 = .ok (.ifCond .ne 9, 3) := by decide +kernel
theorem dX0_sideOfHalf_6 : decode cX0_sideOfHalf 6 = .ok (.iload_n 1, 1) := by decide +kernel
theorem dX0_sideOfHalf_7 : decode cX0_sideOfHalf 7 = .ok (.iconst 1, 1) := by decide +kernel
theorem dX0_sideOfHalf_8 : decode cX0_sideOfHalf 8 = .ok (.iadd, 1) := by decide +kernel
theorem dX0_sideOfHalf_9 : decode cX0_sideOfHalf 9 = .ok (.goto 4, 3) := by decide +kernel
theorem dX0_sideOfHalf_12 : decode cX0_sideOfHalf 12 = .ok (.iload_n 1, 1) := by decide +kernel
theorem dX0_sideOfHalf_13 : decode cX0_sideOfHalf 13 = .ok (.istore 4, 2) := by decide +kernel
theorem dX0_sideOfHalf_15 : decode cX0_sideOfHalf 15 = .ok (.lload_n 2, 1) := by decide +kernel
theorem dX0_sideOfHalf_16 : decode cX0_sideOfHalf 16 = .ok (.lconst 1, 1) := by decide +kernel
theorem dX0_sideOfHalf_17 : decode cX0_sideOfHalf 17 = .ok (.lcmp, 1) := by decide +kernel
theorem dX0_sideOfHalf_18 : decode cX0_sideOfHalf 18 = .ok (.ifCond .ne 9, 3) := by decide +kernel
theorem dX0_sideOfHalf_21 : decode cX0_sideOfHalf 21 = .ok (.ldc2_w 45, 3) := by decide +kernel
theorem dX0_sideOfHalf_24 : decode cX0_sideOfHalf 24 = .ok (.goto 4, 3) := by decide +kernel
theorem dX0_sideOfHalf_27 : decode cX0_sideOfHalf 27 = .ok (.lload_n 2, 1) := by decide +kernel
theorem dX0_sideOfHalf_28 : decode cX0_sideOfHalf 28 = .ok (.lstore 5, 2) := by decide +kernel
theorem dX0_sideOfHalf_30 : decode cX0_sideOfHalf 30 = .ok (.aload_n 0, 1) := by decide +kernel
theorem dX0_sideOfHalf_31 : decode cX0_sideOfHalf 31 = .ok (.iload 4, 2) := by decide +kernel
theorem dX0_sideOfHalf_33 : decode cX0_sideOfHalf 33 = .ok (.invokevirtual 37, 3) := by decide +kernel
theorem dX0_sideOfHalf_36 : decode cX0_sideOfHalf 36 = .ok (.lload 5, 2) := by decide +kernel
theorem dX0_sideOfHalf_38 : decode cX0_sideOfHalf 38 = .ok (.lrem, 1) := by decide +kernel
theorem dX0_sideOfHalf_39 : decode cX0_sideOfHalf 39 = .ok (.lload 5, 2) := by decide +kernel
theorem dX0_sideOfHalf_41 : decode cX0_sideOfHalf 41 = .ok (.ldc2_w 75, 3) := by decide +kernel
theorem dX0_sideOfHalf_44 : decode cX0_sideOfHalf 44 = .ok (.ldiv, 1) := by decide +kernel
theorem dX0_sideOfHalf_45 : decode cX0_sideOfHalf 45 = .ok (.invokestatic 77, 3) := by decide +kernel
theorem dX0_sideOfHalf_48 : decode cX0_sideOfHalf 48 = .ok (.istore 7, 2) := by decide +kernel
theorem dX0_sideOfHalf_50 : decode cX0_sideOfHalf 50 = .ok (.iload 7, 2) := by decide +kernel
theorem dX0_sideOfHalf_52 : decode cX0_sideOfHalf 52 = .ok (.ifCond .ne 16, 3) := by decide +kernel
theorem dX0_sideOfHalf_55 : decode cX0_sideOfHalf 55 = .ok (.aload_n 0, 1) := by decide +kernel
theorem dX0_sideOfHalf_56 : decode cX0_sideOfHalf 56 = .ok (.getfield 17, 3) := by decide +kernel
theorem dX0_sideOfHalf_59 : decode cX0_sideOfHalf 59 = .ok (.iload 4, 2) := by decide +kernel
theorem dX0_sideOfHalf_61 : decode cX0_sideOfHalf 61 = .ok (.if_icmp .le 7, 3) := by decide +kernel
theorem dX0_sideOfHalf_64 : decode cX0_sideOfHalf 64 = .ok (.iconst 1, 1) := by decide +kernel
theorem dX0_sideOfHalf_65 : decode cX0_sideOfHalf 65 = .ok (.goto 5, 3) := by decide +kernel
theorem dX0_sideOfHalf_68 : decode cX0_sideOfHalf 68 = .ok (.iload 7, 2) := by decide +kernel
theorem dX0_sideOfHalf_70 : decode cX0_sideOfHalf 70 = .ok (.ireturn, 1) := by decide +kernel
theorem dX0_countUp_0 : decode cX0_countUp 0 = .ok (.aload_n 0, 1) := by decide +kernel
theorem dX0_countUp_1 : decode cX0_countUp 1 = .ok (.getfield 9, 3) := by decide +kernel
theorem dX0_countUp_4 : decode cX0_countUp 4 = .ok (.iload_n 1, 1) := by decide +kernel
theorem dX0_countUp_5 : decode cX0_countUp 5 = .ok (.dup2, 1) := by decide +kernel
theorem dX0_countUp_6 : decode cX0_countUp 6 = .ok (.laload, 1) := by decide +kernel
theorem dX0_countUp_7 : decode cX0_countUp 7 = .ok (.lload_n 2, 1) := by decide +kernel
theorem dX0_countUp_8 : decode cX0_countUp 8 = .ok (.ladd, 1) := by decide +kernel
theorem dX0_countUp_9 : decode cX0_countUp 9 = .ok (.lastore, 1) := by decide +kernel
theorem dX0_countUp_10 : decode cX0_countUp 10 = .ok (.iload_n 1, 1) := by decide +kernel
theorem dX0_countUp_11 : decode cX0_countUp 11 = .ok (.istore 4, 2) := by decide +kernel
theorem dX0_countUp_13 : decode cX0_countUp 13 = .ok (.iload 4, 2) := by decide +kernel
theorem dX0_countUp_15 : decode cX0_countUp 15 = .ok (.ifCond .le 64, 3) := by decide +kernel
theorem dX0_countUp_18 : decode cX0_countUp 18 = .ok (.aload_n 0, 1) := by decide +kernel
theorem dX0_countUp_19 : decode cX0_countUp 19 = .ok (.getfield 9, 3) := by decide +kernel
theorem dX0_countUp_22 : decode cX0_countUp 22 = .ok (.iload 4, 2) := by decide +kernel
theorem dX0_countUp_24 : decode cX0_countUp 24 = .ok (.laload, 1) := by decide +kernel
theorem dX0_countUp_25 : decode cX0_countUp 25 = .ok (.ldc2_w 45, 3) := by decide +kernel
theorem dX0_countUp_28 : decode cX0_countUp 28 = .ok (.lcmp, 1) := by decide +kernel
theorem dX0_countUp_29 : decode cX0_countUp 29 = .ok (.ifCond .lt 50, 3) := by decide +kernel
theorem dX0_countUp_32 : decode cX0_countUp 32 = .ok (.aload_n 0, 1) := by decide +kernel
theorem dX0_countUp_33 : decode cX0_countUp 33 = .ok (.getfield 9, 3) := by decide +kernel
theorem dX0_countUp_36 : decode cX0_countUp 36 = .ok (.iload 4, 2) := by decide +kernel
theorem dX0_countUp_38 : decode cX0_countUp 38 = .ok (.dup2, 1) := by decide +kernel
theorem dX0_countUp_39 : decode cX0_countUp 39 = .ok (.laload, 1) := by decide +kernel
theorem dX0_countUp_40 : decode cX0_countUp 40 = .ok (.ldc2_w 45, 3) := by decide +kernel
theorem dX0_countUp_43 : decode cX0_countUp 43 = .ok (.lsub, 1) := by decide +kernel
theorem dX0_countUp_44 : decode cX0_countUp 44 = .ok (.lastore, 1) := by decide +kernel
theorem dX0_countUp_45 : decode cX0_countUp 45 = .ok (.aload_n 0, 1) := by decide +kernel
theorem dX0_countUp_46 : decode cX0_countUp 46 = .ok (.getfield 9, 3) := by decide +kernel
theorem dX0_countUp_49 : decode cX0_countUp 49 = .ok (.iload 4, 2) := by decide +kernel
theorem dX0_countUp_51 : decode cX0_countUp 51 = .ok (.iconst 1, 1) := by decide +kernel
theorem dX0_countUp_52 : decode cX0_countUp 52 = .ok (.isub, 1) := by decide +kernel
theorem dX0_countUp_53 : decode cX0_countUp 53 = .ok (.dup2, 1) := by decide +kernel
theorem dX0_countUp_54 : decode cX0_countUp 54 = .ok (.laload, 1) := by decide +kernel
theorem dX0_countUp_55 : decode cX0_countUp 55 = .ok (.lconst 1, 1) := by decide +kernel
theorem dX0_countUp_56 : decode cX0_countUp 56 = .ok (.ladd, 1) := by decide +kernel
theorem dX0_countUp_57 : decode cX0_countUp 57 = .ok (.lastore, 1) := by decide +kernel
theorem dX0_countUp_58 : decode cX0_countUp 58 = .ok (.aload_n 0, 1) := by decide +kernel
theorem dX0_countUp_59 : decode cX0_countUp 59 = .ok (.aload_n 0, 1) := by decide +kernel
theorem dX0_countUp_60 : decode cX0_countUp 60 = .ok (.getfield 13, 3) := by decide +kernel
theorem dX0_countUp_63 : decode cX0_countUp 63 = .ok (.iload 4, 2) := by decide +kernel
theorem dX0_countUp_65 : decode cX0_countUp 65 = .ok (.iconst 1, 1) := by decide +kernel
theorem dX0_countUp_66 : decode cX0_countUp 66 = .ok (.isub, 1) := by decide +kernel
theorem dX0_countUp_67 : decode cX0_countUp 67 = .ok (.invokestatic 28, 3) := by decide +kernel
theorem dX0_countUp_70 : decode cX0_countUp 70 = .ok (.putfield 13, 3) := by decide +kernel
theorem dX0_countUp_73 : decode cX0_countUp 73 = .ok (.iinc 4 (-1), 3) := by decide +kernel
theorem dX0_countUp_76 : decode cX0_countUp 76 = .ok (.goto (-63), 3) := by decide +kernel
theorem dX0_countUp_79 : decode cX0_countUp 79 = .ok (.return_, 1) := by decide +kernel
theorem dX0_comparedTo_0 : decode cX0_comparedTo 0 = .ok (.aload_n 0, 1) := by decide +kernel
theorem dX0_comparedTo_1 : decode cX0_comparedTo 1 = .ok (.getfield 17, 3) := by decide +kernel
theorem dX0_comparedTo_4 : decode cX0_comparedTo 4 = .ok (.aload_n 1, 1) := by decide +kernel
theorem dX0_comparedTo_5 : decode cX0_comparedTo 5 = .ok (.getfield 17, 3) := by decide +kernel
theorem dX0_comparedTo_8 : decode cX0_comparedTo 8 = .ok (.invokestatic 34, 3) := by decide +kernel
theorem dX0_comparedTo_11 : decode cX0_comparedTo 11 = .ok (.istore_n 2, 1) := by decide +kernel
theorem dX0_comparedTo_12 : decode cX0_comparedTo 12 = .ok (.aload_n 0, 1) := by decide +kernel
theorem dX0_comparedTo_13 : decode cX0_comparedTo 13 = .ok (.getfield 13, 3) := by decide +kernel
theorem dX0_comparedTo_16 : decode cX0_comparedTo 16 = .ok (.aload_n 1, 1) := by decide +kernel
theorem dX0_comparedTo_17 : decode cX0_comparedTo 17 = .ok (.getfield 13, 3) := by decide +kernel
theorem dX0_comparedTo_20 : decode cX0_comparedTo 20 = .ok (.invokestatic 28, 3) := by decide +kernel
theorem dX0_comparedTo_23 : decode cX0_comparedTo 23 = .ok (.istore_n 3, 1) := by decide +kernel
theorem dX0_comparedTo_24 : decode cX0_comparedTo 24 = .ok (.iload_n 3, 1) := by decide +kernel
theorem dX0_comparedTo_25 : decode cX0_comparedTo 25 = .ok (.iload_n 2, 1) := by decide +kernel
theorem dX0_comparedTo_26 : decode cX0_comparedTo 26 = .ok (.if_icmp .gt 47, 3) := by decide +kernel
theorem dX0_comparedTo_29 : decode cX0_comparedTo 29 = .ok (.aload_n 0, 1) := by decide +kernel
theorem dX0_comparedTo_30 : decode cX0_comparedTo 30 = .ok (.getfield 9, 3) := by decide +kernel
theorem dX0_comparedTo_33 : decode cX0_comparedTo 33 = .ok (.iload_n 3, 1) := by decide +kernel
theorem dX0_comparedTo_34 : decode cX0_comparedTo 34 = .ok (.laload, 1) := by decide +kernel
theorem dX0_comparedTo_35 : decode cX0_comparedTo 35 = .ok (.aload_n 1, 1) := by decide +kernel
theorem dX0_comparedTo_36 : decode cX0_comparedTo 36 = .ok (.getfield 9, 3) := by decide +kernel
theorem dX0_comparedTo_39 : decode cX0_comparedTo 39 = .ok (.iload_n 3, 1) := by decide +kernel
theorem dX0_comparedTo_40 : decode cX0_comparedTo 40 = .ok (.laload, 1) := by decide +kernel
theorem dX0_comparedTo_41 : decode cX0_comparedTo 41 = .ok (.lcmp, 1) := by decide +kernel
theorem dX0_comparedTo_42 : decode cX0_comparedTo 42 = .ok (.ifCond .eq 25, 3) := by decide +kernel
theorem dX0_comparedTo_45 : decode cX0_comparedTo 45 = .ok (.aload_n 0, 1) := by decide +kernel
theorem dX0_comparedTo_46 : decode cX0_comparedTo 46 = .ok (.getfield 9, 3) := by decide +kernel
theorem dX0_comparedTo_49 : decode cX0_comparedTo 49 = .ok (.iload_n 3, 1) := by decide +kernel
theorem dX0_comparedTo_50 : decode cX0_comparedTo 50 = .ok (.laload, 1) := by decide +kernel
theorem dX0_comparedTo_51 : decode cX0_comparedTo 51 = .ok (.aload_n 1, 1) := by decide +kernel
theorem dX0_comparedTo_52 : decode cX0_comparedTo 52 = .ok (.getfield 9, 3) := by decide +kernel
theorem dX0_comparedTo_55 : decode cX0_comparedTo 55 = .ok (.iload_n 3, 1) := by decide +kernel
theorem dX0_comparedTo_56 : decode cX0_comparedTo 56 = .ok (.laload, 1) := by decide +kernel
theorem dX0_comparedTo_57 : decode cX0_comparedTo 57 = .ok (.lcmp, 1) := by decide +kernel
theorem dX0_comparedTo_58 : decode cX0_comparedTo 58 = .ok (.ifCond .ge 7, 3) := by decide +kernel
theorem dX0_comparedTo_61 : decode cX0_comparedTo 61 = .ok (.iconst (-1), 1) := by decide +kernel
theorem dX0_comparedTo_62 : decode cX0_comparedTo 62 = .ok (.goto 4, 3) := by decide +kernel
theorem dX0_comparedTo_65 : decode cX0_comparedTo 65 = .ok (.iconst 1, 1) := by decide +kernel
theorem dX0_comparedTo_66 : decode cX0_comparedTo 66 = .ok (.ireturn, 1) := by decide +kernel
theorem dX0_comparedTo_67 : decode cX0_comparedTo 67 = .ok (.iinc 3 1, 3) := by decide +kernel
theorem dX0_comparedTo_70 : decode cX0_comparedTo 70 = .ok (.goto (-46), 3) := by decide +kernel
theorem dX0_comparedTo_73 : decode cX0_comparedTo 73 = .ok (.iconst 0, 1) := by decide +kernel
theorem dX0_comparedTo_74 : decode cX0_comparedTo 74 = .ok (.ireturn, 1) := by decide +kernel
theorem dX0_trim_0 : decode cX0_trim 0 = .ok (.aload_n 0, 1) := by decide +kernel
theorem dX0_trim_1 : decode cX0_trim 1 = .ok (.getfield 13, 3) := by decide +kernel
theorem dX0_trim_4 : decode cX0_trim 4 = .ok (.aload_n 0, 1) := by decide +kernel
theorem dX0_trim_5 : decode cX0_trim 5 = .ok (.getfield 17, 3) := by decide +kernel
theorem dX0_trim_8 : decode cX0_trim 8 = .ok (.if_icmp .gt 30, 3) := by decide +kernel
theorem dX0_trim_11 : decode cX0_trim 11 = .ok (.aload_n 0, 1) := by decide +kernel
theorem dX0_trim_12 : decode cX0_trim 12 = .ok (.getfield 9, 3) := by decide +kernel
theorem dX0_trim_15 : decode cX0_trim 15 = .ok (.aload_n 0, 1) := by decide +kernel
theorem dX0_trim_16 : decode cX0_trim 16 = .ok (.getfield 13, 3) := by decide +kernel
theorem dX0_trim_19 : decode cX0_trim 19 = .ok (.laload, 1) := by decide +kernel
theorem dX0_trim_20 : decode cX0_trim 20 = .ok (.lconst 0, 1) := by decide +kernel
theorem dX0_trim_21 : decode cX0_trim 21 = .ok (.lcmp, 1) := by decide +kernel
theorem dX0_trim_22 : decode cX0_trim 22 = .ok (.ifCond .ne 16, 3) := by decide +kernel
theorem dX0_trim_25 : decode cX0_trim 25 = .ok (.aload_n 0, 1) := by decide +kernel
theorem dX0_trim_26 : decode cX0_trim 26 = .ok (.dup, 1) := by decide +kernel
theorem dX0_trim_27 : decode cX0_trim 27 = .ok (.getfield 13, 3) := by decide +kernel
theorem dX0_trim_30 : decode cX0_trim 30 = .ok (.iconst 1, 1) := by decide +kernel
theorem dX0_trim_31 : decode cX0_trim 31 = .ok (.iadd, 1) := by decide +kernel
theorem dX0_trim_32 : decode cX0_trim 32 = .ok (.putfield 13, 3) := by decide +kernel
theorem dX0_trim_35 : decode cX0_trim 35 = .ok (.goto (-35), 3) := by decide +kernel
theorem dX0_trim_38 : decode cX0_trim 38 = .ok (.aload_n 0, 1) := by decide +kernel
theorem dX0_trim_39 : decode cX0_trim 39 = .ok (.getfield 13, 3) := by decide +kernel
theorem dX0_trim_42 : decode cX0_trim 42 = .ok (.aload_n 0, 1) := by decide +kernel
theorem dX0_trim_43 : decode cX0_trim 43 = .ok (.getfield 17, 3) := by decide +kernel
theorem dX0_trim_46 : decode cX0_trim 46 = .ok (.if_icmp .gt 30, 3) := by decide +kernel
theorem dX0_trim_49 : decode cX0_trim 49 = .ok (.aload_n 0, 1) := by decide +kernel
theorem dX0_trim_50 : decode cX0_trim 50 = .ok (.getfield 9, 3) := by decide +kernel
theorem dX0_trim_53 : decode cX0_trim 53 = .ok (.aload_n 0, 1) := by decide +kernel
theorem dX0_trim_54 : decode cX0_trim 54 = .ok (.getfield 17, 3) := by decide +kernel
theorem dX0_trim_57 : decode cX0_trim 57 = .ok (.laload, 1) := by decide +kernel
theorem dX0_trim_58 : decode cX0_trim 58 = .ok (.lconst 0, 1) := by decide +kernel
theorem dX0_trim_59 : decode cX0_trim 59 = .ok (.lcmp, 1) := by decide +kernel
theorem dX0_trim_60 : decode cX0_trim 60 = .ok (.ifCond .ne 16, 3) := by decide +kernel
theorem dX0_trim_63 : decode cX0_trim 63 = .ok (.aload_n 0, 1) := by decide +kernel
theorem dX0_trim_64 : decode cX0_trim 64 = .ok (.dup, 1) := by decide +kernel
theorem dX0_trim_65 : decode cX0_trim 65 = .ok (.getfield 17, 3) := by decide +kernel
theorem dX0_trim_68 : decode cX0_trim 68 = .ok (.iconst 1, 1) := by decide +kernel
theorem dX0_trim_69 : decode cX0_trim 69 = .ok (.isub, 1) := by decide +kernel
theorem dX0_trim_70 : decode cX0_trim 70 = .ok (.putfield 17, 3) := by decide +kernel
theorem dX0_trim_73 : decode cX0_trim 73 = .ok (.goto (-35), 3) := by decide +kernel
theorem dX0_trim_76 : decode cX0_trim 76 = .ok (.return_, 1) := by decide +kernel
theorem dX0_limb_0 : decode cX0_limb 0 = .ok (.iload_n 1, 1) := by decide +kernel
theorem dX0_limb_1 : decode cX0_limb 1 = .ok (.ifCond .lt 19, 3) := by decide +kernel
theorem dX0_limb_4 : decode cX0_limb 4 = .ok (.iload_n 1, 1) := by decide +kernel
theorem dX0_limb_5 : decode cX0_limb 5 = .ok (.sipush 160, 3) := by decide +kernel
theorem dX0_limb_8 : decode cX0_limb 8 = .ok (.if_icmp .ge 12, 3) := by decide +kernel
theorem dX0_limb_11 : decode cX0_limb 11 = .ok (.aload_n 0, 1) := by decide +kernel
theorem dX0_limb_12 : decode cX0_limb 12 = .ok (.getfield 9, 3) := by decide +kernel
theorem dX0_limb_15 : decode cX0_limb 15 = .ok (.iload_n 1, 1) := by decide +kernel
theorem dX0_limb_16 : decode cX0_limb 16 = .ok (.laload, 1) := by decide +kernel
theorem dX0_limb_17 : decode cX0_limb 17 = .ok (.goto 4, 3) := by decide +kernel
theorem dX0_limb_20 : decode cX0_limb 20 = .ok (.lconst 0, 1) := by decide +kernel
theorem dX0_limb_21 : decode cX0_limb 21 = .ok (.lreturn, 1) := by decide +kernel
theorem dX0_limbOf_0 : decode cX0_limbOf 0 = .ok (.bipush 34, 2) := by decide +kernel
theorem dX0_limbOf_2 : decode cX0_limbOf 2 = .ok (.iload_n 0, 1) := by decide +kernel
theorem dX0_limbOf_3 : decode cX0_limbOf 3 = .ok (.bipush 9, 2) := by decide +kernel
theorem dX0_limbOf_5 : decode cX0_limbOf 5 = .ok (.invokestatic 83, 3) := by decide +kernel
theorem dX0_limbOf_8 : decode cX0_limbOf 8 = .ok (.isub, 1) := by decide +kernel
theorem dX0_limbOf_9 : decode cX0_limbOf 9 = .ok (.ireturn, 1) := by decide +kernel
theorem dX0_unitOf_0 : decode cX0_unitOf 0 = .ok (.getstatic 42, 3) := by decide +kernel
theorem dX0_unitOf_3 : decode cX0_unitOf 3 = .ok (.iload_n 0, 1) := by decide +kernel
theorem dX0_unitOf_4 : decode cX0_unitOf 4 = .ok (.bipush 9, 2) := by decide +kernel
theorem dX0_unitOf_6 : decode cX0_unitOf 6 = .ok (.invokestatic 86, 3) := by decide +kernel
theorem dX0_unitOf_9 : decode cX0_unitOf 9 = .ok (.laload, 1) := by decide +kernel
theorem dX0_unitOf_10 : decode cX0_unitOf 10 = .ok (.lreturn, 1) := by decide +kernel
theorem dX1_init_0 : decode cX1_init 0 = .ok (.aload_n 0, 1) := by decide +kernel
theorem dX1_init_1 : decode cX1_init 1 = .ok (.invokespecial 1, 3) := by decide +kernel
theorem dX1_init_4 : decode cX1_init 4 = .ok (.aload_n 0, 1) := by decide +kernel
theorem dX1_init_5 : decode cX1_init 5 = .ok (.sipush 400, 3) := by decide +kernel
theorem dX1_init_8 : decode cX1_init 8 = .ok (.newarray .int, 2) := by decide +kernel
theorem dX1_init_10 : decode cX1_init 10 = .ok (.putfield 9, 3) := by decide +kernel
theorem dX1_init_13 : decode cX1_init 13 = .ok (.aload_n 0, 1) := by decide +kernel
theorem dX1_init_14 : decode cX1_init 14 = .ok (.new 13, 3) := by decide +kernel
theorem dX1_init_17 : decode cX1_init 17 = .ok (.dup, 1) := by decide +kernel
theorem dX1_init_18 : decode cX1_init 18 = .ok (.invokespecial 15, 3) := by decide +kernel
theorem dX1_init_21 : decode cX1_init 21 = .ok (.putfield 16, 3) := by decide +kernel
theorem dX1_init_24 : decode cX1_init 24 = .ok (.aload_n 0, 1) := by decide +kernel
theorem dX1_init_25 : decode cX1_init 25 = .ok (.new 13, 3) := by decide +kernel
theorem dX1_init_28 : decode cX1_init 28 = .ok (.dup, 1) := by decide +kernel
theorem dX1_init_29 : decode cX1_init 29 = .ok (.invokespecial 15, 3) := by decide +kernel
theorem dX1_init_32 : decode cX1_init 32 = .ok (.putfield 20, 3) := by decide +kernel
theorem dX1_init_35 : decode cX1_init 35 = .ok (.aload_n 0, 1) := by decide +kernel
theorem dX1_init_36 : decode cX1_init 36 = .ok (.new 13, 3) := by decide +kernel
theorem dX1_init_39 : decode cX1_init 39 = .ok (.dup, 1) := by decide +kernel
theorem dX1_init_40 : decode cX1_init 40 = .ok (.invokespecial 15, 3) := by decide +kernel
theorem dX1_init_43 : decode cX1_init 43 = .ok (.putfield 23, 3) := by decide +kernel
theorem dX1_init_46 : decode cX1_init 46 = .ok (.aload_n 0, 1) := by decide +kernel
theorem dX1_init_47 : decode cX1_init 47 = .ok (.new 13, 3) := by decide +kernel
theorem dX1_init_50 : decode cX1_init 50 = .ok (.dup, 1) := by decide +kernel
theorem dX1_init_51 : decode cX1_init 51 = .ok (.invokespecial 15, 3) := by decide +kernel
theorem dX1_init_54 : decode cX1_init 54 = .ok (.putfield 26, 3) := by decide +kernel
theorem dX1_init_57 : decode cX1_init 57 = .ok (.return_, 1) := by decide +kernel
theorem dX1_clear_0 : decode cX1_clear 0 = .ok (.aload_n 0, 1) := by decide +kernel
theorem dX1_clear_1 : decode cX1_clear 1 = .ok (.iconst 0, 1) := by decide +kernel
theorem dX1_clear_2 : decode cX1_clear 2 = .ok (.putfield 29, 3) := by decide +kernel
theorem dX1_clear_5 : decode cX1_clear 5 = .ok (.return_, 1) := by decide +kernel
theorem dX1_add_0 : decode cX1_add 0 = .ok (.iload_n 1, 1) := by decide +kernel
theorem dX1_add_1 : decode cX1_add 1 = .ok (.ifCond .lt 10, 3) := by decide +kernel
theorem dX1_add_4 : decode cX1_add 4 = .ok (.iload_n 1, 1) := by decide +kernel
theorem dX1_add_5 : decode cX1_add 5 = .ok (.sipush 255, 3) := by decide +kernel
theorem dX1_add_8 : decode cX1_add 8 = .ok (.if_icmp .le 11, 3) := by decide +kernel
theorem dX1_add_11 : decode cX1_add 11 = .ok (.new 33, 3) := by decide +kernel
theorem dX1_add_14 : decode cX1_add 14 = .ok (.dup, 1) := by decide +kernel
theorem dX1_add_15 : decode cX1_add 15 = .ok (.invokespecial 35, 3) := by decide +kernel
theorem dX1_add_18 : decode cX1_add 18 = .ok (.athrow, 1) := by decide +kernel
theorem dX1_add_19 : decode cX1_add 19 = .ok (.aload_n 0, 1) := by decide +kernel
theorem dX1_add_20 : decode cX1_add 20 = .ok (.getfield 29, 3) := by decide +kernel
theorem dX1_add_23 : decode cX1_add 23 = .ok (.sipush 400, 3) := by decide +kernel
theorem dX1_add_26 : decode cX1_add 26 = .ok (.if_icmp .lt 11, 3) := by decide +kernel
theorem dX1_add_29 : decode cX1_add 29 = .ok (.new 36, 3) := by decide +kernel
theorem dX1_add_32 : decode cX1_add 32 = .ok (.dup, 1) := by decide +kernel
theorem dX1_add_33 : decode cX1_add 33 = .ok (.invokespecial 38, 3) := by decide +kernel
theorem dX1_add_36 : decode cX1_add 36 = .ok (.athrow, 1) := by decide +kernel
theorem dX1_add_37 : decode cX1_add 37 = .ok (.aload_n 0, 1) := by decide +kernel
theorem dX1_add_38 : decode cX1_add 38 = .ok (.iload_n 1, 1) := by decide +kernel
theorem dX1_add_39 : decode cX1_add 39 = .ok (.invokevirtual 39, 3) := by decide +kernel
theorem dX1_add_42 : decode cX1_add 42 = .ok (.aload_n 0, 1) := by decide +kernel
theorem dX1_add_43 : decode cX1_add 43 = .ok (.getfield 29, 3) := by decide +kernel
theorem dX1_add_46 : decode cX1_add 46 = .ok (.ireturn, 1) := by decide +kernel
theorem dX1_read_0 : decode cX1_read 0 = .ok (.aload_n 0, 1) := by decide +kernel
theorem dX1_read_1 : decode cX1_read 1 = .ok (.invokevirtual 43, 3) := by decide +kernel
theorem dX1_read_4 : decode cX1_read 4 = .ok (.ifCond .ne 11, 3) := by decide +kernel
theorem dX1_read_7 : decode cX1_read 7 = .ok (.new 36, 3) := by decide +kernel
theorem dX1_read_10 : decode cX1_read 10 = .ok (.dup, 1) := by decide +kernel
theorem dX1_read_11 : decode cX1_read 11 = .ok (.invokespecial 38, 3) := by decide +kernel
theorem dX1_read_14 : decode cX1_read 14 = .ok (.athrow, 1) := by decide +kernel
theorem dX1_read_15 : decode cX1_read 15 = .ok (.aload_n 0, 1) := by decide +kernel
theorem dX1_read_16 : decode cX1_read 16 = .ok (.invokevirtual 47, 3) := by decide +kernel
theorem dX1_read_19 : decode cX1_read 19 = .ok (.lstore_n 1, 1) := by decide +kernel
theorem dX1_read_20 : decode cX1_read 20 = .ok (.aload_n 0, 1) := by decide +kernel
theorem dX1_read_21 : decode cX1_read 21 = .ok (.iconst 0, 1) := by decide +kernel
theorem dX1_read_22 : decode cX1_read 22 = .ok (.bipush 45, 2) := by decide +kernel
theorem dX1_read_24 : decode cX1_read 24 = .ok (.invokevirtual 51, 3) := by decide +kernel
theorem dX1_read_27 : decode cX1_read 27 = .ok (.ifCond .eq 11, 3) := by decide +kernel
theorem dX1_read_30 : decode cX1_read 30 = .ok (.lload_n 1, 1) := by decide +kernel
theorem dX1_read_31 : decode cX1_read 31 = .ok (.ldc2_w 55, 3) := by decide +kernel
theorem dX1_read_34 : decode cX1_read 34 = .ok (.lor, 1) := by decide +kernel
theorem dX1_read_35 : decode cX1_read 35 = .ok (.goto 4, 3) := by decide +kernel
theorem dX1_read_38 : decode cX1_read 38 = .ok (.lload_n 1, 1) := by decide +kernel
theorem dX1_read_39 : decode cX1_read 39 = .ok (.lreturn, 1) := by decide +kernel
theorem dX1_print_0 : decode cX1_print 0 = .ok (.iload_n 3, 1) := by decide +kernel
theorem dX1_print_1 : decode cX1_print 1 = .ok (.ifCond .lt 9, 3) := by decide +kernel
theorem dX1_print_4 : decode cX1_print 4 = .ok (.iload_n 3, 1) := by decide +kernel
theorem dX1_print_5 : decode cX1_print 5 = .ok (.bipush 30, 2) := by decide +kernel
theorem dX1_print_7 : decode cX1_print 7 = .ok (.if_icmp .le 11, 3) := by decide +kernel
theorem dX1_print_10 : decode cX1_print 10 = .ok (.new 33, 3) := by decide +kernel
theorem dX1_print_13 : decode cX1_print 13 = .ok (.dup, 1) := by decide +kernel
theorem dX1_print_14 : decode cX1_print 14 = .ok (.invokespecial 35, 3) := by decide +kernel
theorem dX1_print_17 : decode cX1_print 17 = .ok (.athrow, 1) := by decide +kernel
theorem dX1_print_18 : decode cX1_print 18 = .ok (.lload_n 1, 1) := by decide +kernel
theorem dX1_print_19 : decode cX1_print 19 = .ok (.invokestatic 57, 3) := by decide +kernel
theorem dX1_print_22 : decode cX1_print 22 = .ok (.ifCond .eq 11, 3) := by decide +kernel
theorem dX1_print_25 : decode cX1_print 25 = .ok (.new 36, 3) := by decide +kernel
theorem dX1_print_28 : decode cX1_print 28 = .ok (.dup, 1) := by decide +kernel
theorem dX1_print_29 : decode cX1_print 29 = .ok (.invokespecial 38, 3) := by decide +kernel
theorem dX1_print_32 : decode cX1_print 32 = .ok (.athrow, 1) := by decide +kernel
theorem dX1_print_33 : decode cX1_print 33 = .ok (.aload_n 0, 1) := by decide +kernel
theorem dX1_print_34 : decode cX1_print 34 = .ok (.getfield 16, 3) := by decide +kernel
theorem dX1_print_37 : decode cX1_print 37 = .ok (.lload_n 1, 1) := by decide +kernel
theorem dX1_print_38 : decode cX1_print 38 = .ok (.invokestatic 61, 3) := by decide +kernel
theorem dX1_print_41 : decode cX1_print 41 = .ok (.lload_n 1, 1) := by decide +kernel
theorem dX1_print_42 : decode cX1_print 42 = .ok (.invokestatic 65, 3) := by decide +kernel
theorem dX1_print_45 : decode cX1_print 45 = .ok (.invokevirtual 69, 3) := by decide +kernel
theorem dX1_print_48 : decode cX1_print 48 = .ok (.aload_n 0, 1) := by decide +kernel
