theorem dX1_putPower_45 : decode cX1_putPower 45 = .ok (.bipush 48, 2) := by decide +kernel
theorem dX1_putPower_47 : decode cX1_putPower 47 = .ok (.iload_n 2, 1) := by decide +kernel
theorem dX1_putPower_48 : decode cX1_putPower 48 = .ok (.bipush 10, 2) := by decide +kernel
theorem dX1_putPower_50 : decode cX1_putPower 50 = .ok (.idiv, 1) := by decide +kernel
theorem dX1_putPower_51 : decode cX1_putPower 51 = .ok (.bipush 10, 2) := by decide +kernel
theorem dX1_putPower_53 : decode cX1_putPower 53 = .ok (.irem, 1) := by decide +kernel
theorem dX1_putPower_54 : decode cX1_putPower 54 = .ok (.iadd, 1) := by decide +kernel
theorem dX1_putPower_55 : decode cX1_putPower 55 = .ok (.invokevirtual 39, 3) := by decide +kernel
theorem dX1_putPower_58 : decode cX1_putPower 58 = .ok (.aload_n 0, 1) := by decide +kernel
theorem dX1_putPower_59 : decode cX1_putPower 59 = .ok (.bipush 48, 2) := by decide +kernel
theorem dX1_putPower_61 : decode cX1_putPower 61 = .ok (.iload_n 2, 1) := by decide +kernel
theorem dX1_putPower_62 : decode cX1_putPower 62 = .ok (.bipush 10, 2) := by decide +kernel
theorem dX1_putPower_64 : decode cX1_putPower 64 = .ok (.irem, 1) := by decide +kernel
theorem dX1_putPower_65 : decode cX1_putPower 65 = .ok (.iadd, 1) := by decide +kernel
theorem dX1_putPower_66 : decode cX1_putPower 66 = .ok (.invokevirtual 39, 3) := by decide +kernel
theorem dX1_putPower_69 : decode cX1_putPower 69 = .ok (.return_, 1) := by decide +kernel
theorem dX2_init_0 : decode cX2_init 0 = .ok (.aload_n 0, 1) := by decide +kernel
theorem dX2_init_1 : decode cX2_init 1 = .ok (.invokespecial 1, 3) := by decide +kernel
theorem dX2_init_4 : decode cX2_init 4 = .ok (.aload_n 0, 1) := by decide +kernel
theorem dX2_init_5 : decode cX2_init 5 = .ok (.sipush 400, 3) := by decide +kernel
theorem dX2_init_8 : decode cX2_init 8 = .ok (.newarray .int, 2) := by decide +kernel
theorem dX2_init_10 : decode cX2_init 10 = .ok (.putfield 7, 3) := by decide +kernel
theorem dX2_init_13 : decode cX2_init 13 = .ok (.aload_n 0, 1) := by decide +kernel
theorem dX2_init_14 : decode cX2_init 14 = .ok (.sipush 7000, 3) := by decide +kernel
theorem dX2_init_17 : decode cX2_init 17 = .ok (.newarray .int, 2) := by decide +kernel
theorem dX2_init_19 : decode cX2_init 19 = .ok (.putfield 13, 3) := by decide +kernel
theorem dX2_init_22 : decode cX2_init 22 = .ok (.aload_n 0, 1) := by decide +kernel
theorem dX2_init_23 : decode cX2_init 23 = .ok (.sipush 7000, 3) := by decide +kernel
theorem dX2_init_26 : decode cX2_init 26 = .ok (.newarray .int, 2) := by decide +kernel
theorem dX2_init_28 : decode cX2_init 28 = .ok (.putfield 16, 3) := by decide +kernel
theorem dX2_init_31 : decode cX2_init 31 = .ok (.aload_n 0, 1) := by decide +kernel
theorem dX2_init_32 : decode cX2_init 32 = .ok (.sipush 7000, 3) := by decide +kernel
theorem dX2_init_35 : decode cX2_init 35 = .ok (.newarray .int, 2) := by decide +kernel
theorem dX2_init_37 : decode cX2_init 37 = .ok (.putfield 19, 3) := by decide +kernel
theorem dX2_init_40 : decode cX2_init 40 = .ok (.aload_n 0, 1) := by decide +kernel
theorem dX2_init_41 : decode cX2_init 41 = .ok (.sipush 160, 3) := by decide +kernel
theorem dX2_init_44 : decode cX2_init 44 = .ok (.newarray .long, 2) := by decide +kernel
theorem dX2_init_46 : decode cX2_init 46 = .ok (.putfield 22, 3) := by decide +kernel
theorem dX2_init_49 : decode cX2_init 49 = .ok (.return_, 1) := by decide +kernel
theorem dX2_thrown_0 : decode cX2_thrown 0 = .ok (.aload_n 0, 1) := by decide +kernel
theorem dX2_thrown_1 : decode cX2_thrown 1 = .ok (.getfield 26, 3) := by decide +kernel
theorem dX2_thrown_4 : decode cX2_thrown 4 = .ok (.ireturn, 1) := by decide +kernel
theorem dX2_clear_0 : decode cX2_clear 0 = .ok (.aload_n 0, 1) := by decide +kernel
theorem dX2_clear_1 : decode cX2_clear 1 = .ok (.iconst 0, 1) := by decide +kernel
theorem dX2_clear_2 : decode cX2_clear 2 = .ok (.putfield 26, 3) := by decide +kernel
theorem dX2_clear_5 : decode cX2_clear 5 = .ok (.aload_n 0, 1) := by decide +kernel
theorem dX2_clear_6 : decode cX2_clear 6 = .ok (.iconst 0, 1) := by decide +kernel
theorem dX2_clear_7 : decode cX2_clear 7 = .ok (.putfield 30, 3) := by decide +kernel
theorem dX2_clear_10 : decode cX2_clear 10 = .ok (.return_, 1) := by decide +kernel
theorem dX2_add_0 : decode cX2_add 0 = .ok (.aload_n 0, 1) := by decide +kernel
theorem dX2_add_1 : decode cX2_add 1 = .ok (.iload_n 1, 1) := by decide +kernel
theorem dX2_add_2 : decode cX2_add 2 = .ok (.ifCond .lt 10, 3) := by decide +kernel
theorem dX2_add_5 : decode cX2_add 5 = .ok (.iload_n 1, 1) := by decide +kernel
theorem dX2_add_6 : decode cX2_add 6 = .ok (.sipush 255, 3) := by decide +kernel
theorem dX2_add_9 : decode cX2_add 9 = .ok (.if_icmp .le 7, 3) := by decide +kernel
theorem dX2_add_12 : decode cX2_add 12 = .ok (.iconst 1, 1) := by decide +kernel
theorem dX2_add_13 : decode cX2_add 13 = .ok (.goto 18, 3) := by decide +kernel
theorem dX2_add_16 : decode cX2_add 16 = .ok (.aload_n 0, 1) := by decide +kernel
theorem dX2_add_17 : decode cX2_add 17 = .ok (.getfield 30, 3) := by decide +kernel
theorem dX2_add_20 : decode cX2_add 20 = .ok (.sipush 400, 3) := by decide +kernel
theorem dX2_add_23 : decode cX2_add 23 = .ok (.if_icmp .ne 7, 3) := by decide +kernel
theorem dX2_add_26 : decode cX2_add 26 = .ok (.iconst 2, 1) := by decide +kernel
theorem dX2_add_27 : decode cX2_add 27 = .ok (.goto 4, 3) := by decide +kernel
theorem dX2_add_30 : decode cX2_add 30 = .ok (.iconst 0, 1) := by decide +kernel
theorem dX2_add_31 : decode cX2_add 31 = .ok (.putfield 26, 3) := by decide +kernel
theorem dX2_add_34 : decode cX2_add 34 = .ok (.aload_n 0, 1) := by decide +kernel
theorem dX2_add_35 : decode cX2_add 35 = .ok (.getfield 26, 3) := by decide +kernel
theorem dX2_add_38 : decode cX2_add 38 = .ok (.ifCond .eq 5, 3) := by decide +kernel
theorem dX2_add_41 : decode cX2_add 41 = .ok (.iconst 0, 1) := by decide +kernel
theorem dX2_add_42 : decode cX2_add 42 = .ok (.ireturn, 1) := by decide +kernel
theorem dX2_add_43 : decode cX2_add 43 = .ok (.aload_n 0, 1) := by decide +kernel
theorem dX2_add_44 : decode cX2_add 44 = .ok (.getfield 7, 3) := by decide +kernel
theorem dX2_add_47 : decode cX2_add 47 = .ok (.aload_n 0, 1) := by decide +kernel
theorem dX2_add_48 : decode cX2_add 48 = .ok (.getfield 30, 3) := by decide +kernel
theorem dX2_add_51 : decode cX2_add 51 = .ok (.iload_n 1, 1) := by decide +kernel
theorem dX2_add_52 : decode cX2_add 52 = .ok (.iastore, 1) := by decide +kernel
theorem dX2_add_53 : decode cX2_add 53 = .ok (.aload_n 0, 1) := by decide +kernel
theorem dX2_add_54 : decode cX2_add 54 = .ok (.dup, 1) := by decide +kernel
theorem dX2_add_55 : decode cX2_add 55 = .ok (.getfield 30, 3) := by decide +kernel
theorem dX2_add_58 : decode cX2_add 58 = .ok (.iconst 1, 1) := by decide +kernel
theorem dX2_add_59 : decode cX2_add 59 = .ok (.iadd, 1) := by decide +kernel
theorem dX2_add_60 : decode cX2_add 60 = .ok (.putfield 30, 3) := by decide +kernel
theorem dX2_add_63 : decode cX2_add 63 = .ok (.aload_n 0, 1) := by decide +kernel
theorem dX2_add_64 : decode cX2_add 64 = .ok (.getfield 30, 3) := by decide +kernel
theorem dX2_add_67 : decode cX2_add 67 = .ok (.ireturn, 1) := by decide +kernel
theorem dX2_digit_0 : decode cX2_digit 0 = .ok (.iload_n 2, 1) := by decide +kernel
theorem dX2_digit_1 : decode cX2_digit 1 = .ok (.ifCond .lt 24, 3) := by decide +kernel
theorem dX2_digit_4 : decode cX2_digit 4 = .ok (.iload_n 2, 1) := by decide +kernel
theorem dX2_digit_5 : decode cX2_digit 5 = .ok (.aload_n 0, 1) := by decide +kernel
theorem dX2_digit_6 : decode cX2_digit 6 = .ok (.getfield 16, 3) := by decide +kernel
theorem dX2_digit_9 : decode cX2_digit 9 = .ok (.iload_n 1, 1) := by decide +kernel
theorem dX2_digit_10 : decode cX2_digit 10 = .ok (.iaload, 1) := by decide +kernel
theorem dX2_digit_11 : decode cX2_digit 11 = .ok (.if_icmp .ge 14, 3) := by decide +kernel
theorem dX2_digit_14 : decode cX2_digit 14 = .ok (.aload_n 0, 1) := by decide +kernel
theorem dX2_digit_15 : decode cX2_digit 15 = .ok (.getfield 13, 3) := by decide +kernel
theorem dX2_digit_18 : decode cX2_digit 18 = .ok (.iload_n 1, 1) := by decide +kernel
theorem dX2_digit_19 : decode cX2_digit 19 = .ok (.iload_n 2, 1) := by decide +kernel
theorem dX2_digit_20 : decode cX2_digit 20 = .ok (.iadd, 1) := by decide +kernel
theorem dX2_digit_21 : decode cX2_digit 21 = .ok (.iaload, 1) := by decide +kernel
theorem dX2_digit_22 : decode cX2_digit 22 = .ok (.goto 4, 3) := by decide +kernel
theorem dX2_digit_25 : decode cX2_digit 25 = .ok (.iconst 0, 1) := by decide +kernel
theorem dX2_digit_26 : decode cX2_digit 26 = .ok (.ireturn, 1) := by decide +kernel
theorem dX2_more_0 : decode cX2_more 0 = .ok (.aload_n 0, 1) := by decide +kernel
theorem dX2_more_1 : decode cX2_more 1 = .ok (.getfield 13, 3) := by decide +kernel
theorem dX2_more_4 : decode cX2_more 4 = .ok (.iload_n 1, 1) := by decide +kernel
theorem dX2_more_5 : decode cX2_more 5 = .ok (.aload_n 0, 1) := by decide +kernel
theorem dX2_more_6 : decode cX2_more 6 = .ok (.getfield 16, 3) := by decide +kernel
theorem dX2_more_9 : decode cX2_more 9 = .ok (.iload_n 1, 1) := by decide +kernel
theorem dX2_more_10 : decode cX2_more 10 = .ok (.iaload, 1) := by decide +kernel
theorem dX2_more_11 : decode cX2_more 11 = .ok (.iadd, 1) := by decide +kernel
theorem dX2_more_12 : decode cX2_more 12 = .ok (.iload_n 2, 1) := by decide +kernel
theorem dX2_more_13 : decode cX2_more 13 = .ok (.iastore, 1) := by decide +kernel
theorem dX2_more_14 : decode cX2_more 14 = .ok (.aload_n 0, 1) := by decide +kernel
theorem dX2_more_15 : decode cX2_more 15 = .ok (.getfield 16, 3) := by decide +kernel
theorem dX2_more_18 : decode cX2_more 18 = .ok (.iload_n 1, 1) := by decide +kernel
theorem dX2_more_19 : decode cX2_more 19 = .ok (.dup2, 1) := by decide +kernel
theorem dX2_more_20 : decode cX2_more 20 = .ok (.iaload, 1) := by decide +kernel
theorem dX2_more_21 : decode cX2_more 21 = .ok (.iconst 1, 1) := by decide +kernel
theorem dX2_more_22 : decode cX2_more 22 = .ok (.iadd, 1) := by decide +kernel
theorem dX2_more_23 : decode cX2_more 23 = .ok (.iastore, 1) := by decide +kernel
theorem dX2_more_24 : decode cX2_more 24 = .ok (.return_, 1) := by decide +kernel
theorem dX2_trim_0 : decode cX2_trim 0 = .ok (.iconst 0, 1) := by decide +kernel
theorem dX2_trim_1 : decode cX2_trim 1 = .ok (.istore_n 2, 1) := by decide +kernel
theorem dX2_trim_2 : decode cX2_trim 2 = .ok (.iload_n 2, 1) := by decide +kernel
theorem dX2_trim_3 : decode cX2_trim 3 = .ok (.aload_n 0, 1) := by decide +kernel
theorem dX2_trim_4 : decode cX2_trim 4 = .ok (.getfield 16, 3) := by decide +kernel
theorem dX2_trim_7 : decode cX2_trim 7 = .ok (.iload_n 1, 1) := by decide +kernel
theorem dX2_trim_8 : decode cX2_trim 8 = .ok (.iaload, 1) := by decide +kernel
theorem dX2_trim_9 : decode cX2_trim 9 = .ok (.if_icmp .ge 20, 3) := by decide +kernel
theorem dX2_trim_12 : decode cX2_trim 12 = .ok (.aload_n 0, 1) := by decide +kernel
theorem dX2_trim_13 : decode cX2_trim 13 = .ok (.getfield 13, 3) := by decide +kernel
theorem dX2_trim_16 : decode cX2_trim 16 = .ok (.iload_n 1, 1) := by decide +kernel
theorem dX2_trim_17 : decode cX2_trim 17 = .ok (.iload_n 2, 1) := by decide +kernel
theorem dX2_trim_18 : decode cX2_trim 18 = .ok (.iadd, 1) := by decide +kernel
theorem dX2_trim_19 : decode cX2_trim 19 = .ok (.iaload, 1) := by decide +kernel
theorem dX2_trim_20 : decode cX2_trim 20 = .ok (.ifCond .ne 9, 3) := by decide +kernel
theorem dX2_trim_23 : decode cX2_trim 23 = .ok (.iinc 2 1, 3) := by decide +kernel
theorem dX2_trim_26 : decode cX2_trim 26 = .ok (.goto (-24), 3) := by decide +kernel
theorem dX2_trim_29 : decode cX2_trim 29 = .ok (.iload_n 2, 1) := by decide +kernel
theorem dX2_trim_30 : decode cX2_trim 30 = .ok (.istore_n 3, 1) := by decide +kernel
theorem dX2_trim_31 : decode cX2_trim 31 = .ok (.iload_n 3, 1) := by decide +kernel
theorem dX2_trim_32 : decode cX2_trim 32 = .ok (.aload_n 0, 1) := by decide +kernel
theorem dX2_trim_33 : decode cX2_trim 33 = .ok (.getfield 16, 3) := by decide +kernel
theorem dX2_trim_36 : decode cX2_trim 36 = .ok (.iload_n 1, 1) := by decide +kernel
theorem dX2_trim_37 : decode cX2_trim 37 = .ok (.iaload, 1) := by decide +kernel
theorem dX2_trim_38 : decode cX2_trim 38 = .ok (.if_icmp .ge 27, 3) := by decide +kernel
theorem dX2_trim_41 : decode cX2_trim 41 = .ok (.aload_n 0, 1) := by decide +kernel
theorem dX2_trim_42 : decode cX2_trim 42 = .ok (.getfield 13, 3) := by decide +kernel
theorem dX2_trim_45 : decode cX2_trim 45 = .ok (.iload_n 1, 1) := by decide +kernel
theorem dX2_trim_46 : decode cX2_trim 46 = .ok (.iload_n 3, 1) := by decide +kernel
theorem dX2_trim_47 : decode cX2_trim 47 = .ok (.iadd, 1) := by decide +kernel
theorem dX2_trim_48 : decode cX2_trim 48 = .ok (.iload_n 2, 1) := by decide +kernel
theorem dX2_trim_49 : decode cX2_trim 49 = .ok (.isub, 1) := by decide +kernel
theorem dX2_trim_50 : decode cX2_trim 50 = .ok (.aload_n 0, 1) := by decide +kernel
theorem dX2_trim_51 : decode cX2_trim 51 = .ok (.getfield 13, 3) := by decide +kernel
theorem dX2_trim_54 : decode cX2_trim 54 = .ok (.iload_n 1, 1) := by decide +kernel
theorem dX2_trim_55 : decode cX2_trim 55 = .ok (.iload_n 3, 1) := by decide +kernel
theorem dX2_trim_56 : decode cX2_trim 56 = .ok (.iadd, 1) := by decide +kernel
theorem dX2_trim_57 : decode cX2_trim 57 = .ok (.iaload, 1) := by decide +kernel
theorem dX2_trim_58 : decode cX2_trim 58 = .ok (.iastore, 1) := by decide +kernel
theorem dX2_trim_59 : decode cX2_trim 59 = .ok (.iinc 3 1, 3) := by decide +kernel
theorem dX2_trim_62 : decode cX2_trim 62 = .ok (.goto (-31), 3) := by decide +kernel
theorem dX2_trim_65 : decode cX2_trim 65 = .ok (.aload_n 0, 1) := by decide +kernel
theorem dX2_trim_66 : decode cX2_trim 66 = .ok (.getfield 16, 3) := by decide +kernel
theorem dX2_trim_69 : decode cX2_trim 69 = .ok (.iload_n 1, 1) := by decide +kernel
theorem dX2_trim_70 : decode cX2_trim 70 = .ok (.dup2, 1) := by decide +kernel
theorem dX2_trim_71 : decode cX2_trim 71 = .ok (.iaload, 1) := by decide +kernel
theorem dX2_trim_72 : decode cX2_trim 72 = .ok (.iload_n 2, 1) := by decide +kernel
theorem dX2_trim_73 : decode cX2_trim 73 = .ok (.isub, 1) := by decide +kernel
theorem dX2_trim_74 : decode cX2_trim 74 = .ok (.iastore, 1) := by decide +kernel
theorem dX2_trim_75 : decode cX2_trim 75 = .ok (.aload_n 0, 1) := by decide +kernel
theorem dX2_trim_76 : decode cX2_trim 76 = .ok (.getfield 19, 3) := by decide +kernel
theorem dX2_trim_79 : decode cX2_trim 79 = .ok (.iload_n 1, 1) := by decide +kernel
theorem dX2_trim_80 : decode cX2_trim 80 = .ok (.dup2, 1) := by decide +kernel
theorem dX2_trim_81 : decode cX2_trim 81 = .ok (.iaload, 1) := by decide +kernel
theorem dX2_trim_82 : decode cX2_trim 82 = .ok (.iload_n 2, 1) := by decide +kernel
theorem dX2_trim_83 : decode cX2_trim 83 = .ok (.isub, 1) := by decide +kernel
theorem dX2_trim_84 : decode cX2_trim 84 = .ok (.iastore, 1) := by decide +kernel
theorem dX2_trim_85 : decode cX2_trim 85 = .ok (.aload_n 0, 1) := by decide +kernel
theorem dX2_trim_86 : decode cX2_trim 86 = .ok (.getfield 16, 3) := by decide +kernel
theorem dX2_trim_89 : decode cX2_trim 89 = .ok (.iload_n 1, 1) := by decide +kernel
theorem dX2_trim_90 : decode cX2_trim 90 = .ok (.iaload, 1) := by decide +kernel
theorem dX2_trim_91 : decode cX2_trim 91 = .ok (.ifCond .le 34, 3) := by decide +kernel
theorem dX2_trim_94 : decode cX2_trim 94 = .ok (.aload_n 0, 1) := by decide +kernel
theorem dX2_trim_95 : decode cX2_trim 95 = .ok (.getfield 13, 3) := by decide +kernel
theorem dX2_trim_98 : decode cX2_trim 98 = .ok (.iload_n 1, 1) := by decide +kernel
theorem dX2_trim_99 : decode cX2_trim 99 = .ok (.aload_n 0, 1) := by decide +kernel
theorem dX2_trim_100 : decode cX2_trim 100 = .ok (.getfield 16, 3) := by decide +kernel
theorem dX2_trim_103 : decode cX2_trim 103 = .ok (.iload_n 1, 1) := by decide +kernel
theorem dX2_trim_104 : decode cX2_trim 104 = .ok (.iaload, 1) := by decide +kernel
theorem dX2_trim_105 : decode cX2_trim 105 = .ok (.iadd, 1) := by decide +kernel
theorem dX2_trim_106 : decode cX2_trim 106 = .ok (.iconst 1, 1) := by decide +kernel
theorem dX2_trim_107 : decode cX2_trim 107 = .ok (.isub, 1) := by decide +kernel
theorem dX2_trim_108 : decode cX2_trim 108 = .ok (.iaload, 1) := by decide +kernel
theorem dX2_trim_109 : decode cX2_trim 109 = .ok (.ifCond .ne 16, 3) := by decide +kernel
theorem dX2_trim_112 : decode cX2_trim 112 = .ok (.aload_n 0, 1) := by decide +kernel
theorem dX2_trim_113 : decode cX2_trim 113 = .ok (.getfield 16, 3) := by decide +kernel
theorem dX2_trim_116 : decode cX2_trim 116 = .ok (.iload_n 1, 1) := by decide +kernel
theorem dX2_trim_117 : decode cX2_trim 117 = .ok (.dup2, 1) := by decide +kernel
theorem dX2_trim_118 : decode cX2_trim 118 = .ok (.iaload, 1) := by decide +kernel
theorem dX2_trim_119 : decode cX2_trim 119 = .ok (.iconst 1, 1) := by decide +kernel
theorem dX2_trim_120 : decode cX2_trim 120 = .ok (.isub, 1) := by decide +kernel
theorem dX2_trim_121 : decode cX2_trim 121 = .ok (.iastore, 1) := by decide +kernel
theorem dX2_trim_122 : decode cX2_trim 122 = .ok (.goto (-37), 3) := by decide +kernel
theorem dX2_trim_125 : decode cX2_trim 125 = .ok (.return_, 1) := by decide +kernel
theorem dX2_round_0 : decode cX2_round 0 = .ok (.aload_n 0, 1) := by decide +kernel
theorem dX2_round_1 : decode cX2_round 1 = .ok (.getfield 19, 3) := by decide +kernel
theorem dX2_round_4 : decode cX2_round 4 = .ok (.sipush 2800, 3) := by decide +kernel
theorem dX2_round_7 : decode cX2_round 7 = .ok (.aload_n 0, 1) := by decide +kernel
theorem dX2_round_8 : decode cX2_round 8 = .ok (.getfield 19, 3) := by decide +kernel
theorem dX2_round_11 : decode cX2_round 11 = .ok (.sipush 1400, 3) := by decide +kernel
theorem dX2_round_14 : decode cX2_round 14 = .ok (.iaload, 1) := by decide +kernel
theorem dX2_round_15 : decode cX2_round 15 = .ok (.iastore, 1) := by decide +kernel
theorem dX2_round_16 : decode cX2_round 16 = .ok (.aload_n 0, 1) := by decide +kernel
theorem dX2_round_17 : decode cX2_round 17 = .ok (.getfield 16, 3) := by decide +kernel
theorem dX2_round_20 : decode cX2_round 20 = .ok (.sipush 2800, 3) := by decide +kernel
theorem dX2_round_23 : decode cX2_round 23 = .ok (.iload_n 1, 1) := by decide +kernel
theorem dX2_round_24 : decode cX2_round 24 = .ok (.ifCond .ge 7, 3) := by decide +kernel
theorem dX2_round_27 : decode cX2_round 27 = .ok (.iconst 0, 1) := by decide +kernel
theorem dX2_round_28 : decode cX2_round 28 = .ok (.goto 4, 3) := by decide +kernel
theorem dX2_round_31 : decode cX2_round 31 = .ok (.iload_n 1, 1) := by decide +kernel
theorem dX2_round_32 : decode cX2_round 32 = .ok (.iastore, 1) := by decide +kernel
theorem dX2_round_33 : decode cX2_round 33 = .ok (.iconst 0, 1) := by decide +kernel
theorem dX2_round_34 : decode cX2_round 34 = .ok (.istore_n 2, 1) := by decide +kernel
theorem dX2_round_35 : decode cX2_round 35 = .ok (.iload_n 2, 1) := by decide +kernel
theorem dX2_round_36 : decode cX2_round 36 = .ok (.aload_n 0, 1) := by decide +kernel
theorem dX2_round_37 : decode cX2_round 37 = .ok (.getfield 16, 3) := by decide +kernel
theorem dX2_round_40 : decode cX2_round 40 = .ok (.sipush 2800, 3) := by decide +kernel
theorem dX2_round_43 : decode cX2_round 43 = .ok (.iaload, 1) := by decide +kernel
theorem dX2_round_44 : decode cX2_round 44 = .ok (.if_icmp .ge 27, 3) := by decide +kernel
theorem dX2_round_47 : decode cX2_round 47 = .ok (.aload_n 0, 1) := by decide +kernel
theorem dX2_round_48 : decode cX2_round 48 = .ok (.getfield 13, 3) := by decide +kernel
theorem dX2_round_51 : decode cX2_round 51 = .ok (.sipush 2800, 3) := by decide +kernel
theorem dX2_round_54 : decode cX2_round 54 = .ok (.iload_n 2, 1) := by decide +kernel
theorem dX2_round_55 : decode cX2_round 55 = .ok (.iadd, 1) := by decide +kernel
theorem dX2_round_56 : decode cX2_round 56 = .ok (.aload_n 0, 1) := by decide +kernel
theorem dX2_round_57 : decode cX2_round 57 = .ok (.sipush 1400, 3) := by decide +kernel
theorem dX2_round_60 : decode cX2_round 60 = .ok (.iload_n 2, 1) := by decide +kernel
theorem dX2_round_61 : decode cX2_round 61 = .ok (.invokevirtual 33, 3) := by decide +kernel
theorem dX2_round_64 : decode cX2_round 64 = .ok (.iastore, 1) := by decide +kernel
theorem dX2_round_65 : decode cX2_round 65 = .ok (.iinc 2 1, 3) := by decide +kernel
theorem dX2_round_68 : decode cX2_round 68 = .ok (.goto (-33), 3) := by decide +kernel
theorem dX2_round_71 : decode cX2_round 71 = .ok (.iload_n 1, 1) := by decide +kernel
theorem dX2_round_72 : decode cX2_round 72 = .ok (.ifCond .ge 4, 3) := by decide +kernel
theorem dX2_round_75 : decode cX2_round 75 = .ok (.return_, 1) := by decide +kernel
theorem dX2_round_76 : decode cX2_round 76 = .ok (.aload_n 0, 1) := by decide +kernel
theorem dX2_round_77 : decode cX2_round 77 = .ok (.sipush 1400, 3) := by decide +kernel
theorem dX2_round_80 : decode cX2_round 80 = .ok (.iload_n 1, 1) := by decide +kernel
theorem dX2_round_81 : decode cX2_round 81 = .ok (.invokevirtual 33, 3) := by decide +kernel
theorem dX2_round_84 : decode cX2_round 84 = .ok (.istore_n 2, 1) := by decide +kernel
theorem dX2_round_85 : decode cX2_round 85 = .ok (.iconst 0, 1) := by decide +kernel
theorem dX2_round_86 : decode cX2_round 86 = .ok (.istore_n 3, 1) := by decide +kernel
theorem dX2_round_87 : decode cX2_round 87 = .ok (.iload_n 1, 1) := by decide +kernel
theorem dX2_round_88 : decode cX2_round 88 = .ok (.iconst 1, 1) := by decide +kernel
theorem dX2_round_89 : decode cX2_round 89 = .ok (.iadd, 1) := by decide +kernel
theorem dX2_round_90 : decode cX2_round 90 = .ok (.istore 4, 2) := by decide +kernel
theorem dX2_round_92 : decode cX2_round 92 = .ok (.iload 4, 2) := by decide +kernel
theorem dX2_round_94 : decode cX2_round 94 = .ok (.aload_n 0, 1) := by decide +kernel
theorem dX2_round_95 : decode cX2_round 95 = .ok (.getfield 16, 3) := by decide +kernel
theorem dX2_round_98 : decode cX2_round 98 = .ok (.sipush 1400, 3) := by decide +kernel
theorem dX2_round_101 : decode cX2_round 101 = .ok (.iaload, 1) := by decide +kernel
theorem dX2_round_102 : decode cX2_round 102 = .ok (.if_icmp .ge 25, 3) := by decide +kernel
theorem dX2_round_105 : decode cX2_round 105 = .ok (.aload_n 0, 1) := by decide +kernel
theorem dX2_round_106 : decode cX2_round 106 = .ok (.getfield 13, 3) := by decide +kernel
theorem dX2_round_109 : decode cX2_round 109 = .ok (.sipush 1400, 3) := by decide +kernel
theorem dX2_round_112 : decode cX2_round 112 = .ok (.iload 4, 2) := by decide +kernel
theorem dX2_round_114 : decode cX2_round 114 = .ok (.iadd, 1) := by decide +kernel
theorem dX2_round_115 : decode cX2_round 115 = .ok (.iaload, 1) := by decide +kernel
theorem dX2_round_116 : decode cX2_round 116 = .ok (.ifCond .eq 5, 3) := by decide +kernel
theorem dX2_round_119 : decode cX2_round 119 = .ok (.iconst 1, 1) := by decide +kernel
theorem dX2_round_120 : decode cX2_round 120 = .ok (.istore_n 3, 1) := by decide +kernel
theorem dX2_round_121 : decode cX2_round 121 = .ok (.iinc 4 1, 3) := by decide +kernel
theorem dX2_round_124 : decode cX2_round 124 = .ok (.goto (-32), 3) := by decide +kernel
theorem dX2_round_127 : decode cX2_round 127 = .ok (.iload_n 1, 1) := by decide +kernel
theorem dX2_round_128 : decode cX2_round 128 = .ok (.ifCond .le 25, 3) := by decide +kernel
theorem dX2_round_131 : decode cX2_round 131 = .ok (.aload_n 0, 1) := by decide +kernel
theorem dX2_round_132 : decode cX2_round 132 = .ok (.getfield 13, 3) := by decide +kernel
theorem dX2_round_135 : decode cX2_round 135 = .ok (.sipush 2800, 3) := by decide +kernel
theorem dX2_round_138 : decode cX2_round 138 = .ok (.iload_n 1, 1) := by decide +kernel
theorem dX2_round_139 : decode cX2_round 139 = .ok (.iadd, 1) := by decide +kernel
theorem dX2_round_140 : decode cX2_round 140 = .ok (.iconst 1, 1) := by decide +kernel
theorem dX2_round_141 : decode cX2_round 141 = .ok (.isub, 1) := by decide +kernel
theorem dX2_round_142 : decode cX2_round 142 = .ok (.iaload, 1) := by decide +kernel
theorem dX2_round_143 : decode cX2_round 143 = .ok (.iconst 2, 1) := by decide +kernel
theorem dX2_round_144 : decode cX2_round 144 = .ok (.irem, 1) := by decide +kernel
theorem dX2_round_145 : decode cX2_round 145 = .ok (.iconst 1, 1) := by decide +kernel
theorem dX2_round_146 : decode cX2_round 146 = .ok (.if_icmp .ne 7, 3) := by decide +kernel
theorem dX2_round_149 : decode cX2_round 149 = .ok (.iconst 1, 1) := by decide +kernel
theorem dX2_round_150 : decode cX2_round 150 = .ok (.goto 4, 3) := by decide +kernel
theorem dX2_round_153 : decode cX2_round 153 = .ok (.iconst 0, 1) := by decide +kernel
theorem dX2_round_154 : decode cX2_round 154 = .ok (.istore 4, 2) := by decide +kernel
theorem dX2_round_156 : decode cX2_round 156 = .ok (.iload_n 2, 1) := by decide +kernel
theorem dX2_round_157 : decode cX2_round 157 = .ok (.iconst 5, 1) := by decide +kernel
theorem dX2_round_158 : decode cX2_round 158 = .ok (.if_icmp .lt 17, 3) := by decide +kernel
theorem dX2_round_161 : decode cX2_round 161 = .ok (.iload_n 2, 1) := by decide +kernel
theorem dX2_round_162 : decode cX2_round 162 = .ok (.iconst 5, 1) := by decide +kernel
theorem dX2_round_163 : decode cX2_round 163 = .ok (.if_icmp .ne 13, 3) := by decide +kernel
theorem dX2_round_166 : decode cX2_round 166 = .ok (.iload_n 3, 1) := by decide +kernel
theorem dX2_round_167 : decode cX2_round 167 = .ok (.ifCond .ne 9, 3) := by decide +kernel
theorem dX2_round_170 : decode cX2_round 170 = .ok (.iload 4, 2) := by decide +kernel
theorem dX2_round_172 : decode cX2_round 172 = .ok (.ifCond .ne 4, 3) := by decide +kernel
theorem dX2_round_175 : decode cX2_round 175 = .ok (.return_, 1) := by decide +kernel
theorem dX2_round_176 : decode cX2_round 176 = .ok (.aload_n 0, 1) := by decide +kernel
theorem dX2_round_177 : decode cX2_round 177 = .ok (.getfield 16, 3) := by decide +kernel
theorem dX2_round_180 : decode cX2_round 180 = .ok (.sipush 2800, 3) := by decide +kernel
theorem dX2_round_183 : decode cX2_round 183 = .ok (.iaload, 1) := by decide +kernel
theorem dX2_round_184 : decode cX2_round 184 = .ok (.iconst 1, 1) := by decide +kernel
theorem dX2_round_185 : decode cX2_round 185 = .ok (.isub, 1) := by decide +kernel
theorem dX2_round_186 : decode cX2_round 186 = .ok (.istore 5, 2) := by decide +kernel
theorem dX2_round_188 : decode cX2_round 188 = .ok (.iload 5, 2) := by decide +kernel
theorem dX2_round_190 : decode cX2_round 190 = .ok (.ifCond .lt 37, 3) := by decide +kernel
theorem dX2_round_193 : decode cX2_round 193 = .ok (.aload_n 0, 1) := by decide +kernel
theorem dX2_round_194 : decode cX2_round 194 = .ok (.getfield 13, 3) := by decide +kernel
theorem dX2_round_197 : decode cX2_round 197 = .ok (.sipush 2800, 3) := by decide +kernel
theorem dX2_round_200 : decode cX2_round 200 = .ok (.iload 5, 2) := by decide +kernel
theorem dX2_round_202 : decode cX2_round 202 = .ok (.iadd, 1) := by decide +kernel
theorem dX2_round_203 : decode cX2_round 203 = .ok (.iaload, 1) := by decide +kernel
theorem dX2_round_204 : decode cX2_round 204 = .ok (.bipush 9, 2) := by decide +kernel
theorem dX2_round_206 : decode cX2_round 206 = .ok (.if_icmp .ne 21, 3) := by decide +kernel
theorem dX2_round_209 : decode cX2_round 209 = .ok (.aload_n 0, 1) := by decide +kernel
theorem dX2_round_210 : decode cX2_round 210 = .ok (.getfield 13, 3) := by decide +kernel
theorem dX2_round_213 : decode cX2_round 213 = .ok (.sipush 2800, 3) := by decide +kernel
theorem dX2_round_216 : decode cX2_round 216 = .ok (.iload 5, 2) := by decide +kernel
theorem dX2_round_218 : decode cX2_round 218 = .ok (.iadd, 1) := by decide +kernel
theorem dX2_round_219 : decode cX2_round 219 = .ok (.iconst 0, 1) := by decide +kernel
theorem dX2_round_220 : decode cX2_round 220 = .ok (.iastore, 1) := by decide +kernel
theorem dX2_round_221 : decode cX2_round 221 = .ok (.iinc 5 (-1), 3) := by decide +kernel
theorem dX2_round_224 : decode cX2_round 224 = .ok (.goto (-36), 3) := by decide +kernel
theorem dX2_round_227 : decode cX2_round 227 = .ok (.iload 5, 2) := by decide +kernel
theorem dX2_round_229 : decode cX2_round 229 = .ok (.ifCond .lt 19, 3) := by decide +kernel
theorem dX2_round_232 : decode cX2_round 232 = .ok (.aload_n 0, 1) := by decide +kernel
theorem dX2_round_233 : decode cX2_round 233 = .ok (.getfield 13, 3) := by decide +kernel
theorem dX2_round_236 : decode cX2_round 236 = .ok (.sipush 2800, 3) := by decide +kernel
theorem dX2_round_239 : decode cX2_round 239 = .ok (.iload 5, 2) := by decide +kernel
theorem dX2_round_241 : decode cX2_round 241 = .ok (.iadd, 1) := by decide +kernel
theorem dX2_round_242 : decode cX2_round 242 = .ok (.dup2, 1) := by decide +kernel
theorem dX2_round_243 : decode cX2_round 243 = .ok (.iaload, 1) := by decide +kernel
theorem dX2_round_244 : decode cX2_round 244 = .ok (.iconst 1, 1) := by decide +kernel
theorem dX2_round_245 : decode cX2_round 245 = .ok (.iadd, 1) := by decide +kernel
theorem dX2_round_246 : decode cX2_round 246 = .ok (.iastore, 1) := by decide +kernel
theorem dX2_round_247 : decode cX2_round 247 = .ok (.return_, 1) := by decide +kernel
theorem dX2_round_248 : decode cX2_round 248 = .ok (.aload_n 0, 1) := by decide +kernel
theorem dX2_round_249 : decode cX2_round 249 = .ok (.getfield 16, 3) := by decide +kernel
theorem dX2_round_252 : decode cX2_round 252 = .ok (.sipush 2800, 3) := by decide +kernel
theorem dX2_round_255 : decode cX2_round 255 = .ok (.iaload, 1) := by decide +kernel
theorem dX2_round_256 : decode cX2_round 256 = .ok (.istore 6, 2) := by decide +kernel
theorem dX2_round_258 : decode cX2_round 258 = .ok (.iload 6, 2) := by decide +kernel
theorem dX2_round_260 : decode cX2_round 260 = .ok (.ifCond .le 33, 3) := by decide +kernel
theorem dX2_round_263 : decode cX2_round 263 = .ok (.aload_n 0, 1) := by decide +kernel
theorem dX2_round_264 : decode cX2_round 264 = .ok (.getfield 13, 3) := by decide +kernel
theorem dX2_round_267 : decode cX2_round 267 = .ok (.sipush 2800, 3) := by decide +kernel
theorem dX2_round_270 : decode cX2_round 270 = .ok (.iload 6, 2) := by decide +kernel
theorem dX2_round_272 : decode cX2_round 272 = .ok (.iadd, 1) := by decide +kernel
theorem dX2_round_273 : decode cX2_round 273 = .ok (.aload_n 0, 1) := by decide +kernel
theorem dX2_round_274 : decode cX2_round 274 = .ok (.getfield 13, 3) := by decide +kernel
theorem dX2_round_277 : decode cX2_round 277 = .ok (.sipush 2800, 3) := by decide +kernel
theorem dX2_round_280 : decode cX2_round 280 = .ok (.iload 6, 2) := by decide +kernel
theorem dX2_round_282 : decode cX2_round 282 = .ok (.iadd, 1) := by decide +kernel
theorem dX2_round_283 : decode cX2_round 283 = .ok (.iconst 1, 1) := by decide +kernel
theorem dX2_round_284 : decode cX2_round 284 = .ok (.isub, 1) := by decide +kernel
theorem dX2_round_285 : decode cX2_round 285 = .ok (.iaload, 1) := by decide +kernel
theorem dX2_round_286 : decode cX2_round 286 = .ok (.iastore, 1) := by decide +kernel
theorem dX2_round_287 : decode cX2_round 287 = .ok (.iinc 6 (-1), 3) := by decide +kernel
theorem dX2_round_290 : decode cX2_round 290 = .ok (.goto (-32), 3) := by decide +kernel
theorem dX2_round_293 : decode cX2_round 293 = .ok (.aload_n 0, 1) := by decide +kernel
theorem dX2_round_294 : decode cX2_round 294 = .ok (.getfield 13, 3) := by decide +kernel
theorem dX2_round_297 : decode cX2_round 297 = .ok (.sipush 2800, 3) := by decide +kernel
theorem dX2_round_300 : decode cX2_round 300 = .ok (.iconst 1, 1) := by decide +kernel
theorem dX2_round_301 : decode cX2_round 301 = .ok (.iastore, 1) := by decide +kernel
theorem dX2_round_302 : decode cX2_round 302 = .ok (.aload_n 0, 1) := by decide +kernel
theorem dX2_round_303 : decode cX2_round 303 = .ok (.getfield 16, 3) := by decide +kernel
theorem dX2_round_306 : decode cX2_round 306 = .ok (.sipush 2800, 3) := by decide +kernel
theorem dX2_round_309 : decode cX2_round 309 = .ok (.dup2, 1) := by decide +kernel
theorem dX2_round_310 : decode cX2_round 310 = .ok (.iaload, 1) := by decide +kernel
theorem dX2_round_311 : decode cX2_round 311 = .ok (.iconst 1, 1) := by decide +kernel
theorem dX2_round_312 : decode cX2_round 312 = .ok (.iadd, 1) := by decide +kernel
theorem dX2_round_313 : decode cX2_round 313 = .ok (.iastore, 1) := by decide +kernel
theorem dX2_round_314 : decode cX2_round 314 = .ok (.aload_n 0, 1) := by decide +kernel
theorem dX2_round_315 : decode cX2_round 315 = .ok (.getfield 19, 3) := by decide +kernel
theorem dX2_round_318 : decode cX2_round 318 = .ok (.sipush 2800, 3) := by decide +kernel
theorem dX2_round_321 : decode cX2_round 321 = .ok (.dup2, 1) := by decide +kernel
theorem dX2_round_322 : decode cX2_round 322 = .ok (.iaload, 1) := by decide +kernel
theorem dX2_round_323 : decode cX2_round 323 = .ok (.iconst 1, 1) := by decide +kernel
theorem dX2_round_324 : decode cX2_round 324 = .ok (.iadd, 1) := by decide +kernel
theorem dX2_round_325 : decode cX2_round 325 = .ok (.iastore, 1) := by decide +kernel
theorem dX2_round_326 : decode cX2_round 326 = .ok (.return_, 1) := by decide +kernel
theorem dX2_against_0 : decode cX2_against 0 = .ok (.aload_n 0, 1) := by decide +kernel
theorem dX2_against_1 : decode cX2_against 1 = .ok (.getfield 16, 3) := by decide +kernel
theorem dX2_against_4 : decode cX2_against 4 = .ok (.iload_n 1, 1) := by decide +kernel
theorem dX2_against_5 : decode cX2_against 5 = .ok (.iaload, 1) := by decide +kernel
theorem dX2_against_6 : decode cX2_against 6 = .ok (.ifCond .eq 12, 3) := by decide +kernel
theorem dX2_against_9 : decode cX2_against 9 = .ok (.aload_n 0, 1) := by decide +kernel
theorem dX2_against_10 : decode cX2_against 10 = .ok (.getfield 16, 3) := by decide +kernel
theorem dX2_against_13 : decode cX2_against 13 = .ok (.iload_n 2, 1) := by decide +kernel
theorem dX2_against_14 : decode cX2_against 14 = .ok (.iaload, 1) := by decide +kernel
theorem dX2_against_15 : decode cX2_against 15 = .ok (.ifCond .ne 31, 3) := by decide +kernel
theorem dX2_against_18 : decode cX2_against 18 = .ok (.aload_n 0, 1) := by decide +kernel
theorem dX2_against_19 : decode cX2_against 19 = .ok (.getfield 16, 3) := by decide +kernel
theorem dX2_against_22 : decode cX2_against 22 = .ok (.iload_n 1, 1) := by decide +kernel
theorem dX2_against_23 : decode cX2_against 23 = .ok (.iaload, 1) := by decide +kernel
theorem dX2_against_24 : decode cX2_against 24 = .ok (.ifCond .ne 20, 3) := by decide +kernel
theorem dX2_against_27 : decode cX2_against 27 = .ok (.aload_n 0, 1) := by decide +kernel
theorem dX2_against_28 : decode cX2_against 28 = .ok (.getfield 16, 3) := by decide +kernel
theorem dX2_against_31 : decode cX2_against 31 = .ok (.iload_n 2, 1) := by decide +kernel
theorem dX2_against_32 : decode cX2_against 32 = .ok (.iaload, 1) := by decide +kernel
theorem dX2_against_33 : decode cX2_against 33 = .ok (.ifCond .ne 7, 3) := by decide +kernel
theorem dX2_against_36 : decode cX2_against 36 = .ok (.iconst 0, 1) := by decide +kernel
theorem dX2_against_37 : decode cX2_against 37 = .ok (.goto 8, 3) := by decide +kernel
theorem dX2_against_40 : decode cX2_against 40 = .ok (.iconst (-1), 1) := by decide +kernel
theorem dX2_against_41 : decode cX2_against 41 = .ok (.goto 4, 3) := by decide +kernel
theorem dX2_against_44 : decode cX2_against 44 = .ok (.iconst 1, 1) := by decide +kernel
theorem dX2_against_45 : decode cX2_against 45 = .ok (.ireturn, 1) := by decide +kernel
theorem dX2_against_46 : decode cX2_against 46 = .ok (.aload_n 0, 1) := by decide +kernel
theorem dX2_against_47 : decode cX2_against 47 = .ok (.getfield 19, 3) := by decide +kernel
theorem dX2_against_50 : decode cX2_against 50 = .ok (.iload_n 1, 1) := by decide +kernel
theorem dX2_against_51 : decode cX2_against 51 = .ok (.iaload, 1) := by decide +kernel
theorem dX2_against_52 : decode cX2_against 52 = .ok (.aload_n 0, 1) := by decide +kernel
theorem dX2_against_53 : decode cX2_against 53 = .ok (.getfield 19, 3) := by decide +kernel
theorem dX2_against_56 : decode cX2_against 56 = .ok (.iload_n 2, 1) := by decide +kernel
theorem dX2_against_57 : decode cX2_against 57 = .ok (.iaload, 1) := by decide +kernel
theorem dX2_against_58 : decode cX2_against 58 = .ok (.if_icmp .eq 24, 3) := by decide +kernel
theorem dX2_against_61 : decode cX2_against 61 = .ok (.aload_n 0, 1) := by decide +kernel
theorem dX2_against_62 : decode cX2_against 62 = .ok (.getfield 19, 3) := by decide +kernel
theorem dX2_against_65 : decode cX2_against 65 = .ok (.iload_n 1, 1) := by decide +kernel
theorem dX2_against_66 : decode cX2_against 66 = .ok (.iaload, 1) := by decide +kernel
theorem dX2_against_67 : decode cX2_against 67 = .ok (.aload_n 0, 1) := by decide +kernel
theorem dX2_against_68 : decode cX2_against 68 = .ok (.getfield 19, 3) := by decide +kernel
theorem dX2_against_71 : decode cX2_against 71 = .ok (.iload_n 2, 1) := by decide +kernel
theorem dX2_against_72 : decode cX2_against 72 = .ok (.iaload, 1) := by decide +kernel
theorem dX2_against_73 : decode cX2_against 73 = .ok (.if_icmp .ge 7, 3) := by decide +kernel
theorem dX2_against_76 : decode cX2_against 76 = .ok (.iconst (-1), 1) := by decide +kernel
theorem dX2_against_77 : decode cX2_against 77 = .ok (.goto 4, 3) := by decide +kernel
theorem dX2_against_80 : decode cX2_against 80 = .ok (.iconst 1, 1) := by decide +kernel
theorem dX2_against_81 : decode cX2_against 81 = .ok (.ireturn, 1) := by decide +kernel
theorem dX2_against_82 : decode cX2_against 82 = .ok (.iconst 0, 1) := by decide +kernel
theorem dX2_against_83 : decode cX2_against 83 = .ok (.istore_n 3, 1) := by decide +kernel
theorem dX2_against_84 : decode cX2_against 84 = .ok (.iload_n 3, 1) := by decide +kernel
theorem dX2_against_85 : decode cX2_against 85 = .ok (.aload_n 0, 1) := by decide +kernel
theorem dX2_against_86 : decode cX2_against 86 = .ok (.getfield 16, 3) := by decide +kernel
theorem dX2_against_89 : decode cX2_against 89 = .ok (.iload_n 1, 1) := by decide +kernel
theorem dX2_against_90 : decode cX2_against 90 = .ok (.iaload, 1) := by decide +kernel
theorem dX2_against_91 : decode cX2_against 91 = .ok (.if_icmp .lt 13, 3) := by decide +kernel
theorem dX2_against_94 : decode cX2_against 94 = .ok (.iload_n 3, 1) := by decide +kernel
theorem dX2_against_95 : decode cX2_against 95 = .ok (.aload_n 0, 1) := by decide +kernel
theorem dX2_against_96 : decode cX2_against 96 = .ok (.getfield 16, 3) := by decide +kernel
theorem dX2_against_99 : decode cX2_against 99 = .ok (.iload_n 2, 1) := by decide +kernel
theorem dX2_against_100 : decode cX2_against 100 = .ok (.iaload, 1) := by decide +kernel
theorem dX2_against_101 : decode cX2_against 101 = .ok (.if_icmp .ge 45, 3) := by decide +kernel
theorem dX2_against_104 : decode cX2_against 104 = .ok (.aload_n 0, 1) := by decide +kernel
theorem dX2_against_105 : decode cX2_against 105 = .ok (.iload_n 1, 1) := by decide +kernel
theorem dX2_against_106 : decode cX2_against 106 = .ok (.iload_n 3, 1) := by decide +kernel
theorem dX2_against_107 : decode cX2_against 107 = .ok (.invokevirtual 33, 3) := by decide +kernel
theorem dX2_against_110 : decode cX2_against 110 = .ok (.aload_n 0, 1) := by decide +kernel
theorem dX2_against_111 : decode cX2_against 111 = .ok (.iload_n 2, 1) := by decide +kernel
theorem dX2_against_112 : decode cX2_against 112 = .ok (.iload_n 3, 1) := by decide +kernel
theorem dX2_against_113 : decode cX2_against 113 = .ok (.invokevirtual 33, 3) := by decide +kernel
theorem dX2_against_116 : decode cX2_against 116 = .ok (.if_icmp .eq 24, 3) := by decide +kernel
theorem dX2_against_119 : decode cX2_against 119 = .ok (.aload_n 0, 1) := by decide +kernel
theorem dX2_against_120 : decode cX2_against 120 = .ok (.iload_n 1, 1) := by decide +kernel
theorem dX2_against_121 : decode cX2_against 121 = .ok (.iload_n 3, 1) := by decide +kernel
theorem dX2_against_122 : decode cX2_against 122 = .ok (.invokevirtual 33, 3) := by decide +kernel
theorem dX2_against_125 : decode cX2_against 125 = .ok (.aload_n 0, 1) := by decide +kernel
theorem dX2_against_126 : decode cX2_against 126 = .ok (.iload_n 2, 1) := by decide +kernel
theorem dX2_against_127 : decode cX2_against 127 = .ok (.iload_n 3, 1) := by decide +kernel
theorem dX2_against_128 : decode cX2_against 128 = .ok (.invokevirtual 33, 3) := by decide +kernel
theorem dX2_against_131 : decode cX2_against 131 = .ok (.if_icmp .ge 7, 3) := by decide +kernel
theorem dX2_against_134 : decode cX2_against 134 = .ok (.iconst (-1), 1) := by decide +kernel
theorem dX2_against_135 : decode cX2_against 135 = .ok (.goto 4, 3) := by decide +kernel
theorem dX2_against_138 : decode cX2_against 138 = .ok (.iconst 1, 1) := by decide +kernel
theorem dX2_against_139 : decode cX2_against 139 = .ok (.ireturn, 1) := by decide +kernel
theorem dX2_against_140 : decode cX2_against 140 = .ok (.iinc 3 1, 3) := by decide +kernel
theorem dX2_against_143 : decode cX2_against 143 = .ok (.goto (-59), 3) := by decide +kernel
theorem dX2_against_146 : decode cX2_against 146 = .ok (.iconst 0, 1) := by decide +kernel
theorem dX2_against_147 : decode cX2_against 147 = .ok (.ireturn, 1) := by decide +kernel
theorem dX2_times_0 : decode cX2_times 0 = .ok (.lconst 0, 1) := by decide +kernel
theorem dX2_times_1 : decode cX2_times 1 = .ok (.lstore_n 3, 1) := by decide +kernel
theorem dX2_times_2 : decode cX2_times 2 = .ok (.iconst 0, 1) := by decide +kernel
theorem dX2_times_3 : decode cX2_times 3 = .ok (.istore 5, 2) := by decide +kernel
theorem dX2_times_5 : decode cX2_times 5 = .ok (.iload 5, 2) := by decide +kernel
theorem dX2_times_7 : decode cX2_times 7 = .ok (.aload_n 0, 1) := by decide +kernel
theorem dX2_times_8 : decode cX2_times 8 = .ok (.getfield 37, 3) := by decide +kernel
theorem dX2_times_11 : decode cX2_times 11 = .ok (.if_icmp .ge 39, 3) := by decide +kernel
theorem dX2_times_14 : decode cX2_times 14 = .ok (.lload_n 3, 1) := by decide +kernel
theorem dX2_times_15 : decode cX2_times 15 = .ok (.aload_n 0, 1) := by decide +kernel
theorem dX2_times_16 : decode cX2_times 16 = .ok (.getfield 22, 3) := by decide +kernel
theorem dX2_times_19 : decode cX2_times 19 = .ok (.iload 5, 2) := by decide +kernel
theorem dX2_times_21 : decode cX2_times 21 = .ok (.laload, 1) := by decide +kernel
theorem dX2_times_22 : decode cX2_times 22 = .ok (.lload_n 1, 1) := by decide +kernel
theorem dX2_times_23 : decode cX2_times 23 = .ok (.lmul, 1) := by decide +kernel
theorem dX2_times_24 : decode cX2_times 24 = .ok (.ladd, 1) := by decide +kernel
theorem dX2_times_25 : decode cX2_times 25 = .ok (.lstore_n 3, 1) := by decide +kernel
theorem dX2_times_26 : decode cX2_times 26 = .ok (.aload_n 0, 1) := by decide +kernel
theorem dX2_times_27 : decode cX2_times 27 = .ok (.getfield 22, 3) := by decide +kernel
theorem dX2_times_30 : decode cX2_times 30 = .ok (.iload 5, 2) := by decide +kernel
theorem dX2_times_32 : decode cX2_times 32 = .ok (.lload_n 3, 1) := by decide +kernel
theorem dX2_times_33 : decode cX2_times 33 = .ok (.ldc2_w 40, 3) := by decide +kernel
theorem dX2_times_36 : decode cX2_times 36 = .ok (.lrem, 1) := by decide +kernel
theorem dX2_times_37 : decode cX2_times 37 = .ok (.lastore, 1) := by decide +kernel
theorem dX2_times_38 : decode cX2_times 38 = .ok (.lload_n 3, 1) := by decide +kernel
theorem dX2_times_39 : decode cX2_times 39 = .ok (.ldc2_w 40, 3) := by decide +kernel
theorem dX2_times_42 : decode cX2_times 42 = .ok (.ldiv, 1) := by decide +kernel
theorem dX2_times_43 : decode cX2_times 43 = .ok (.lstore_n 3, 1) := by decide +kernel
theorem dX2_times_44 : decode cX2_times 44 = .ok (.iinc 5 1, 3) := by decide +kernel
theorem dX2_times_47 : decode cX2_times 47 = .ok (.goto (-42), 3) := by decide +kernel
theorem dX2_times_50 : decode cX2_times 50 = .ok (.lload_n 3, 1) := by decide +kernel
theorem dX2_times_51 : decode cX2_times 51 = .ok (.lconst 0, 1) := by decide +kernel
theorem dX2_times_52 : decode cX2_times 52 = .ok (.lcmp, 1) := by decide +kernel
theorem dX2_times_53 : decode cX2_times 53 = .ok (.ifCond .le 23, 3) := by decide +kernel
theorem dX2_times_56 : decode cX2_times 56 = .ok (.aload_n 0, 1) := by decide +kernel
theorem dX2_times_57 : decode cX2_times 57 = .ok (.getfield 22, 3) := by decide +kernel
theorem dX2_times_60 : decode cX2_times 60 = .ok (.aload_n 0, 1) := by decide +kernel
theorem dX2_times_61 : decode cX2_times 61 = .ok (.getfield 37, 3) := by decide +kernel
theorem dX2_times_64 : decode cX2_times 64 = .ok (.lload_n 3, 1) := by decide +kernel
theorem dX2_times_65 : decode cX2_times 65 = .ok (.lastore, 1) := by decide +kernel
theorem dX2_times_66 : decode cX2_times 66 = .ok (.aload_n 0, 1) := by decide +kernel
theorem dX2_times_67 : decode cX2_times 67 = .ok (.dup, 1) := by decide +kernel
theorem dX2_times_68 : decode cX2_times 68 = .ok (.getfield 37, 3) := by decide +kernel
theorem dX2_times_71 : decode cX2_times 71 = .ok (.iconst 1, 1) := by decide +kernel
theorem dX2_times_72 : decode cX2_times 72 = .ok (.iadd, 1) := by decide +kernel
theorem dX2_times_73 : decode cX2_times 73 = .ok (.putfield 37, 3) := by decide +kernel
theorem dX2_times_76 : decode cX2_times 76 = .ok (.return_, 1) := by decide +kernel
theorem dX2_row_0 : decode cX2_row 0 = .ok (.aload_n 0, 1) := by decide +kernel
theorem dX2_row_1 : decode cX2_row 1 = .ok (.iconst 0, 1) := by decide +kernel
theorem dX2_row_2 : decode cX2_row 2 = .ok (.putfield 37, 3) := by decide +kernel
theorem dX2_row_5 : decode cX2_row 5 = .ok (.lload_n 1, 1) := by decide +kernel
theorem dX2_row_6 : decode cX2_row 6 = .ok (.lstore 5, 2) := by decide +kernel
theorem dX2_row_8 : decode cX2_row 8 = .ok (.lload 5, 2) := by decide +kernel
theorem dX2_row_10 : decode cX2_row 10 = .ok (.lconst 0, 1) := by decide +kernel
theorem dX2_row_11 : decode cX2_row 11 = .ok (.lcmp, 1) := by decide +kernel
theorem dX2_row_12 : decode cX2_row 12 = .ok (.ifCond .le 39, 3) := by decide +kernel
theorem dX2_row_15 : decode cX2_row 15 = .ok (.aload_n 0, 1) := by decide +kernel
theorem dX2_row_16 : decode cX2_row 16 = .ok (.getfield 22, 3) := by decide +kernel
theorem dX2_row_19 : decode cX2_row 19 = .ok (.aload_n 0, 1) := by decide +kernel
theorem dX2_row_20 : decode cX2_row 20 = .ok (.getfield 37, 3) := by decide +kernel
theorem dX2_row_23 : decode cX2_row 23 = .ok (.lload 5, 2) := by decide +kernel
theorem dX2_row_25 : decode cX2_row 25 = .ok (.ldc2_w 40, 3) := by decide +kernel
theorem dX2_row_28 : decode cX2_row 28 = .ok (.lrem, 1) := by decide +kernel
theorem dX2_row_29 : decode cX2_row 29 = .ok (.lastore, 1) := by decide +kernel
theorem dX2_row_30 : decode cX2_row 30 = .ok (.aload_n 0, 1) := by decide +kernel
theorem dX2_row_31 : decode cX2_row 31 = .ok (.dup, 1) := by decide +kernel
theorem dX2_row_32 : decode cX2_row 32 = .ok (.getfield 37, 3) := by decide +kernel
theorem dX2_row_35 : decode cX2_row 35 = .ok (.iconst 1, 1) := by decide +kernel
theorem dX2_row_36 : decode cX2_row 36 = .ok (.iadd, 1) := by decide +kernel
theorem dX2_row_37 : decode cX2_row 37 = .ok (.putfield 37, 3) := by decide +kernel
theorem dX2_row_40 : decode cX2_row 40 = .ok (.lload 5, 2) := by decide +kernel
theorem dX2_row_42 : decode cX2_row 42 = .ok (.ldc2_w 40, 3) := by decide +kernel
theorem dX2_row_45 : decode cX2_row 45 = .ok (.ldiv, 1) := by decide +kernel
theorem dX2_row_46 : decode cX2_row 46 = .ok (.lstore 5, 2) := by decide +kernel
theorem dX2_row_48 : decode cX2_row 48 = .ok (.goto (-40), 3) := by decide +kernel
theorem dX2_row_51 : decode cX2_row 51 = .ok (.iconst 0, 1) := by decide +kernel
theorem dX2_row_52 : decode cX2_row 52 = .ok (.istore 5, 2) := by decide +kernel
theorem dX2_row_54 : decode cX2_row 54 = .ok (.iload 5, 2) := by decide +kernel
theorem dX2_row_56 : decode cX2_row 56 = .ok (.iload_n 3, 1) := by decide +kernel
theorem dX2_row_57 : decode cX2_row 57 = .ok (.bipush 29, 2) := by decide +kernel
theorem dX2_row_59 : decode cX2_row 59 = .ok (.idiv, 1) := by decide +kernel
theorem dX2_row_60 : decode cX2_row 60 = .ok (.if_icmp .ge 16, 3) := by decide +kernel
theorem dX2_row_63 : decode cX2_row 63 = .ok (.aload_n 0, 1) := by decide +kernel
theorem dX2_row_64 : decode cX2_row 64 = .ok (.ldc2_w 42, 3) := by decide +kernel
theorem dX2_row_67 : decode cX2_row 67 = .ok (.invokevirtual 44, 3) := by decide +kernel
theorem dX2_row_70 : decode cX2_row 70 = .ok (.iinc 5 1, 3) := by decide +kernel
theorem dX2_row_73 : decode cX2_row 73 = .ok (.goto (-19), 3) := by decide +kernel
theorem dX2_row_76 : decode cX2_row 76 = .ok (.iload_n 3, 1) := by decide +kernel
theorem dX2_row_77 : decode cX2_row 77 = .ok (.ifCond .le 13, 3) := by decide +kernel
theorem dX2_row_80 : decode cX2_row 80 = .ok (.aload_n 0, 1) := by decide +kernel
theorem dX2_row_81 : decode cX2_row 81 = .ok (.lconst 1, 1) := by decide +kernel
theorem dX2_row_82 : decode cX2_row 82 = .ok (.iload_n 3, 1) := by decide +kernel
theorem dX2_row_83 : decode cX2_row 83 = .ok (.bipush 29, 2) := by decide +kernel
theorem dX2_row_85 : decode cX2_row 85 = .ok (.irem, 1) := by decide +kernel
theorem dX2_row_86 : decode cX2_row 86 = .ok (.lshl, 1) := by decide +kernel
theorem dX2_row_87 : decode cX2_row 87 = .ok (.invokevirtual 44, 3) := by decide +kernel
theorem dX2_row_90 : decode cX2_row 90 = .ok (.iconst 0, 1) := by decide +kernel
theorem dX2_row_91 : decode cX2_row 91 = .ok (.istore 5, 2) := by decide +kernel
theorem dX2_row_93 : decode cX2_row 93 = .ok (.iload 5, 2) := by decide +kernel
theorem dX2_row_95 : decode cX2_row 95 = .ok (.iload_n 3, 1) := by decide +kernel
theorem dX2_row_96 : decode cX2_row 96 = .ok (.ineg, 1) := by decide +kernel
theorem dX2_row_97 : decode cX2_row 97 = .ok (.bipush 12, 2) := by decide +kernel
theorem dX2_row_99 : decode cX2_row 99 = .ok (.idiv, 1) := by decide +kernel
theorem dX2_row_100 : decode cX2_row 100 = .ok (.if_icmp .ge 16, 3) := by decide +kernel
theorem dX2_row_103 : decode cX2_row 103 = .ok (.aload_n 0, 1) := by decide +kernel
theorem dX2_row_104 : decode cX2_row 104 = .ok (.ldc2_w 48, 3) := by decide +kernel
theorem dX2_row_107 : decode cX2_row 107 = .ok (.invokevirtual 44, 3) := by decide +kernel
theorem dX2_row_110 : decode cX2_row 110 = .ok (.iinc 5 1, 3) := by decide +kernel
theorem dX2_row_113 : decode cX2_row 113 = .ok (.goto (-20), 3) := by decide +kernel
theorem dX2_row_116 : decode cX2_row 116 = .ok (.iconst 0, 1) := by decide +kernel
theorem dX2_row_117 : decode cX2_row 117 = .ok (.istore 5, 2) := by decide +kernel
theorem dX2_row_119 : decode cX2_row 119 = .ok (.iload 5, 2) := by decide +kernel
theorem dX2_row_121 : decode cX2_row 121 = .ok (.iload_n 3, 1) := by decide +kernel
theorem dX2_row_122 : decode cX2_row 122 = .ok (.ifCond .ge 11, 3) := by decide +kernel
theorem dX2_row_125 : decode cX2_row 125 = .ok (.iload_n 3, 1) := by decide +kernel
theorem dX2_row_126 : decode cX2_row 126 = .ok (.ineg, 1) := by decide +kernel
theorem dX2_row_127 : decode cX2_row 127 = .ok (.bipush 12, 2) := by decide +kernel
theorem dX2_row_129 : decode cX2_row 129 = .ok (.irem, 1) := by decide +kernel
theorem dX2_row_130 : decode cX2_row 130 = .ok (.goto 4, 3) := by decide +kernel
theorem dX2_row_133 : decode cX2_row 133 = .ok (.iconst 0, 1) := by decide +kernel
theorem dX2_row_134 : decode cX2_row 134 = .ok (.if_icmp .ge 16, 3) := by decide +kernel
theorem dX2_row_137 : decode cX2_row 137 = .ok (.aload_n 0, 1) := by decide +kernel
theorem dX2_row_138 : decode cX2_row 138 = .ok (.ldc2_w 50, 3) := by decide +kernel
theorem dX2_row_141 : decode cX2_row 141 = .ok (.invokevirtual 44, 3) := by decide +kernel
theorem dX2_row_144 : decode cX2_row 144 = .ok (.iinc 5 1, 3) := by decide +kernel
theorem dX2_row_147 : decode cX2_row 147 = .ok (.goto (-28), 3) := by decide +kernel
theorem dX2_row_150 : decode cX2_row 150 = .ok (.aload_n 0, 1) := by decide +kernel
theorem dX2_row_151 : decode cX2_row 151 = .ok (.getfield 16, 3) := by decide +kernel
theorem dX2_row_154 : decode cX2_row 154 = .ok (.iload 4, 2) := by decide +kernel
theorem dX2_row_156 : decode cX2_row 156 = .ok (.iconst 0, 1) := by decide +kernel
theorem dX2_row_157 : decode cX2_row 157 = .ok (.iastore, 1) := by decide +kernel
theorem dX2_row_158 : decode cX2_row 158 = .ok (.aload_n 0, 1) := by decide +kernel
theorem dX2_row_159 : decode cX2_row 159 = .ok (.getfield 37, 3) := by decide +kernel
theorem dX2_row_162 : decode cX2_row 162 = .ok (.iconst 1, 1) := by decide +kernel
theorem dX2_row_163 : decode cX2_row 163 = .ok (.isub, 1) := by decide +kernel
theorem dX2_row_164 : decode cX2_row 164 = .ok (.istore 5, 2) := by decide +kernel
theorem dX2_row_166 : decode cX2_row 166 = .ok (.iload 5, 2) := by decide +kernel
theorem dX2_row_168 : decode cX2_row 168 = .ok (.ifCond .lt 53, 3) := by decide +kernel
theorem dX2_row_171 : decode cX2_row 171 = .ok (.ldc2_w 52, 3) := by decide +kernel
theorem dX2_row_174 : decode cX2_row 174 = .ok (.lstore 6, 2) := by decide +kernel
theorem dX2_row_176 : decode cX2_row 176 = .ok (.lload 6, 2) := by decide +kernel
theorem dX2_row_178 : decode cX2_row 178 = .ok (.lconst 0, 1) := by decide +kernel
theorem dX2_row_179 : decode cX2_row 179 = .ok (.lcmp, 1) := by decide +kernel
theorem dX2_row_180 : decode cX2_row 180 = .ok (.ifCond .le 35, 3) := by decide +kernel
theorem dX2_row_183 : decode cX2_row 183 = .ok (.aload_n 0, 1) := by decide +kernel
theorem dX2_row_184 : decode cX2_row 184 = .ok (.iload 4, 2) := by decide +kernel
theorem dX2_row_186 : decode cX2_row 186 = .ok (.aload_n 0, 1) := by decide +kernel
theorem dX2_row_187 : decode cX2_row 187 = .ok (.getfield 22, 3) := by decide +kernel
theorem dX2_row_190 : decode cX2_row 190 = .ok (.iload 5, 2) := by decide +kernel
theorem dX2_row_192 : decode cX2_row 192 = .ok (.laload, 1) := by decide +kernel
theorem dX2_row_193 : decode cX2_row 193 = .ok (.lload 6, 2) := by decide +kernel
theorem dX2_row_195 : decode cX2_row 195 = .ok (.ldiv, 1) := by decide +kernel
theorem dX2_row_196 : decode cX2_row 196 = .ok (.ldc2_w 54, 3) := by decide +kernel
theorem dX2_row_199 : decode cX2_row 199 = .ok (.lrem, 1) := by decide +kernel
theorem dX2_row_200 : decode cX2_row 200 = .ok (.l2i, 1) := by decide +kernel
theorem dX2_row_201 : decode cX2_row 201 = .ok (.invokevirtual 56, 3) := by decide +kernel
theorem dX2_row_204 : decode cX2_row 204 = .ok (.lload 6, 2) := by decide +kernel
theorem dX2_row_206 : decode cX2_row 206 = .ok (.ldc2_w 54, 3) := by decide +kernel
theorem dX2_row_209 : decode cX2_row 209 = .ok (.ldiv, 1) := by decide +kernel
theorem dX2_row_210 : decode cX2_row 210 = .ok (.lstore 6, 2) := by decide +kernel
theorem dX2_row_212 : decode cX2_row 212 = .ok (.goto (-36), 3) := by decide +kernel
theorem dX2_row_215 : decode cX2_row 215 = .ok (.iinc 5 (-1), 3) := by decide +kernel
theorem dX2_row_218 : decode cX2_row 218 = .ok (.goto (-52), 3) := by decide +kernel
theorem dX2_row_221 : decode cX2_row 221 = .ok (.aload_n 0, 1) := by decide +kernel
theorem dX2_row_222 : decode cX2_row 222 = .ok (.getfield 19, 3) := by decide +kernel
theorem dX2_row_225 : decode cX2_row 225 = .ok (.iload 4, 2) := by decide +kernel
theorem dX2_row_227 : decode cX2_row 227 = .ok (.aload_n 0, 1) := by decide +kernel
theorem dX2_row_228 : decode cX2_row 228 = .ok (.getfield 16, 3) := by decide +kernel
theorem dX2_row_231 : decode cX2_row 231 = .ok (.iload 4, 2) := by decide +kernel
theorem dX2_row_233 : decode cX2_row 233 = .ok (.iaload, 1) := by decide +kernel
theorem dX2_row_234 : decode cX2_row 234 = .ok (.iload_n 3, 1) := by decide +kernel
theorem dX2_row_235 : decode cX2_row 235 = .ok (.ifCond .ge 7, 3) := by decide +kernel
theorem dX2_row_238 : decode cX2_row 238 = .ok (.iload_n 3, 1) := by decide +kernel
theorem dX2_row_239 : decode cX2_row 239 = .ok (.goto 4, 3) := by decide +kernel
theorem dX2_row_242 : decode cX2_row 242 = .ok (.iconst 0, 1) := by decide +kernel
theorem dX2_row_243 : decode cX2_row 243 = .ok (.iadd, 1) := by decide +kernel
theorem dX2_row_244 : decode cX2_row 244 = .ok (.iastore, 1) := by decide +kernel
theorem dX2_row_245 : decode cX2_row 245 = .ok (.aload_n 0, 1) := by decide +kernel
theorem dX2_row_246 : decode cX2_row 246 = .ok (.iload 4, 2) := by decide +kernel
theorem dX2_row_248 : decode cX2_row 248 = .ok (.invokevirtual 60, 3) := by decide +kernel
theorem dX2_row_251 : decode cX2_row 251 = .ok (.return_, 1) := by decide +kernel
theorem dX2_whole_0 : decode cX2_whole 0 = .ok (.lload_n 0, 1) := by decide +kernel
theorem dX2_whole_1 : decode cX2_whole 1 = .ok (.bipush 52, 2) := by decide +kernel
theorem dX2_whole_3 : decode cX2_whole 3 = .ok (.lushr, 1) := by decide +kernel
theorem dX2_whole_4 : decode cX2_whole 4 = .ok (.lconst 0, 1) := by decide +kernel
theorem dX2_whole_5 : decode cX2_whole 5 = .ok (.lcmp, 1) := by decide +kernel
theorem dX2_whole_6 : decode cX2_whole 6 = .ok (.ifCond .ne 7, 3) := by decide +kernel
theorem dX2_whole_9 : decode cX2_whole 9 = .ok (.lload_n 0, 1) := by decide +kernel
theorem dX2_whole_10 : decode cX2_whole 10 = .ok (.goto 12, 3) := by decide +kernel
theorem dX2_whole_13 : decode cX2_whole 13 = .ok (.lload_n 0, 1) := by decide +kernel
theorem dX2_whole_14 : decode cX2_whole 14 = .ok (.ldc2_w 64, 3) := by decide +kernel
theorem dX2_whole_17 : decode cX2_whole 17 = .ok (.land, 1) := by decide +kernel
theorem dX2_whole_18 : decode cX2_whole 18 = .ok (.ldc2_w 66, 3) := by decide +kernel
theorem dX2_whole_21 : decode cX2_whole 21 = .ok (.lor, 1) := by decide +kernel
theorem dX2_whole_22 : decode cX2_whole 22 = .ok (.lreturn, 1) := by decide +kernel
theorem dX2_two_0 : decode cX2_two 0 = .ok (.lload_n 0, 1) := by decide +kernel
theorem dX2_two_1 : decode cX2_two 1 = .ok (.bipush 52, 2) := by decide +kernel
theorem dX2_two_3 : decode cX2_two 3 = .ok (.lushr, 1) := by decide +kernel
theorem dX2_two_4 : decode cX2_two 4 = .ok (.lconst 0, 1) := by decide +kernel
theorem dX2_two_5 : decode cX2_two 5 = .ok (.lcmp, 1) := by decide +kernel
theorem dX2_two_6 : decode cX2_two 6 = .ok (.ifCond .ne 9, 3) := by decide +kernel
theorem dX2_two_9 : decode cX2_two 9 = .ok (.sipush (-1074), 3) := by decide +kernel
theorem dX2_two_12 : decode cX2_two 12 = .ok (.goto 12, 3) := by decide +kernel
theorem dX2_two_15 : decode cX2_two 15 = .ok (.lload_n 0, 1) := by decide +kernel
theorem dX2_two_16 : decode cX2_two 16 = .ok (.bipush 52, 2) := by decide +kernel
theorem dX2_two_18 : decode cX2_two 18 = .ok (.lushr, 1) := by decide +kernel
theorem dX2_two_19 : decode cX2_two 19 = .ok (.l2i, 1) := by decide +kernel
theorem dX2_two_20 : decode cX2_two 20 = .ok (.sipush 1075, 3) := by decide +kernel
theorem dX2_two_23 : decode cX2_two 23 = .ok (.isub, 1) := by decide +kernel
theorem dX2_two_24 : decode cX2_two 24 = .ok (.ireturn, 1) := by decide +kernel
theorem dX2_rowOf_0 : decode cX2_rowOf 0 = .ok (.aload_n 0, 1) := by decide +kernel
theorem dX2_rowOf_1 : decode cX2_rowOf 1 = .ok (.lload_n 1, 1) := by decide +kernel
theorem dX2_rowOf_2 : decode cX2_rowOf 2 = .ok (.invokestatic 68, 3) := by decide +kernel
theorem dX2_rowOf_5 : decode cX2_rowOf 5 = .ok (.lload_n 1, 1) := by decide +kernel
theorem dX2_rowOf_6 : decode cX2_rowOf 6 = .ok (.invokestatic 72, 3) := by decide +kernel
theorem dX2_rowOf_9 : decode cX2_rowOf 9 = .ok (.iload_n 3, 1) := by decide +kernel
theorem dX2_rowOf_10 : decode cX2_rowOf 10 = .ok (.invokevirtual 76, 3) := by decide +kernel
theorem dX2_rowOf_13 : decode cX2_rowOf 13 = .ok (.return_, 1) := by decide +kernel
theorem dX2_is_0 : decode cX2_is 0 = .ok (.aload_n 0, 1) := by decide +kernel
theorem dX2_is_1 : decode cX2_is 1 = .ok (.getfield 80, 3) := by decide +kernel
theorem dX2_is_4 : decode cX2_is 4 = .ok (.aload_n 0, 1) := by decide +kernel
theorem dX2_is_5 : decode cX2_is 5 = .ok (.getfield 30, 3) := by decide +kernel
theorem dX2_is_8 : decode cX2_is 8 = .ok (.if_icmp .ge 20, 3) := by decide +kernel
theorem dX2_is_11 : decode cX2_is 11 = .ok (.aload_n 0, 1) := by decide +kernel
theorem dX2_is_12 : decode cX2_is 12 = .ok (.getfield 7, 3) := by decide +kernel
theorem dX2_is_15 : decode cX2_is 15 = .ok (.aload_n 0, 1) := by decide +kernel
