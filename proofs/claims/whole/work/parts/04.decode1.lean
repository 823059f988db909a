theorem dX1_print_49 : decode cX1_print 49 = .ok (.getfield 20, 3) := by decide +kernel
theorem dX1_print_52 : decode cX1_print 52 = .ok (.aload_n 0, 1) := by decide +kernel
theorem dX1_print_53 : decode cX1_print 53 = .ok (.getfield 16, 3) := by decide +kernel
theorem dX1_print_56 : decode cX1_print 56 = .ok (.iload_n 3, 1) := by decide +kernel
theorem dX1_print_57 : decode cX1_print 57 = .ok (.ineg, 1) := by decide +kernel
theorem dX1_print_58 : decode cX1_print 58 = .ok (.invokevirtual 73, 3) := by decide +kernel
theorem dX1_print_61 : decode cX1_print 61 = .ok (.aload_n 0, 1) := by decide +kernel
theorem dX1_print_62 : decode cX1_print 62 = .ok (.lload_n 1, 1) := by decide +kernel
theorem dX1_print_63 : decode cX1_print 63 = .ok (.invokevirtual 77, 3) := by decide +kernel
theorem dX1_print_66 : decode cX1_print 66 = .ok (.aload_n 0, 1) := by decide +kernel
theorem dX1_print_67 : decode cX1_print 67 = .ok (.iconst 0, 1) := by decide +kernel
theorem dX1_print_68 : decode cX1_print 68 = .ok (.aload_n 0, 1) := by decide +kernel
theorem dX1_print_69 : decode cX1_print 69 = .ok (.getfield 20, 3) := by decide +kernel
theorem dX1_print_72 : decode cX1_print 72 = .ok (.invokevirtual 81, 3) := by decide +kernel
theorem dX1_print_75 : decode cX1_print 75 = .ok (.invokestatic 85, 3) := by decide +kernel
theorem dX1_print_78 : decode cX1_print 78 = .ok (.iconst 0, 1) := by decide +kernel
theorem dX1_print_79 : decode cX1_print 79 = .ok (.invokevirtual 91, 3) := by decide +kernel
theorem dX1_print_82 : decode cX1_print 82 = .ok (.iload_n 3, 1) := by decide +kernel
theorem dX1_print_83 : decode cX1_print 83 = .ok (.ifCond .le 16, 3) := by decide +kernel
theorem dX1_print_86 : decode cX1_print 86 = .ok (.aload_n 0, 1) := by decide +kernel
theorem dX1_print_87 : decode cX1_print 87 = .ok (.bipush 46, 2) := by decide +kernel
theorem dX1_print_89 : decode cX1_print 89 = .ok (.invokevirtual 39, 3) := by decide +kernel
theorem dX1_print_92 : decode cX1_print 92 = .ok (.aload_n 0, 1) := by decide +kernel
theorem dX1_print_93 : decode cX1_print 93 = .ok (.iconst (-1), 1) := by decide +kernel
theorem dX1_print_94 : decode cX1_print 94 = .ok (.iload_n 3, 1) := by decide +kernel
theorem dX1_print_95 : decode cX1_print 95 = .ok (.ineg, 1) := by decide +kernel
theorem dX1_print_96 : decode cX1_print 96 = .ok (.invokevirtual 91, 3) := by decide +kernel
theorem dX1_print_99 : decode cX1_print 99 = .ok (.aload_n 0, 1) := by decide +kernel
theorem dX1_print_100 : decode cX1_print 100 = .ok (.getfield 29, 3) := by decide +kernel
theorem dX1_print_103 : decode cX1_print 103 = .ok (.ireturn, 1) := by decide +kernel
theorem dX1_shortest_0 : decode cX1_shortest 0 = .ok (.lload_n 1, 1) := by decide +kernel
theorem dX1_shortest_1 : decode cX1_shortest 1 = .ok (.invokestatic 57, 3) := by decide +kernel
theorem dX1_shortest_4 : decode cX1_shortest 4 = .ok (.ifCond .eq 11, 3) := by decide +kernel
theorem dX1_shortest_7 : decode cX1_shortest 7 = .ok (.new 36, 3) := by decide +kernel
theorem dX1_shortest_10 : decode cX1_shortest 10 = .ok (.dup, 1) := by decide +kernel
theorem dX1_shortest_11 : decode cX1_shortest 11 = .ok (.invokespecial 38, 3) := by decide +kernel
theorem dX1_shortest_14 : decode cX1_shortest 14 = .ok (.athrow, 1) := by decide +kernel
theorem dX1_shortest_15 : decode cX1_shortest 15 = .ok (.aload_n 0, 1) := by decide +kernel
theorem dX1_shortest_16 : decode cX1_shortest 16 = .ok (.lload_n 1, 1) := by decide +kernel
theorem dX1_shortest_17 : decode cX1_shortest 17 = .ok (.invokevirtual 77, 3) := by decide +kernel
theorem dX1_shortest_20 : decode cX1_shortest 20 = .ok (.lload_n 1, 1) := by decide +kernel
theorem dX1_shortest_21 : decode cX1_shortest 21 = .ok (.invokestatic 61, 3) := by decide +kernel
theorem dX1_shortest_24 : decode cX1_shortest 24 = .ok (.lconst 0, 1) := by decide +kernel
theorem dX1_shortest_25 : decode cX1_shortest 25 = .ok (.lcmp, 1) := by decide +kernel
theorem dX1_shortest_26 : decode cX1_shortest 26 = .ok (.ifCond .ne 17, 3) := by decide +kernel
theorem dX1_shortest_29 : decode cX1_shortest 29 = .ok (.aload_n 0, 1) := by decide +kernel
theorem dX1_shortest_30 : decode cX1_shortest 30 = .ok (.bipush 48, 2) := by decide +kernel
theorem dX1_shortest_32 : decode cX1_shortest 32 = .ok (.invokevirtual 39, 3) := by decide +kernel
theorem dX1_shortest_35 : decode cX1_shortest 35 = .ok (.aload_n 0, 1) := by decide +kernel
theorem dX1_shortest_36 : decode cX1_shortest 36 = .ok (.iconst 0, 1) := by decide +kernel
theorem dX1_shortest_37 : decode cX1_shortest 37 = .ok (.invokevirtual 95, 3) := by decide +kernel
theorem dX1_shortest_40 : decode cX1_shortest 40 = .ok (.goto 15, 3) := by decide +kernel
theorem dX1_shortest_43 : decode cX1_shortest 43 = .ok (.aload_n 0, 1) := by decide +kernel
theorem dX1_shortest_44 : decode cX1_shortest 44 = .ok (.lload_n 1, 1) := by decide +kernel
theorem dX1_shortest_45 : decode cX1_shortest 45 = .ok (.invokestatic 61, 3) := by decide +kernel
theorem dX1_shortest_48 : decode cX1_shortest 48 = .ok (.lload_n 1, 1) := by decide +kernel
theorem dX1_shortest_49 : decode cX1_shortest 49 = .ok (.invokestatic 65, 3) := by decide +kernel
theorem dX1_shortest_52 : decode cX1_shortest 52 = .ok (.invokevirtual 98, 3) := by decide +kernel
theorem dX1_shortest_55 : decode cX1_shortest 55 = .ok (.aload_n 0, 1) := by decide +kernel
theorem dX1_shortest_56 : decode cX1_shortest 56 = .ok (.getfield 29, 3) := by decide +kernel
theorem dX1_shortest_59 : decode cX1_shortest 59 = .ok (.ireturn, 1) := by decide +kernel
theorem dX1_letter_0 : decode cX1_letter 0 = .ok (.iload_n 1, 1) := by decide +kernel
theorem dX1_letter_1 : decode cX1_letter 1 = .ok (.ifCond .lt 11, 3) := by decide +kernel
theorem dX1_letter_4 : decode cX1_letter 4 = .ok (.iload_n 1, 1) := by decide +kernel
theorem dX1_letter_5 : decode cX1_letter 5 = .ok (.aload_n 0, 1) := by decide +kernel
theorem dX1_letter_6 : decode cX1_letter 6 = .ok (.getfield 29, 3) := by decide +kernel
theorem dX1_letter_9 : decode cX1_letter 9 = .ok (.if_icmp .lt 11, 3) := by decide +kernel
theorem dX1_letter_12 : decode cX1_letter 12 = .ok (.new 101, 3) := by decide +kernel
theorem dX1_letter_15 : decode cX1_letter 15 = .ok (.dup, 1) := by decide +kernel
theorem dX1_letter_16 : decode cX1_letter 16 = .ok (.invokespecial 103, 3) := by decide +kernel
theorem dX1_letter_19 : decode cX1_letter 19 = .ok (.athrow, 1) := by decide +kernel
theorem dX1_letter_20 : decode cX1_letter 20 = .ok (.aload_n 0, 1) := by decide +kernel
theorem dX1_letter_21 : decode cX1_letter 21 = .ok (.getfield 9, 3) := by decide +kernel
theorem dX1_letter_24 : decode cX1_letter 24 = .ok (.iload_n 1, 1) := by decide +kernel
theorem dX1_letter_25 : decode cX1_letter 25 = .ok (.iaload, 1) := by decide +kernel
theorem dX1_letter_26 : decode cX1_letter 26 = .ok (.ireturn, 1) := by decide +kernel
theorem dX1_isNone_0 : decode cX1_isNone 0 = .ok (.lload_n 0, 1) := by decide +kernel
theorem dX1_isNone_1 : decode cX1_isNone 1 = .ok (.ldc2_w 104, 3) := by decide +kernel
theorem dX1_isNone_4 : decode cX1_isNone 4 = .ok (.land, 1) := by decide +kernel
theorem dX1_isNone_5 : decode cX1_isNone 5 = .ok (.ldc2_w 104, 3) := by decide +kernel
theorem dX1_isNone_8 : decode cX1_isNone 8 = .ok (.lcmp, 1) := by decide +kernel
theorem dX1_isNone_9 : decode cX1_isNone 9 = .ok (.ifCond .ne 7, 3) := by decide +kernel
theorem dX1_isNone_12 : decode cX1_isNone 12 = .ok (.iconst 1, 1) := by decide +kernel
theorem dX1_isNone_13 : decode cX1_isNone 13 = .ok (.goto 4, 3) := by decide +kernel
theorem dX1_isNone_16 : decode cX1_isNone 16 = .ok (.iconst 0, 1) := by decide +kernel
theorem dX1_isNone_17 : decode cX1_isNone 17 = .ok (.ireturn, 1) := by decide +kernel
theorem dX1_mantissaOf_0 : decode cX1_mantissaOf 0 = .ok (.lload_n 0, 1) := by decide +kernel
theorem dX1_mantissaOf_1 : decode cX1_mantissaOf 1 = .ok (.ldc2_w 106, 3) := by decide +kernel
theorem dX1_mantissaOf_4 : decode cX1_mantissaOf 4 = .ok (.land, 1) := by decide +kernel
theorem dX1_mantissaOf_5 : decode cX1_mantissaOf 5 = .ok (.lstore_n 2, 1) := by decide +kernel
theorem dX1_mantissaOf_6 : decode cX1_mantissaOf 6 = .ok (.lload_n 0, 1) := by decide +kernel
theorem dX1_mantissaOf_7 : decode cX1_mantissaOf 7 = .ok (.ldc2_w 104, 3) := by decide +kernel
theorem dX1_mantissaOf_10 : decode cX1_mantissaOf 10 = .ok (.land, 1) := by decide +kernel
theorem dX1_mantissaOf_11 : decode cX1_mantissaOf 11 = .ok (.lconst 0, 1) := by decide +kernel
theorem dX1_mantissaOf_12 : decode cX1_mantissaOf 12 = .ok (.lcmp, 1) := by decide +kernel
theorem dX1_mantissaOf_13 : decode cX1_mantissaOf 13 = .ok (.ifCond .ne 7, 3) := by decide +kernel
theorem dX1_mantissaOf_16 : decode cX1_mantissaOf 16 = .ok (.lload_n 2, 1) := by decide +kernel
theorem dX1_mantissaOf_17 : decode cX1_mantissaOf 17 = .ok (.goto 8, 3) := by decide +kernel
theorem dX1_mantissaOf_20 : decode cX1_mantissaOf 20 = .ok (.lload_n 2, 1) := by decide +kernel
theorem dX1_mantissaOf_21 : decode cX1_mantissaOf 21 = .ok (.ldc2_w 108, 3) := by decide +kernel
theorem dX1_mantissaOf_24 : decode cX1_mantissaOf 24 = .ok (.ladd, 1) := by decide +kernel
theorem dX1_mantissaOf_25 : decode cX1_mantissaOf 25 = .ok (.lreturn, 1) := by decide +kernel
theorem dX1_powerOf_0 : decode cX1_powerOf 0 = .ok (.lload_n 0, 1) := by decide +kernel
theorem dX1_powerOf_1 : decode cX1_powerOf 1 = .ok (.ldc2_w 104, 3) := by decide +kernel
theorem dX1_powerOf_4 : decode cX1_powerOf 4 = .ok (.land, 1) := by decide +kernel
theorem dX1_powerOf_5 : decode cX1_powerOf 5 = .ok (.bipush 52, 2) := by decide +kernel
theorem dX1_powerOf_7 : decode cX1_powerOf 7 = .ok (.lushr, 1) := by decide +kernel
theorem dX1_powerOf_8 : decode cX1_powerOf 8 = .ok (.l2i, 1) := by decide +kernel
theorem dX1_powerOf_9 : decode cX1_powerOf 9 = .ok (.istore_n 2, 1) := by decide +kernel
theorem dX1_powerOf_10 : decode cX1_powerOf 10 = .ok (.iload_n 2, 1) := by decide +kernel
theorem dX1_powerOf_11 : decode cX1_powerOf 11 = .ok (.iconst 1, 1) := by decide +kernel
theorem dX1_powerOf_12 : decode cX1_powerOf 12 = .ok (.invokestatic 85, 3) := by decide +kernel
theorem dX1_powerOf_15 : decode cX1_powerOf 15 = .ok (.iconst 1, 1) := by decide +kernel
theorem dX1_powerOf_16 : decode cX1_powerOf 16 = .ok (.isub, 1) := by decide +kernel
theorem dX1_powerOf_17 : decode cX1_powerOf 17 = .ok (.sipush (-1074), 3) := by decide +kernel
theorem dX1_powerOf_20 : decode cX1_powerOf 20 = .ok (.iadd, 1) := by decide +kernel
theorem dX1_powerOf_21 : decode cX1_powerOf 21 = .ok (.ireturn, 1) := by decide +kernel
theorem dX1_isAt_0 : decode cX1_isAt 0 = .ok (.iload_n 1, 1) := by decide +kernel
theorem dX1_isAt_1 : decode cX1_isAt 1 = .ok (.aload_n 0, 1) := by decide +kernel
theorem dX1_isAt_2 : decode cX1_isAt 2 = .ok (.getfield 29, 3) := by decide +kernel
theorem dX1_isAt_5 : decode cX1_isAt 5 = .ok (.if_icmp .ge 17, 3) := by decide +kernel
theorem dX1_isAt_8 : decode cX1_isAt 8 = .ok (.aload_n 0, 1) := by decide +kernel
theorem dX1_isAt_9 : decode cX1_isAt 9 = .ok (.getfield 9, 3) := by decide +kernel
theorem dX1_isAt_12 : decode cX1_isAt 12 = .ok (.iload_n 1, 1) := by decide +kernel
theorem dX1_isAt_13 : decode cX1_isAt 13 = .ok (.iaload, 1) := by decide +kernel
theorem dX1_isAt_14 : decode cX1_isAt 14 = .ok (.iload_n 2, 1) := by decide +kernel
theorem dX1_isAt_15 : decode cX1_isAt 15 = .ok (.if_icmp .ne 7, 3) := by decide +kernel
theorem dX1_isAt_18 : decode cX1_isAt 18 = .ok (.iconst 1, 1) := by decide +kernel
theorem dX1_isAt_19 : decode cX1_isAt 19 = .ok (.goto 4, 3) := by decide +kernel
theorem dX1_isAt_22 : decode cX1_isAt 22 = .ok (.iconst 0, 1) := by decide +kernel
theorem dX1_isAt_23 : decode cX1_isAt 23 = .ok (.ireturn, 1) := by decide +kernel
theorem dX1_scanNumeral_0 : decode cX1_scanNumeral 0 = .ok (.aload_n 0, 1) := by decide +kernel
theorem dX1_scanNumeral_1 : decode cX1_scanNumeral 1 = .ok (.aload_n 0, 1) := by decide +kernel
theorem dX1_scanNumeral_2 : decode cX1_scanNumeral 2 = .ok (.iconst 0, 1) := by decide +kernel
theorem dX1_scanNumeral_3 : decode cX1_scanNumeral 3 = .ok (.bipush 45, 2) := by decide +kernel
theorem dX1_scanNumeral_5 : decode cX1_scanNumeral 5 = .ok (.invokevirtual 51, 3) := by decide +kernel
theorem dX1_scanNumeral_8 : decode cX1_scanNumeral 8 = .ok (.ifCond .eq 7, 3) := by decide +kernel
theorem dX1_scanNumeral_11 : decode cX1_scanNumeral 11 = .ok (.iconst 1, 1) := by decide +kernel
theorem dX1_scanNumeral_12 : decode cX1_scanNumeral 12 = .ok (.goto 4, 3) := by decide +kernel
theorem dX1_scanNumeral_15 : decode cX1_scanNumeral 15 = .ok (.iconst 0, 1) := by decide +kernel
theorem dX1_scanNumeral_16 : decode cX1_scanNumeral 16 = .ok (.putfield 110, 3) := by decide +kernel
theorem dX1_scanNumeral_19 : decode cX1_scanNumeral 19 = .ok (.aload_n 0, 1) := by decide +kernel
theorem dX1_scanNumeral_20 : decode cX1_scanNumeral 20 = .ok (.aload_n 0, 1) := by decide +kernel
theorem dX1_scanNumeral_21 : decode cX1_scanNumeral 21 = .ok (.aload_n 0, 1) := by decide +kernel
theorem dX1_scanNumeral_22 : decode cX1_scanNumeral 22 = .ok (.getfield 110, 3) := by decide +kernel
theorem dX1_scanNumeral_25 : decode cX1_scanNumeral 25 = .ok (.invokevirtual 113, 3) := by decide +kernel
theorem dX1_scanNumeral_28 : decode cX1_scanNumeral 28 = .ok (.putfield 117, 3) := by decide +kernel
theorem dX1_scanNumeral_31 : decode cX1_scanNumeral 31 = .ok (.aload_n 0, 1) := by decide +kernel
theorem dX1_scanNumeral_32 : decode cX1_scanNumeral 32 = .ok (.aload_n 0, 1) := by decide +kernel
theorem dX1_scanNumeral_33 : decode cX1_scanNumeral 33 = .ok (.getfield 117, 3) := by decide +kernel
theorem dX1_scanNumeral_36 : decode cX1_scanNumeral 36 = .ok (.iconst 1, 1) := by decide +kernel
theorem dX1_scanNumeral_37 : decode cX1_scanNumeral 37 = .ok (.isub, 1) := by decide +kernel
theorem dX1_scanNumeral_38 : decode cX1_scanNumeral 38 = .ok (.putfield 120, 3) := by decide +kernel
theorem dX1_scanNumeral_41 : decode cX1_scanNumeral 41 = .ok (.aload_n 0, 1) := by decide +kernel
theorem dX1_scanNumeral_42 : decode cX1_scanNumeral 42 = .ok (.getfield 117, 3) := by decide +kernel
theorem dX1_scanNumeral_45 : decode cX1_scanNumeral 45 = .ok (.aload_n 0, 1) := by decide +kernel
theorem dX1_scanNumeral_46 : decode cX1_scanNumeral 46 = .ok (.getfield 110, 3) := by decide +kernel
theorem dX1_scanNumeral_49 : decode cX1_scanNumeral 49 = .ok (.if_icmp .ne 5, 3) := by decide +kernel
theorem dX1_scanNumeral_52 : decode cX1_scanNumeral 52 = .ok (.iconst 0, 1) := by decide +kernel
theorem dX1_scanNumeral_53 : decode cX1_scanNumeral 53 = .ok (.ireturn, 1) := by decide +kernel
theorem dX1_scanNumeral_54 : decode cX1_scanNumeral 54 = .ok (.aload_n 0, 1) := by decide +kernel
theorem dX1_scanNumeral_55 : decode cX1_scanNumeral 55 = .ok (.aload_n 0, 1) := by decide +kernel
theorem dX1_scanNumeral_56 : decode cX1_scanNumeral 56 = .ok (.getfield 117, 3) := by decide +kernel
theorem dX1_scanNumeral_59 : decode cX1_scanNumeral 59 = .ok (.bipush 46, 2) := by decide +kernel
theorem dX1_scanNumeral_61 : decode cX1_scanNumeral 61 = .ok (.invokevirtual 51, 3) := by decide +kernel
theorem dX1_scanNumeral_64 : decode cX1_scanNumeral 64 = .ok (.ifCond .eq 29, 3) := by decide +kernel
theorem dX1_scanNumeral_67 : decode cX1_scanNumeral 67 = .ok (.aload_n 0, 1) := by decide +kernel
theorem dX1_scanNumeral_68 : decode cX1_scanNumeral 68 = .ok (.getfield 117, 3) := by decide +kernel
theorem dX1_scanNumeral_71 : decode cX1_scanNumeral 71 = .ok (.iconst 1, 1) := by decide +kernel
theorem dX1_scanNumeral_72 : decode cX1_scanNumeral 72 = .ok (.iadd, 1) := by decide +kernel
theorem dX1_scanNumeral_73 : decode cX1_scanNumeral 73 = .ok (.istore_n 1, 1) := by decide +kernel
theorem dX1_scanNumeral_74 : decode cX1_scanNumeral 74 = .ok (.aload_n 0, 1) := by decide +kernel
theorem dX1_scanNumeral_75 : decode cX1_scanNumeral 75 = .ok (.aload_n 0, 1) := by decide +kernel
theorem dX1_scanNumeral_76 : decode cX1_scanNumeral 76 = .ok (.iload_n 1, 1) := by decide +kernel
theorem dX1_scanNumeral_77 : decode cX1_scanNumeral 77 = .ok (.invokevirtual 113, 3) := by decide +kernel
theorem dX1_scanNumeral_80 : decode cX1_scanNumeral 80 = .ok (.putfield 117, 3) := by decide +kernel
theorem dX1_scanNumeral_83 : decode cX1_scanNumeral 83 = .ok (.aload_n 0, 1) := by decide +kernel
theorem dX1_scanNumeral_84 : decode cX1_scanNumeral 84 = .ok (.getfield 117, 3) := by decide +kernel
theorem dX1_scanNumeral_87 : decode cX1_scanNumeral 87 = .ok (.iload_n 1, 1) := by decide +kernel
theorem dX1_scanNumeral_88 : decode cX1_scanNumeral 88 = .ok (.if_icmp .ne 5, 3) := by decide +kernel
theorem dX1_scanNumeral_91 : decode cX1_scanNumeral 91 = .ok (.iconst 0, 1) := by decide +kernel
theorem dX1_scanNumeral_92 : decode cX1_scanNumeral 92 = .ok (.ireturn, 1) := by decide +kernel
theorem dX1_scanNumeral_93 : decode cX1_scanNumeral 93 = .ok (.aload_n 0, 1) := by decide +kernel
theorem dX1_scanNumeral_94 : decode cX1_scanNumeral 94 = .ok (.iconst 0, 1) := by decide +kernel
theorem dX1_scanNumeral_95 : decode cX1_scanNumeral 95 = .ok (.putfield 123, 3) := by decide +kernel
theorem dX1_scanNumeral_98 : decode cX1_scanNumeral 98 = .ok (.aload_n 0, 1) := by decide +kernel
theorem dX1_scanNumeral_99 : decode cX1_scanNumeral 99 = .ok (.getfield 117, 3) := by decide +kernel
theorem dX1_scanNumeral_102 : decode cX1_scanNumeral 102 = .ok (.aload_n 0, 1) := by decide +kernel
theorem dX1_scanNumeral_103 : decode cX1_scanNumeral 103 = .ok (.getfield 29, 3) := by decide +kernel
theorem dX1_scanNumeral_106 : decode cX1_scanNumeral 106 = .ok (.if_icmp .eq 14, 3) := by decide +kernel
theorem dX1_scanNumeral_109 : decode cX1_scanNumeral 109 = .ok (.aload_n 0, 1) := by decide +kernel
theorem dX1_scanNumeral_110 : decode cX1_scanNumeral 110 = .ok (.aload_n 0, 1) := by decide +kernel
theorem dX1_scanNumeral_111 : decode cX1_scanNumeral 111 = .ok (.getfield 117, 3) := by decide +kernel
theorem dX1_scanNumeral_114 : decode cX1_scanNumeral 114 = .ok (.invokevirtual 126, 3) := by decide +kernel
theorem dX1_scanNumeral_117 : decode cX1_scanNumeral 117 = .ok (.ifCond .eq 7, 3) := by decide +kernel
theorem dX1_scanNumeral_120 : decode cX1_scanNumeral 120 = .ok (.iconst 1, 1) := by decide +kernel
theorem dX1_scanNumeral_121 : decode cX1_scanNumeral 121 = .ok (.goto 4, 3) := by decide +kernel
theorem dX1_scanNumeral_124 : decode cX1_scanNumeral 124 = .ok (.iconst 0, 1) := by decide +kernel
theorem dX1_scanNumeral_125 : decode cX1_scanNumeral 125 = .ok (.ireturn, 1) := by decide +kernel
theorem dX1_scanPower_0 : decode cX1_scanPower 0 = .ok (.aload_n 0, 1) := by decide +kernel
theorem dX1_scanPower_1 : decode cX1_scanPower 1 = .ok (.iload_n 1, 1) := by decide +kernel
theorem dX1_scanPower_2 : decode cX1_scanPower 2 = .ok (.bipush 101, 2) := by decide +kernel
theorem dX1_scanPower_4 : decode cX1_scanPower 4 = .ok (.invokevirtual 51, 3) := by decide +kernel
theorem dX1_scanPower_7 : decode cX1_scanPower 7 = .ok (.ifCond .ne 5, 3) := by decide +kernel
theorem dX1_scanPower_10 : decode cX1_scanPower 10 = .ok (.iconst 0, 1) := by decide +kernel
theorem dX1_scanPower_11 : decode cX1_scanPower 11 = .ok (.ireturn, 1) := by decide +kernel
theorem dX1_scanPower_12 : decode cX1_scanPower 12 = .ok (.aload_n 0, 1) := by decide +kernel
theorem dX1_scanPower_13 : decode cX1_scanPower 13 = .ok (.iload_n 1, 1) := by decide +kernel
theorem dX1_scanPower_14 : decode cX1_scanPower 14 = .ok (.iconst 1, 1) := by decide +kernel
theorem dX1_scanPower_15 : decode cX1_scanPower 15 = .ok (.iadd, 1) := by decide +kernel
theorem dX1_scanPower_16 : decode cX1_scanPower 16 = .ok (.bipush 45, 2) := by decide +kernel
theorem dX1_scanPower_18 : decode cX1_scanPower 18 = .ok (.invokevirtual 51, 3) := by decide +kernel
theorem dX1_scanPower_21 : decode cX1_scanPower 21 = .ok (.istore_n 2, 1) := by decide +kernel
theorem dX1_scanPower_22 : decode cX1_scanPower 22 = .ok (.iload_n 2, 1) := by decide +kernel
theorem dX1_scanPower_23 : decode cX1_scanPower 23 = .ok (.ifCond .eq 9, 3) := by decide +kernel
theorem dX1_scanPower_26 : decode cX1_scanPower 26 = .ok (.iload_n 1, 1) := by decide +kernel
theorem dX1_scanPower_27 : decode cX1_scanPower 27 = .ok (.iconst 2, 1) := by decide +kernel
theorem dX1_scanPower_28 : decode cX1_scanPower 28 = .ok (.iadd, 1) := by decide +kernel
theorem dX1_scanPower_29 : decode cX1_scanPower 29 = .ok (.goto 6, 3) := by decide +kernel
theorem dX1_scanPower_32 : decode cX1_scanPower 32 = .ok (.iload_n 1, 1) := by decide +kernel
theorem dX1_scanPower_33 : decode cX1_scanPower 33 = .ok (.iconst 1, 1) := by decide +kernel
theorem dX1_scanPower_34 : decode cX1_scanPower 34 = .ok (.iadd, 1) := by decide +kernel
theorem dX1_scanPower_35 : decode cX1_scanPower 35 = .ok (.istore_n 3, 1) := by decide +kernel
theorem dX1_scanPower_36 : decode cX1_scanPower 36 = .ok (.aload_n 0, 1) := by decide +kernel
theorem dX1_scanPower_37 : decode cX1_scanPower 37 = .ok (.iload_n 3, 1) := by decide +kernel
theorem dX1_scanPower_38 : decode cX1_scanPower 38 = .ok (.invokevirtual 113, 3) := by decide +kernel
theorem dX1_scanPower_41 : decode cX1_scanPower 41 = .ok (.istore 4, 2) := by decide +kernel
theorem dX1_scanPower_43 : decode cX1_scanPower 43 = .ok (.iload 4, 2) := by decide +kernel
theorem dX1_scanPower_45 : decode cX1_scanPower 45 = .ok (.iload_n 3, 1) := by decide +kernel
theorem dX1_scanPower_46 : decode cX1_scanPower 46 = .ok (.if_icmp .eq 20, 3) := by decide +kernel
theorem dX1_scanPower_49 : decode cX1_scanPower 49 = .ok (.iload 4, 2) := by decide +kernel
theorem dX1_scanPower_51 : decode cX1_scanPower 51 = .ok (.iload_n 3, 1) := by decide +kernel
theorem dX1_scanPower_52 : decode cX1_scanPower 52 = .ok (.isub, 1) := by decide +kernel
theorem dX1_scanPower_53 : decode cX1_scanPower 53 = .ok (.iconst 4, 1) := by decide +kernel
theorem dX1_scanPower_54 : decode cX1_scanPower 54 = .ok (.if_icmp .gt 12, 3) := by decide +kernel
theorem dX1_scanPower_57 : decode cX1_scanPower 57 = .ok (.iload 4, 2) := by decide +kernel
theorem dX1_scanPower_59 : decode cX1_scanPower 59 = .ok (.aload_n 0, 1) := by decide +kernel
theorem dX1_scanPower_60 : decode cX1_scanPower 60 = .ok (.getfield 29, 3) := by decide +kernel
theorem dX1_scanPower_63 : decode cX1_scanPower 63 = .ok (.if_icmp .eq 5, 3) := by decide +kernel
theorem dX1_scanPower_66 : decode cX1_scanPower 66 = .ok (.iconst 0, 1) := by decide +kernel
theorem dX1_scanPower_67 : decode cX1_scanPower 67 = .ok (.ireturn, 1) := by decide +kernel
theorem dX1_scanPower_68 : decode cX1_scanPower 68 = .ok (.iload_n 3, 1) := by decide +kernel
theorem dX1_scanPower_69 : decode cX1_scanPower 69 = .ok (.istore 5, 2) := by decide +kernel
theorem dX1_scanPower_71 : decode cX1_scanPower 71 = .ok (.iload 5, 2) := by decide +kernel
theorem dX1_scanPower_73 : decode cX1_scanPower 73 = .ok (.iload 4, 2) := by decide +kernel
theorem dX1_scanPower_75 : decode cX1_scanPower 75 = .ok (.if_icmp .ge 31, 3) := by decide +kernel
theorem dX1_scanPower_78 : decode cX1_scanPower 78 = .ok (.aload_n 0, 1) := by decide +kernel
theorem dX1_scanPower_79 : decode cX1_scanPower 79 = .ok (.aload_n 0, 1) := by decide +kernel
theorem dX1_scanPower_80 : decode cX1_scanPower 80 = .ok (.getfield 123, 3) := by decide +kernel
theorem dX1_scanPower_83 : decode cX1_scanPower 83 = .ok (.bipush 10, 2) := by decide +kernel
theorem dX1_scanPower_85 : decode cX1_scanPower 85 = .ok (.imul, 1) := by decide +kernel
theorem dX1_scanPower_86 : decode cX1_scanPower 86 = .ok (.aload_n 0, 1) := by decide +kernel
theorem dX1_scanPower_87 : decode cX1_scanPower 87 = .ok (.getfield 9, 3) := by decide +kernel
theorem dX1_scanPower_90 : decode cX1_scanPower 90 = .ok (.iload 5, 2) := by decide +kernel
theorem dX1_scanPower_92 : decode cX1_scanPower 92 = .ok (.iaload, 1) := by decide +kernel
theorem dX1_scanPower_93 : decode cX1_scanPower 93 = .ok (.iadd, 1) := by decide +kernel
theorem dX1_scanPower_94 : decode cX1_scanPower 94 = .ok (.bipush 48, 2) := by decide +kernel
theorem dX1_scanPower_96 : decode cX1_scanPower 96 = .ok (.isub, 1) := by decide +kernel
theorem dX1_scanPower_97 : decode cX1_scanPower 97 = .ok (.putfield 123, 3) := by decide +kernel
theorem dX1_scanPower_100 : decode cX1_scanPower 100 = .ok (.iinc 5 1, 3) := by decide +kernel
theorem dX1_scanPower_103 : decode cX1_scanPower 103 = .ok (.goto (-32), 3) := by decide +kernel
theorem dX1_scanPower_106 : decode cX1_scanPower 106 = .ok (.iload_n 2, 1) := by decide +kernel
theorem dX1_scanPower_107 : decode cX1_scanPower 107 = .ok (.ifCond .eq 12, 3) := by decide +kernel
theorem dX1_scanPower_110 : decode cX1_scanPower 110 = .ok (.aload_n 0, 1) := by decide +kernel
theorem dX1_scanPower_111 : decode cX1_scanPower 111 = .ok (.aload_n 0, 1) := by decide +kernel
theorem dX1_scanPower_112 : decode cX1_scanPower 112 = .ok (.getfield 123, 3) := by decide +kernel
theorem dX1_scanPower_115 : decode cX1_scanPower 115 = .ok (.ineg, 1) := by decide +kernel
theorem dX1_scanPower_116 : decode cX1_scanPower 116 = .ok (.putfield 123, 3) := by decide +kernel
theorem dX1_scanPower_119 : decode cX1_scanPower 119 = .ok (.iconst 1, 1) := by decide +kernel
theorem dX1_scanPower_120 : decode cX1_scanPower 120 = .ok (.ireturn, 1) := by decide +kernel
theorem dX1_endOfDigits_0 : decode cX1_endOfDigits 0 = .ok (.iload_n 1, 1) := by decide +kernel
theorem dX1_endOfDigits_1 : decode cX1_endOfDigits 1 = .ok (.istore_n 2, 1) := by decide +kernel
theorem dX1_endOfDigits_2 : decode cX1_endOfDigits 2 = .ok (.iload_n 2, 1) := by decide +kernel
theorem dX1_endOfDigits_3 : decode cX1_endOfDigits 3 = .ok (.aload_n 0, 1) := by decide +kernel
theorem dX1_endOfDigits_4 : decode cX1_endOfDigits 4 = .ok (.getfield 29, 3) := by decide +kernel
theorem dX1_endOfDigits_7 : decode cX1_endOfDigits 7 = .ok (.if_icmp .ge 31, 3) := by decide +kernel
theorem dX1_endOfDigits_10 : decode cX1_endOfDigits 10 = .ok (.aload_n 0, 1) := by decide +kernel
theorem dX1_endOfDigits_11 : decode cX1_endOfDigits 11 = .ok (.getfield 9, 3) := by decide +kernel
theorem dX1_endOfDigits_14 : decode cX1_endOfDigits 14 = .ok (.iload_n 2, 1) := by decide +kernel
theorem dX1_endOfDigits_15 : decode cX1_endOfDigits 15 = .ok (.iaload, 1) := by decide +kernel
theorem dX1_endOfDigits_16 : decode cX1_endOfDigits 16 = .ok (.bipush 48, 2) := by decide +kernel
theorem dX1_endOfDigits_18 : decode cX1_endOfDigits 18 = .ok (.if_icmp .lt 20, 3) := by decide +kernel
theorem dX1_endOfDigits_21 : decode cX1_endOfDigits 21 = .ok (.aload_n 0, 1) := by decide +kernel
theorem dX1_endOfDigits_22 : decode cX1_endOfDigits 22 = .ok (.getfield 9, 3) := by decide +kernel
theorem dX1_endOfDigits_25 : decode cX1_endOfDigits 25 = .ok (.iload_n 2, 1) := by decide +kernel
theorem dX1_endOfDigits_26 : decode cX1_endOfDigits 26 = .ok (.iaload, 1) := by decide +kernel
theorem dX1_endOfDigits_27 : decode cX1_endOfDigits 27 = .ok (.bipush 57, 2) := by decide +kernel
theorem dX1_endOfDigits_29 : decode cX1_endOfDigits 29 = .ok (.if_icmp .gt 9, 3) := by decide +kernel
theorem dX1_endOfDigits_32 : decode cX1_endOfDigits 32 = .ok (.iinc 2 1, 3) := by decide +kernel
theorem dX1_endOfDigits_35 : decode cX1_endOfDigits 35 = .ok (.goto (-33), 3) := by decide +kernel
theorem dX1_endOfDigits_38 : decode cX1_endOfDigits 38 = .ok (.iload_n 2, 1) := by decide +kernel
theorem dX1_endOfDigits_39 : decode cX1_endOfDigits 39 = .ok (.ireturn, 1) := by decide +kernel
theorem dX1_nearestToNumeral_0 : decode cX1_nearestToNumeral 0 = .ok (.aload_n 0, 1) := by decide +kernel
theorem dX1_nearestToNumeral_1 : decode cX1_nearestToNumeral 1 = .ok (.invokevirtual 130, 3) := by decide +kernel
theorem dX1_nearestToNumeral_4 : decode cX1_nearestToNumeral 4 = .ok (.istore_n 1, 1) := by decide +kernel
theorem dX1_nearestToNumeral_5 : decode cX1_nearestToNumeral 5 = .ok (.iload_n 1, 1) := by decide +kernel
theorem dX1_nearestToNumeral_6 : decode cX1_nearestToNumeral 6 = .ok (.aload_n 0, 1) := by decide +kernel
theorem dX1_nearestToNumeral_7 : decode cX1_nearestToNumeral 7 = .ok (.getfield 117, 3) := by decide +kernel
theorem dX1_nearestToNumeral_10 : decode cX1_nearestToNumeral 10 = .ok (.if_icmp .eq 14, 3) := by decide +kernel
theorem dX1_nearestToNumeral_13 : decode cX1_nearestToNumeral 13 = .ok (.aload_n 0, 1) := by decide +kernel
theorem dX1_nearestToNumeral_14 : decode cX1_nearestToNumeral 14 = .ok (.iload_n 1, 1) := by decide +kernel
theorem dX1_nearestToNumeral_15 : decode cX1_nearestToNumeral 15 = .ok (.invokevirtual 133, 3) := by decide +kernel
theorem dX1_nearestToNumeral_18 : decode cX1_nearestToNumeral 18 = .ok (.sipush (-324), 3) := by decide +kernel
theorem dX1_nearestToNumeral_21 : decode cX1_nearestToNumeral 21 = .ok (.if_icmp .ge 5, 3) := by decide +kernel
theorem dX1_nearestToNumeral_24 : decode cX1_nearestToNumeral 24 = .ok (.lconst 0, 1) := by decide +kernel
theorem dX1_nearestToNumeral_25 : decode cX1_nearestToNumeral 25 = .ok (.lreturn, 1) := by decide +kernel
theorem dX1_nearestToNumeral_26 : decode cX1_nearestToNumeral 26 = .ok (.aload_n 0, 1) := by decide +kernel
theorem dX1_nearestToNumeral_27 : decode cX1_nearestToNumeral 27 = .ok (.iload_n 1, 1) := by decide +kernel
theorem dX1_nearestToNumeral_28 : decode cX1_nearestToNumeral 28 = .ok (.invokevirtual 133, 3) := by decide +kernel
theorem dX1_nearestToNumeral_31 : decode cX1_nearestToNumeral 31 = .ok (.sipush 308, 3) := by decide +kernel
theorem dX1_nearestToNumeral_34 : decode cX1_nearestToNumeral 34 = .ok (.if_icmp .le 7, 3) := by decide +kernel
theorem dX1_nearestToNumeral_37 : decode cX1_nearestToNumeral 37 = .ok (.ldc2_w 104, 3) := by decide +kernel
theorem dX1_nearestToNumeral_40 : decode cX1_nearestToNumeral 40 = .ok (.lreturn, 1) := by decide +kernel
theorem dX1_nearestToNumeral_41 : decode cX1_nearestToNumeral 41 = .ok (.aload_n 0, 1) := by decide +kernel
theorem dX1_nearestToNumeral_42 : decode cX1_nearestToNumeral 42 = .ok (.getfield 16, 3) := by decide +kernel
theorem dX1_nearestToNumeral_45 : decode cX1_nearestToNumeral 45 = .ok (.invokevirtual 136, 3) := by decide +kernel
theorem dX1_nearestToNumeral_48 : decode cX1_nearestToNumeral 48 = .ok (.iload_n 1, 1) := by decide +kernel
theorem dX1_nearestToNumeral_49 : decode cX1_nearestToNumeral 49 = .ok (.istore_n 2, 1) := by decide +kernel
theorem dX1_nearestToNumeral_50 : decode cX1_nearestToNumeral 50 = .ok (.iload_n 2, 1) := by decide +kernel
theorem dX1_nearestToNumeral_51 : decode cX1_nearestToNumeral 51 = .ok (.aload_n 0, 1) := by decide +kernel
theorem dX1_nearestToNumeral_52 : decode cX1_nearestToNumeral 52 = .ok (.getfield 117, 3) := by decide +kernel
theorem dX1_nearestToNumeral_55 : decode cX1_nearestToNumeral 55 = .ok (.if_icmp .ge 41, 3) := by decide +kernel
theorem dX1_nearestToNumeral_58 : decode cX1_nearestToNumeral 58 = .ok (.aload_n 0, 1) := by decide +kernel
theorem dX1_nearestToNumeral_59 : decode cX1_nearestToNumeral 59 = .ok (.getfield 9, 3) := by decide +kernel
theorem dX1_nearestToNumeral_62 : decode cX1_nearestToNumeral 62 = .ok (.iload_n 2, 1) := by decide +kernel
theorem dX1_nearestToNumeral_63 : decode cX1_nearestToNumeral 63 = .ok (.iaload, 1) := by decide +kernel
theorem dX1_nearestToNumeral_64 : decode cX1_nearestToNumeral 64 = .ok (.bipush 46, 2) := by decide +kernel
theorem dX1_nearestToNumeral_66 : decode cX1_nearestToNumeral 66 = .ok (.if_icmp .eq 24, 3) := by decide +kernel
theorem dX1_nearestToNumeral_69 : decode cX1_nearestToNumeral 69 = .ok (.aload_n 0, 1) := by decide +kernel
theorem dX1_nearestToNumeral_70 : decode cX1_nearestToNumeral 70 = .ok (.getfield 16, 3) := by decide +kernel
theorem dX1_nearestToNumeral_73 : decode cX1_nearestToNumeral 73 = .ok (.aload_n 0, 1) := by decide +kernel
theorem dX1_nearestToNumeral_74 : decode cX1_nearestToNumeral 74 = .ok (.iload_n 2, 1) := by decide +kernel
theorem dX1_nearestToNumeral_75 : decode cX1_nearestToNumeral 75 = .ok (.invokevirtual 133, 3) := by decide +kernel
theorem dX1_nearestToNumeral_78 : decode cX1_nearestToNumeral 78 = .ok (.aload_n 0, 1) := by decide +kernel
theorem dX1_nearestToNumeral_79 : decode cX1_nearestToNumeral 79 = .ok (.getfield 9, 3) := by decide +kernel
theorem dX1_nearestToNumeral_82 : decode cX1_nearestToNumeral 82 = .ok (.iload_n 2, 1) := by decide +kernel
theorem dX1_nearestToNumeral_83 : decode cX1_nearestToNumeral 83 = .ok (.iaload, 1) := by decide +kernel
theorem dX1_nearestToNumeral_84 : decode cX1_nearestToNumeral 84 = .ok (.bipush 48, 2) := by decide +kernel
theorem dX1_nearestToNumeral_86 : decode cX1_nearestToNumeral 86 = .ok (.isub, 1) := by decide +kernel
theorem dX1_nearestToNumeral_87 : decode cX1_nearestToNumeral 87 = .ok (.invokevirtual 139, 3) := by decide +kernel
theorem dX1_nearestToNumeral_90 : decode cX1_nearestToNumeral 90 = .ok (.iinc 2 1, 3) := by decide +kernel
theorem dX1_nearestToNumeral_93 : decode cX1_nearestToNumeral 93 = .ok (.goto (-43), 3) := by decide +kernel
theorem dX1_nearestToNumeral_96 : decode cX1_nearestToNumeral 96 = .ok (.aload_n 0, 1) := by decide +kernel
theorem dX1_nearestToNumeral_97 : decode cX1_nearestToNumeral 97 = .ok (.invokevirtual 142, 3) := by decide +kernel
theorem dX1_nearestToNumeral_100 : decode cX1_nearestToNumeral 100 = .ok (.lreturn, 1) := by decide +kernel
theorem dX1_leadingDigit_0 : decode cX1_leadingDigit 0 = .ok (.aload_n 0, 1) := by decide +kernel
theorem dX1_leadingDigit_1 : decode cX1_leadingDigit 1 = .ok (.getfield 110, 3) := by decide +kernel
theorem dX1_leadingDigit_4 : decode cX1_leadingDigit 4 = .ok (.istore_n 1, 1) := by decide +kernel
theorem dX1_leadingDigit_5 : decode cX1_leadingDigit 5 = .ok (.iload_n 1, 1) := by decide +kernel
theorem dX1_leadingDigit_6 : decode cX1_leadingDigit 6 = .ok (.aload_n 0, 1) := by decide +kernel
theorem dX1_leadingDigit_7 : decode cX1_leadingDigit 7 = .ok (.getfield 117, 3) := by decide +kernel
theorem dX1_leadingDigit_10 : decode cX1_leadingDigit 10 = .ok (.if_icmp .ge 31, 3) := by decide +kernel
theorem dX1_leadingDigit_13 : decode cX1_leadingDigit 13 = .ok (.aload_n 0, 1) := by decide +kernel
theorem dX1_leadingDigit_14 : decode cX1_leadingDigit 14 = .ok (.getfield 9, 3) := by decide +kernel
theorem dX1_leadingDigit_17 : decode cX1_leadingDigit 17 = .ok (.iload_n 1, 1) := by decide +kernel
theorem dX1_leadingDigit_18 : decode cX1_leadingDigit 18 = .ok (.iaload, 1) := by decide +kernel
theorem dX1_leadingDigit_19 : decode cX1_leadingDigit 19 = .ok (.bipush 48, 2) := by decide +kernel
theorem dX1_leadingDigit_21 : decode cX1_leadingDigit 21 = .ok (.if_icmp .eq 14, 3) := by decide +kernel
theorem dX1_leadingDigit_24 : decode cX1_leadingDigit 24 = .ok (.aload_n 0, 1) := by decide +kernel
theorem dX1_leadingDigit_25 : decode cX1_leadingDigit 25 = .ok (.getfield 9, 3) := by decide +kernel
theorem dX1_leadingDigit_28 : decode cX1_leadingDigit 28 = .ok (.iload_n 1, 1) := by decide +kernel
theorem dX1_leadingDigit_29 : decode cX1_leadingDigit 29 = .ok (.iaload, 1) := by decide +kernel
theorem dX1_leadingDigit_30 : decode cX1_leadingDigit 30 = .ok (.bipush 46, 2) := by decide +kernel
theorem dX1_leadingDigit_32 : decode cX1_leadingDigit 32 = .ok (.if_icmp .ne 9, 3) := by decide +kernel
theorem dX1_leadingDigit_35 : decode cX1_leadingDigit 35 = .ok (.iinc 1 1, 3) := by decide +kernel
theorem dX1_leadingDigit_38 : decode cX1_leadingDigit 38 = .ok (.goto (-33), 3) := by decide +kernel
theorem dX1_leadingDigit_41 : decode cX1_leadingDigit 41 = .ok (.iload_n 1, 1) := by decide +kernel
theorem dX1_leadingDigit_42 : decode cX1_leadingDigit 42 = .ok (.ireturn, 1) := by decide +kernel
theorem dX1_placeOf_0 : decode cX1_placeOf 0 = .ok (.iload_n 1, 1) := by decide +kernel
theorem dX1_placeOf_1 : decode cX1_placeOf 1 = .ok (.aload_n 0, 1) := by decide +kernel
theorem dX1_placeOf_2 : decode cX1_placeOf 2 = .ok (.getfield 120, 3) := by decide +kernel
theorem dX1_placeOf_5 : decode cX1_placeOf 5 = .ok (.if_icmp .le 14, 3) := by decide +kernel
theorem dX1_placeOf_8 : decode cX1_placeOf 8 = .ok (.iload_n 1, 1) := by decide +kernel
theorem dX1_placeOf_9 : decode cX1_placeOf 9 = .ok (.aload_n 0, 1) := by decide +kernel
theorem dX1_placeOf_10 : decode cX1_placeOf 10 = .ok (.getfield 120, 3) := by decide +kernel
theorem dX1_placeOf_13 : decode cX1_placeOf 13 = .ok (.isub, 1) := by decide +kernel
theorem dX1_placeOf_14 : decode cX1_placeOf 14 = .ok (.iconst 1, 1) := by decide +kernel
theorem dX1_placeOf_15 : decode cX1_placeOf 15 = .ok (.isub, 1) := by decide +kernel
theorem dX1_placeOf_16 : decode cX1_placeOf 16 = .ok (.goto 9, 3) := by decide +kernel
theorem dX1_placeOf_19 : decode cX1_placeOf 19 = .ok (.iload_n 1, 1) := by decide +kernel
theorem dX1_placeOf_20 : decode cX1_placeOf 20 = .ok (.aload_n 0, 1) := by decide +kernel
theorem dX1_placeOf_21 : decode cX1_placeOf 21 = .ok (.getfield 120, 3) := by decide +kernel
theorem dX1_placeOf_24 : decode cX1_placeOf 24 = .ok (.isub, 1) := by decide +kernel
theorem dX1_placeOf_25 : decode cX1_placeOf 25 = .ok (.istore_n 2, 1) := by decide +kernel
theorem dX1_placeOf_26 : decode cX1_placeOf 26 = .ok (.aload_n 0, 1) := by decide +kernel
theorem dX1_placeOf_27 : decode cX1_placeOf 27 = .ok (.getfield 123, 3) := by decide +kernel
theorem dX1_placeOf_30 : decode cX1_placeOf 30 = .ok (.iload_n 2, 1) := by decide +kernel
theorem dX1_placeOf_31 : decode cX1_placeOf 31 = .ok (.isub, 1) := by decide +kernel
theorem dX1_placeOf_32 : decode cX1_placeOf 32 = .ok (.ireturn, 1) := by decide +kernel
theorem dX1_nearestToNumber_0 : decode cX1_nearestToNumber 0 = .ok (.iconst 0, 1) := by decide +kernel
theorem dX1_nearestToNumber_1 : decode cX1_nearestToNumber 1 = .ok (.istore_n 1, 1) := by decide +kernel
theorem dX1_nearestToNumber_2 : decode cX1_nearestToNumber 2 = .ok (.iconst 0, 1) := by decide +kernel
theorem dX1_nearestToNumber_3 : decode cX1_nearestToNumber 3 = .ok (.istore_n 2, 1) := by decide +kernel
theorem dX1_nearestToNumber_4 : decode cX1_nearestToNumber 4 = .ok (.iload_n 2, 1) := by decide +kernel
theorem dX1_nearestToNumber_5 : decode cX1_nearestToNumber 5 = .ok (.bipush 100, 2) := by decide +kernel
theorem dX1_nearestToNumber_7 : decode cX1_nearestToNumber 7 = .ok (.if_icmp .ge 31, 3) := by decide +kernel
theorem dX1_nearestToNumber_10 : decode cX1_nearestToNumber 10 = .ok (.aload_n 0, 1) := by decide +kernel
theorem dX1_nearestToNumber_11 : decode cX1_nearestToNumber 11 = .ok (.getfield 16, 3) := by decide +kernel
theorem dX1_nearestToNumber_14 : decode cX1_nearestToNumber 14 = .ok (.invokevirtual 145, 3) := by decide +kernel
theorem dX1_nearestToNumber_17 : decode cX1_nearestToNumber 17 = .ok (.ifCond .eq 21, 3) := by decide +kernel
theorem dX1_nearestToNumber_20 : decode cX1_nearestToNumber 20 = .ok (.aload_n 0, 1) := by decide +kernel
theorem dX1_nearestToNumber_21 : decode cX1_nearestToNumber 21 = .ok (.getfield 16, 3) := by decide +kernel
theorem dX1_nearestToNumber_24 : decode cX1_nearestToNumber 24 = .ok (.bipush (-33), 2) := by decide +kernel
theorem dX1_nearestToNumber_26 : decode cX1_nearestToNumber 26 = .ok (.invokevirtual 148, 3) := by decide +kernel
theorem dX1_nearestToNumber_29 : decode cX1_nearestToNumber 29 = .ok (.iinc 1 33, 3) := by decide +kernel
theorem dX1_nearestToNumber_32 : decode cX1_nearestToNumber 32 = .ok (.iinc 2 1, 3) := by decide +kernel
theorem dX1_nearestToNumber_35 : decode cX1_nearestToNumber 35 = .ok (.goto (-31), 3) := by decide +kernel
theorem dX1_nearestToNumber_38 : decode cX1_nearestToNumber 38 = .ok (.iconst 0, 1) := by decide +kernel
theorem dX1_nearestToNumber_39 : decode cX1_nearestToNumber 39 = .ok (.istore_n 2, 1) := by decide +kernel
theorem dX1_nearestToNumber_40 : decode cX1_nearestToNumber 40 = .ok (.iload_n 2, 1) := by decide +kernel
theorem dX1_nearestToNumber_41 : decode cX1_nearestToNumber 41 = .ok (.bipush 100, 2) := by decide +kernel
theorem dX1_nearestToNumber_43 : decode cX1_nearestToNumber 43 = .ok (.if_icmp .ge 34, 3) := by decide +kernel
theorem dX1_nearestToNumber_46 : decode cX1_nearestToNumber 46 = .ok (.aload_n 0, 1) := by decide +kernel
theorem dX1_nearestToNumber_47 : decode cX1_nearestToNumber 47 = .ok (.iload_n 1, 1) := by decide +kernel
theorem dX1_nearestToNumber_48 : decode cX1_nearestToNumber 48 = .ok (.invokevirtual 151, 3) := by decide +kernel
theorem dX1_nearestToNumber_51 : decode cX1_nearestToNumber 51 = .ok (.istore_n 3, 1) := by decide +kernel
theorem dX1_nearestToNumber_52 : decode cX1_nearestToNumber 52 = .ok (.iload_n 3, 1) := by decide +kernel
theorem dX1_nearestToNumber_53 : decode cX1_nearestToNumber 53 = .ok (.ifCond .ne 6, 3) := by decide +kernel
theorem dX1_nearestToNumber_56 : decode cX1_nearestToNumber 56 = .ok (.goto 21, 3) := by decide +kernel
theorem dX1_nearestToNumber_59 : decode cX1_nearestToNumber 59 = .ok (.aload_n 0, 1) := by decide +kernel
theorem dX1_nearestToNumber_60 : decode cX1_nearestToNumber 60 = .ok (.getfield 16, 3) := by decide +kernel
theorem dX1_nearestToNumber_63 : decode cX1_nearestToNumber 63 = .ok (.iload_n 3, 1) := by decide +kernel
theorem dX1_nearestToNumber_64 : decode cX1_nearestToNumber 64 = .ok (.invokevirtual 148, 3) := by decide +kernel
theorem dX1_nearestToNumber_67 : decode cX1_nearestToNumber 67 = .ok (.iload_n 1, 1) := by decide +kernel
theorem dX1_nearestToNumber_68 : decode cX1_nearestToNumber 68 = .ok (.iload_n 3, 1) := by decide +kernel
theorem dX1_nearestToNumber_69 : decode cX1_nearestToNumber 69 = .ok (.isub, 1) := by decide +kernel
theorem dX1_nearestToNumber_70 : decode cX1_nearestToNumber 70 = .ok (.istore_n 1, 1) := by decide +kernel
theorem dX1_nearestToNumber_71 : decode cX1_nearestToNumber 71 = .ok (.iinc 2 1, 3) := by decide +kernel
theorem dX1_nearestToNumber_74 : decode cX1_nearestToNumber 74 = .ok (.goto (-34), 3) := by decide +kernel
theorem dX1_nearestToNumber_77 : decode cX1_nearestToNumber 77 = .ok (.aload_n 0, 1) := by decide +kernel
theorem dX1_nearestToNumber_78 : decode cX1_nearestToNumber 78 = .ok (.getfield 20, 3) := by decide +kernel
theorem dX1_nearestToNumber_81 : decode cX1_nearestToNumber 81 = .ok (.aload_n 0, 1) := by decide +kernel
theorem dX1_nearestToNumber_82 : decode cX1_nearestToNumber 82 = .ok (.getfield 16, 3) := by decide +kernel
theorem dX1_nearestToNumber_85 : decode cX1_nearestToNumber 85 = .ok (.iconst 0, 1) := by decide +kernel
theorem dX1_nearestToNumber_86 : decode cX1_nearestToNumber 86 = .ok (.invokevirtual 73, 3) := by decide +kernel
theorem dX1_nearestToNumber_89 : decode cX1_nearestToNumber 89 = .ok (.aload_n 0, 1) := by decide +kernel
theorem dX1_nearestToNumber_90 : decode cX1_nearestToNumber 90 = .ok (.getfield 20, 3) := by decide +kernel
theorem dX1_nearestToNumber_93 : decode cX1_nearestToNumber 93 = .ok (.invokevirtual 154, 3) := by decide +kernel
theorem dX1_nearestToNumber_96 : decode cX1_nearestToNumber 96 = .ok (.iload_n 1, 1) := by decide +kernel
theorem dX1_nearestToNumber_97 : decode cX1_nearestToNumber 97 = .ok (.invokestatic 157, 3) := by decide +kernel
theorem dX1_nearestToNumber_100 : decode cX1_nearestToNumber 100 = .ok (.lreturn, 1) := by decide +kernel
theorem dX1_bitsToScale_0 : decode cX1_bitsToScale 0 = .ok (.bipush 64, 2) := by decide +kernel
theorem dX1_bitsToScale_2 : decode cX1_bitsToScale 2 = .ok (.aload_n 0, 1) := by decide +kernel
theorem dX1_bitsToScale_3 : decode cX1_bitsToScale 3 = .ok (.getfield 16, 3) := by decide +kernel
theorem dX1_bitsToScale_6 : decode cX1_bitsToScale 6 = .ok (.invokevirtual 154, 3) := by decide +kernel
theorem dX1_bitsToScale_9 : decode cX1_bitsToScale 9 = .ok (.invokestatic 161, 3) := by decide +kernel
theorem dX1_bitsToScale_12 : decode cX1_bitsToScale 12 = .ok (.isub, 1) := by decide +kernel
theorem dX1_bitsToScale_13 : decode cX1_bitsToScale 13 = .ok (.istore_n 2, 1) := by decide +kernel
theorem dX1_bitsToScale_14 : decode cX1_bitsToScale 14 = .ok (.bipush 53, 2) := by decide +kernel
theorem dX1_bitsToScale_16 : decode cX1_bitsToScale 16 = .ok (.iload_n 2, 1) := by decide +kernel
theorem dX1_bitsToScale_17 : decode cX1_bitsToScale 17 = .ok (.isub, 1) := by decide +kernel
theorem dX1_bitsToScale_18 : decode cX1_bitsToScale 18 = .ok (.bipush 33, 2) := by decide +kernel
theorem dX1_bitsToScale_20 : decode cX1_bitsToScale 20 = .ok (.invokestatic 166, 3) := by decide +kernel
theorem dX1_bitsToScale_23 : decode cX1_bitsToScale 23 = .ok (.istore_n 3, 1) := by decide +kernel
theorem dX1_bitsToScale_24 : decode cX1_bitsToScale 24 = .ok (.iload_n 3, 1) := by decide +kernel
theorem dX1_bitsToScale_25 : decode cX1_bitsToScale 25 = .ok (.iload_n 1, 1) := by decide +kernel
theorem dX1_bitsToScale_26 : decode cX1_bitsToScale 26 = .ok (.sipush (-1074), 3) := by decide +kernel
theorem dX1_bitsToScale_29 : decode cX1_bitsToScale 29 = .ok (.isub, 1) := by decide +kernel
theorem dX1_bitsToScale_30 : decode cX1_bitsToScale 30 = .ok (.invokestatic 166, 3) := by decide +kernel
theorem dX1_bitsToScale_33 : decode cX1_bitsToScale 33 = .ok (.ireturn, 1) := by decide +kernel
theorem dX1_joined_0 : decode cX1_joined 0 = .ok (.iload_n 2, 1) := by decide +kernel
theorem dX1_joined_1 : decode cX1_joined 1 = .ok (.sipush 971, 3) := by decide +kernel
theorem dX1_joined_4 : decode cX1_joined 4 = .ok (.if_icmp .le 7, 3) := by decide +kernel
theorem dX1_joined_7 : decode cX1_joined 7 = .ok (.ldc2_w 104, 3) := by decide +kernel
theorem dX1_joined_10 : decode cX1_joined 10 = .ok (.lreturn, 1) := by decide +kernel
theorem dX1_joined_11 : decode cX1_joined 11 = .ok (.iload_n 2, 1) := by decide +kernel
theorem dX1_joined_12 : decode cX1_joined 12 = .ok (.sipush (-1074), 3) := by decide +kernel
theorem dX1_joined_15 : decode cX1_joined 15 = .ok (.isub, 1) := by decide +kernel
theorem dX1_joined_16 : decode cX1_joined 16 = .ok (.i2l, 1) := by decide +kernel
theorem dX1_joined_17 : decode cX1_joined 17 = .ok (.bipush 52, 2) := by decide +kernel
theorem dX1_joined_19 : decode cX1_joined 19 = .ok (.lshl, 1) := by decide +kernel
theorem dX1_joined_20 : decode cX1_joined 20 = .ok (.lload_n 0, 1) := by decide +kernel
theorem dX1_joined_21 : decode cX1_joined 21 = .ok (.ladd, 1) := by decide +kernel
theorem dX1_joined_22 : decode cX1_joined 22 = .ok (.lreturn, 1) := by decide +kernel
theorem dX1_putShortest_0 : decode cX1_putShortest 0 = .ok (.aload_n 0, 1) := by decide +kernel
theorem dX1_putShortest_1 : decode cX1_putShortest 1 = .ok (.getfield 16, 3) := by decide +kernel
theorem dX1_putShortest_4 : decode cX1_putShortest 4 = .ok (.lload_n 1, 1) := by decide +kernel
theorem dX1_putShortest_5 : decode cX1_putShortest 5 = .ok (.iload_n 3, 1) := by decide +kernel
theorem dX1_putShortest_6 : decode cX1_putShortest 6 = .ok (.invokevirtual 69, 3) := by decide +kernel
theorem dX1_putShortest_9 : decode cX1_putShortest 9 = .ok (.aload_n 0, 1) := by decide +kernel
theorem dX1_putShortest_10 : decode cX1_putShortest 10 = .ok (.lload_n 1, 1) := by decide +kernel
theorem dX1_putShortest_11 : decode cX1_putShortest 11 = .ok (.iload_n 3, 1) := by decide +kernel
theorem dX1_putShortest_12 : decode cX1_putShortest 12 = .ok (.invokevirtual 169, 3) := by decide +kernel
theorem dX1_putShortest_15 : decode cX1_putShortest 15 = .ok (.aload_n 0, 1) := by decide +kernel
theorem dX1_putShortest_16 : decode cX1_putShortest 16 = .ok (.lload_n 1, 1) := by decide +kernel
theorem dX1_putShortest_17 : decode cX1_putShortest 17 = .ok (.ldc2_w 172, 3) := by decide +kernel
theorem dX1_putShortest_20 : decode cX1_putShortest 20 = .ok (.lrem, 1) := by decide +kernel
theorem dX1_putShortest_21 : decode cX1_putShortest 21 = .ok (.lconst 0, 1) := by decide +kernel
theorem dX1_putShortest_22 : decode cX1_putShortest 22 = .ok (.lcmp, 1) := by decide +kernel
theorem dX1_putShortest_23 : decode cX1_putShortest 23 = .ok (.ifCond .ne 7, 3) := by decide +kernel
theorem dX1_putShortest_26 : decode cX1_putShortest 26 = .ok (.iconst 1, 1) := by decide +kernel
theorem dX1_putShortest_27 : decode cX1_putShortest 27 = .ok (.goto 4, 3) := by decide +kernel
theorem dX1_putShortest_30 : decode cX1_putShortest 30 = .ok (.iconst 0, 1) := by decide +kernel
theorem dX1_putShortest_31 : decode cX1_putShortest 31 = .ok (.invokevirtual 174, 3) := by decide +kernel
theorem dX1_putShortest_34 : decode cX1_putShortest 34 = .ok (.istore 4, 2) := by decide +kernel
theorem dX1_putShortest_36 : decode cX1_putShortest 36 = .ok (.aload_n 0, 1) := by decide +kernel
theorem dX1_putShortest_37 : decode cX1_putShortest 37 = .ok (.getfield 20, 3) := by decide +kernel
theorem dX1_putShortest_40 : decode cX1_putShortest 40 = .ok (.invokevirtual 81, 3) := by decide +kernel
theorem dX1_putShortest_43 : decode cX1_putShortest 43 = .ok (.istore 5, 2) := by decide +kernel
theorem dX1_putShortest_45 : decode cX1_putShortest 45 = .ok (.aload_n 0, 1) := by decide +kernel
theorem dX1_putShortest_46 : decode cX1_putShortest 46 = .ok (.iload 5, 2) := by decide +kernel
theorem dX1_putShortest_48 : decode cX1_putShortest 48 = .ok (.iload 5, 2) := by decide +kernel
theorem dX1_putShortest_50 : decode cX1_putShortest 50 = .ok (.invokevirtual 91, 3) := by decide +kernel
theorem dX1_putShortest_53 : decode cX1_putShortest 53 = .ok (.iload 4, 2) := by decide +kernel
theorem dX1_putShortest_55 : decode cX1_putShortest 55 = .ok (.iconst 1, 1) := by decide +kernel
theorem dX1_putShortest_56 : decode cX1_putShortest 56 = .ok (.if_icmp .le 24, 3) := by decide +kernel
theorem dX1_putShortest_59 : decode cX1_putShortest 59 = .ok (.aload_n 0, 1) := by decide +kernel
theorem dX1_putShortest_60 : decode cX1_putShortest 60 = .ok (.bipush 46, 2) := by decide +kernel
theorem dX1_putShortest_62 : decode cX1_putShortest 62 = .ok (.invokevirtual 39, 3) := by decide +kernel
theorem dX1_putShortest_65 : decode cX1_putShortest 65 = .ok (.aload_n 0, 1) := by decide +kernel
theorem dX1_putShortest_66 : decode cX1_putShortest 66 = .ok (.iload 5, 2) := by decide +kernel
theorem dX1_putShortest_68 : decode cX1_putShortest 68 = .ok (.iconst 1, 1) := by decide +kernel
theorem dX1_putShortest_69 : decode cX1_putShortest 69 = .ok (.isub, 1) := by decide +kernel
theorem dX1_putShortest_70 : decode cX1_putShortest 70 = .ok (.iload 5, 2) := by decide +kernel
theorem dX1_putShortest_72 : decode cX1_putShortest 72 = .ok (.iload 4, 2) := by decide +kernel
theorem dX1_putShortest_74 : decode cX1_putShortest 74 = .ok (.isub, 1) := by decide +kernel
theorem dX1_putShortest_75 : decode cX1_putShortest 75 = .ok (.iconst 1, 1) := by decide +kernel
theorem dX1_putShortest_76 : decode cX1_putShortest 76 = .ok (.iadd, 1) := by decide +kernel
theorem dX1_putShortest_77 : decode cX1_putShortest 77 = .ok (.invokevirtual 91, 3) := by decide +kernel
theorem dX1_putShortest_80 : decode cX1_putShortest 80 = .ok (.aload_n 0, 1) := by decide +kernel
theorem dX1_putShortest_81 : decode cX1_putShortest 81 = .ok (.iload 5, 2) := by decide +kernel
theorem dX1_putShortest_83 : decode cX1_putShortest 83 = .ok (.invokevirtual 95, 3) := by decide +kernel
theorem dX1_putShortest_86 : decode cX1_putShortest 86 = .ok (.return_, 1) := by decide +kernel
theorem dX1_takeEdges_0 : decode cX1_takeEdges 0 = .ok (.lload_n 1, 1) := by decide +kernel
theorem dX1_takeEdges_1 : decode cX1_takeEdges 1 = .ok (.ldc2_w 108, 3) := by decide +kernel
theorem dX1_takeEdges_4 : decode cX1_takeEdges 4 = .ok (.lcmp, 1) := by decide +kernel
theorem dX1_takeEdges_5 : decode cX1_takeEdges 5 = .ok (.ifCond .ne 14, 3) := by decide +kernel
theorem dX1_takeEdges_8 : decode cX1_takeEdges 8 = .ok (.iload_n 3, 1) := by decide +kernel
theorem dX1_takeEdges_9 : decode cX1_takeEdges 9 = .ok (.sipush (-1074), 3) := by decide +kernel
theorem dX1_takeEdges_12 : decode cX1_takeEdges 12 = .ok (.if_icmp .le 7, 3) := by decide +kernel
theorem dX1_takeEdges_15 : decode cX1_takeEdges 15 = .ok (.iconst 1, 1) := by decide +kernel
theorem dX1_takeEdges_16 : decode cX1_takeEdges 16 = .ok (.goto 4, 3) := by decide +kernel
theorem dX1_takeEdges_19 : decode cX1_takeEdges 19 = .ok (.iconst 0, 1) := by decide +kernel
theorem dX1_takeEdges_20 : decode cX1_takeEdges 20 = .ok (.istore 4, 2) := by decide +kernel
theorem dX1_takeEdges_22 : decode cX1_takeEdges 22 = .ok (.ldc2_w 178, 3) := by decide +kernel
theorem dX1_takeEdges_25 : decode cX1_takeEdges 25 = .ok (.lload_n 1, 1) := by decide +kernel
theorem dX1_takeEdges_26 : decode cX1_takeEdges 26 = .ok (.lmul, 1) := by decide +kernel
theorem dX1_takeEdges_27 : decode cX1_takeEdges 27 = .ok (.lstore 5, 2) := by decide +kernel
theorem dX1_takeEdges_29 : decode cX1_takeEdges 29 = .ok (.aload_n 0, 1) := by decide +kernel
theorem dX1_takeEdges_30 : decode cX1_takeEdges 30 = .ok (.getfield 23, 3) := by decide +kernel
theorem dX1_takeEdges_33 : decode cX1_takeEdges 33 = .ok (.lload 5, 2) := by decide +kernel
theorem dX1_takeEdges_35 : decode cX1_takeEdges 35 = .ok (.iload 4, 2) := by decide +kernel
theorem dX1_takeEdges_37 : decode cX1_takeEdges 37 = .ok (.ifCond .eq 7, 3) := by decide +kernel
theorem dX1_takeEdges_40 : decode cX1_takeEdges 40 = .ok (.iconst 1, 1) := by decide +kernel
theorem dX1_takeEdges_41 : decode cX1_takeEdges 41 = .ok (.goto 4, 3) := by decide +kernel
theorem dX1_takeEdges_44 : decode cX1_takeEdges 44 = .ok (.iconst 2, 1) := by decide +kernel
theorem dX1_takeEdges_45 : decode cX1_takeEdges 45 = .ok (.i2l, 1) := by decide +kernel
theorem dX1_takeEdges_46 : decode cX1_takeEdges 46 = .ok (.lsub, 1) := by decide +kernel
theorem dX1_takeEdges_47 : decode cX1_takeEdges 47 = .ok (.iload_n 3, 1) := by decide +kernel
theorem dX1_takeEdges_48 : decode cX1_takeEdges 48 = .ok (.iconst 2, 1) := by decide +kernel
theorem dX1_takeEdges_49 : decode cX1_takeEdges 49 = .ok (.isub, 1) := by decide +kernel
theorem dX1_takeEdges_50 : decode cX1_takeEdges 50 = .ok (.invokevirtual 69, 3) := by decide +kernel
theorem dX1_takeEdges_53 : decode cX1_takeEdges 53 = .ok (.aload_n 0, 1) := by decide +kernel
theorem dX1_takeEdges_54 : decode cX1_takeEdges 54 = .ok (.getfield 26, 3) := by decide +kernel
theorem dX1_takeEdges_57 : decode cX1_takeEdges 57 = .ok (.lload 5, 2) := by decide +kernel
theorem dX1_takeEdges_59 : decode cX1_takeEdges 59 = .ok (.ldc2_w 172, 3) := by decide +kernel
theorem dX1_takeEdges_62 : decode cX1_takeEdges 62 = .ok (.ladd, 1) := by decide +kernel
theorem dX1_takeEdges_63 : decode cX1_takeEdges 63 = .ok (.iload_n 3, 1) := by decide +kernel
theorem dX1_takeEdges_64 : decode cX1_takeEdges 64 = .ok (.iconst 2, 1) := by decide +kernel
theorem dX1_takeEdges_65 : decode cX1_takeEdges 65 = .ok (.isub, 1) := by decide +kernel
theorem dX1_takeEdges_66 : decode cX1_takeEdges 66 = .ok (.invokevirtual 69, 3) := by decide +kernel
theorem dX1_takeEdges_69 : decode cX1_takeEdges 69 = .ok (.return_, 1) := by decide +kernel
theorem dX1_roundToFewest_0 : decode cX1_roundToFewest 0 = .ok (.aload_n 0, 1) := by decide +kernel
theorem dX1_roundToFewest_1 : decode cX1_roundToFewest 1 = .ok (.getfield 16, 3) := by decide +kernel
theorem dX1_roundToFewest_4 : decode cX1_roundToFewest 4 = .ok (.invokevirtual 81, 3) := by decide +kernel
theorem dX1_roundToFewest_7 : decode cX1_roundToFewest 7 = .ok (.istore_n 2, 1) := by decide +kernel
theorem dX1_roundToFewest_8 : decode cX1_roundToFewest 8 = .ok (.iconst 1, 1) := by decide +kernel
theorem dX1_roundToFewest_9 : decode cX1_roundToFewest 9 = .ok (.istore_n 3, 1) := by decide +kernel
theorem dX1_roundToFewest_10 : decode cX1_roundToFewest 10 = .ok (.iload_n 3, 1) := by decide +kernel
theorem dX1_roundToFewest_11 : decode cX1_roundToFewest 11 = .ok (.bipush 17, 2) := by decide +kernel
theorem dX1_roundToFewest_13 : decode cX1_roundToFewest 13 = .ok (.if_icmp .ge 35, 3) := by decide +kernel
theorem dX1_roundToFewest_16 : decode cX1_roundToFewest 16 = .ok (.aload_n 0, 1) := by decide +kernel
theorem dX1_roundToFewest_17 : decode cX1_roundToFewest 17 = .ok (.getfield 20, 3) := by decide +kernel
theorem dX1_roundToFewest_20 : decode cX1_roundToFewest 20 = .ok (.aload_n 0, 1) := by decide +kernel
theorem dX1_roundToFewest_21 : decode cX1_roundToFewest 21 = .ok (.getfield 16, 3) := by decide +kernel
theorem dX1_roundToFewest_24 : decode cX1_roundToFewest 24 = .ok (.iload_n 2, 1) := by decide +kernel
theorem dX1_roundToFewest_25 : decode cX1_roundToFewest 25 = .ok (.iload_n 3, 1) := by decide +kernel
theorem dX1_roundToFewest_26 : decode cX1_roundToFewest 26 = .ok (.isub, 1) := by decide +kernel
theorem dX1_roundToFewest_27 : decode cX1_roundToFewest 27 = .ok (.iconst 1, 1) := by decide +kernel
theorem dX1_roundToFewest_28 : decode cX1_roundToFewest 28 = .ok (.iadd, 1) := by decide +kernel
theorem dX1_roundToFewest_29 : decode cX1_roundToFewest 29 = .ok (.invokevirtual 73, 3) := by decide +kernel
theorem dX1_roundToFewest_32 : decode cX1_roundToFewest 32 = .ok (.aload_n 0, 1) := by decide +kernel
theorem dX1_roundToFewest_33 : decode cX1_roundToFewest 33 = .ok (.iload_n 1, 1) := by decide +kernel
theorem dX1_roundToFewest_34 : decode cX1_roundToFewest 34 = .ok (.invokevirtual 180, 3) := by decide +kernel
theorem dX1_roundToFewest_37 : decode cX1_roundToFewest 37 = .ok (.ifCond .eq 5, 3) := by decide +kernel
theorem dX1_roundToFewest_40 : decode cX1_roundToFewest 40 = .ok (.iload_n 3, 1) := by decide +kernel
theorem dX1_roundToFewest_41 : decode cX1_roundToFewest 41 = .ok (.ireturn, 1) := by decide +kernel
theorem dX1_roundToFewest_42 : decode cX1_roundToFewest 42 = .ok (.iinc 3 1, 3) := by decide +kernel
theorem dX1_roundToFewest_45 : decode cX1_roundToFewest 45 = .ok (.goto (-35), 3) := by decide +kernel
theorem dX1_roundToFewest_48 : decode cX1_roundToFewest 48 = .ok (.aload_n 0, 1) := by decide +kernel
theorem dX1_roundToFewest_49 : decode cX1_roundToFewest 49 = .ok (.getfield 20, 3) := by decide +kernel
theorem dX1_roundToFewest_52 : decode cX1_roundToFewest 52 = .ok (.aload_n 0, 1) := by decide +kernel
theorem dX1_roundToFewest_53 : decode cX1_roundToFewest 53 = .ok (.getfield 16, 3) := by decide +kernel
theorem dX1_roundToFewest_56 : decode cX1_roundToFewest 56 = .ok (.iload_n 2, 1) := by decide +kernel
theorem dX1_roundToFewest_57 : decode cX1_roundToFewest 57 = .ok (.bipush 17, 2) := by decide +kernel
theorem dX1_roundToFewest_59 : decode cX1_roundToFewest 59 = .ok (.isub, 1) := by decide +kernel
theorem dX1_roundToFewest_60 : decode cX1_roundToFewest 60 = .ok (.iconst 1, 1) := by decide +kernel
theorem dX1_roundToFewest_61 : decode cX1_roundToFewest 61 = .ok (.iadd, 1) := by decide +kernel
theorem dX1_roundToFewest_62 : decode cX1_roundToFewest 62 = .ok (.invokevirtual 73, 3) := by decide +kernel
theorem dX1_roundToFewest_65 : decode cX1_roundToFewest 65 = .ok (.bipush 17, 2) := by decide +kernel
theorem dX1_roundToFewest_67 : decode cX1_roundToFewest 67 = .ok (.ireturn, 1) := by decide +kernel
theorem dX1_isBetweenEdges_0 : decode cX1_isBetweenEdges 0 = .ok (.aload_n 0, 1) := by decide +kernel
theorem dX1_isBetweenEdges_1 : decode cX1_isBetweenEdges 1 = .ok (.getfield 20, 3) := by decide +kernel
theorem dX1_isBetweenEdges_4 : decode cX1_isBetweenEdges 4 = .ok (.aload_n 0, 1) := by decide +kernel
theorem dX1_isBetweenEdges_5 : decode cX1_isBetweenEdges 5 = .ok (.getfield 23, 3) := by decide +kernel
theorem dX1_isBetweenEdges_8 : decode cX1_isBetweenEdges 8 = .ok (.invokevirtual 184, 3) := by decide +kernel
theorem dX1_isBetweenEdges_11 : decode cX1_isBetweenEdges 11 = .ok (.istore_n 2, 1) := by decide +kernel
theorem dX1_isBetweenEdges_12 : decode cX1_isBetweenEdges 12 = .ok (.aload_n 0, 1) := by decide +kernel
theorem dX1_isBetweenEdges_13 : decode cX1_isBetweenEdges 13 = .ok (.getfield 26, 3) := by decide +kernel
theorem dX1_isBetweenEdges_16 : decode cX1_isBetweenEdges 16 = .ok (.aload_n 0, 1) := by decide +kernel
theorem dX1_isBetweenEdges_17 : decode cX1_isBetweenEdges 17 = .ok (.getfield 20, 3) := by decide +kernel
theorem dX1_isBetweenEdges_20 : decode cX1_isBetweenEdges 20 = .ok (.invokevirtual 184, 3) := by decide +kernel
theorem dX1_isBetweenEdges_23 : decode cX1_isBetweenEdges 23 = .ok (.istore_n 3, 1) := by decide +kernel
theorem dX1_isBetweenEdges_24 : decode cX1_isBetweenEdges 24 = .ok (.iload_n 1, 1) := by decide +kernel
theorem dX1_isBetweenEdges_25 : decode cX1_isBetweenEdges 25 = .ok (.ifCond .eq 17, 3) := by decide +kernel
theorem dX1_isBetweenEdges_28 : decode cX1_isBetweenEdges 28 = .ok (.iload_n 2, 1) := by decide +kernel
theorem dX1_isBetweenEdges_29 : decode cX1_isBetweenEdges 29 = .ok (.ifCond .lt 11, 3) := by decide +kernel
theorem dX1_isBetweenEdges_32 : decode cX1_isBetweenEdges 32 = .ok (.iload_n 3, 1) := by decide +kernel
theorem dX1_isBetweenEdges_33 : decode cX1_isBetweenEdges 33 = .ok (.ifCond .lt 7, 3) := by decide +kernel
theorem dX1_isBetweenEdges_36 : decode cX1_isBetweenEdges 36 = .ok (.iconst 1, 1) := by decide +kernel
theorem dX1_isBetweenEdges_37 : decode cX1_isBetweenEdges 37 = .ok (.goto 4, 3) := by decide +kernel
theorem dX1_isBetweenEdges_40 : decode cX1_isBetweenEdges 40 = .ok (.iconst 0, 1) := by decide +kernel
theorem dX1_isBetweenEdges_41 : decode cX1_isBetweenEdges 41 = .ok (.ireturn, 1) := by decide +kernel
theorem dX1_isBetweenEdges_42 : decode cX1_isBetweenEdges 42 = .ok (.iload_n 2, 1) := by decide +kernel
theorem dX1_isBetweenEdges_43 : decode cX1_isBetweenEdges 43 = .ok (.ifCond .le 11, 3) := by decide +kernel
theorem dX1_isBetweenEdges_46 : decode cX1_isBetweenEdges 46 = .ok (.iload_n 3, 1) := by decide +kernel
theorem dX1_isBetweenEdges_47 : decode cX1_isBetweenEdges 47 = .ok (.ifCond .le 7, 3) := by decide +kernel
theorem dX1_isBetweenEdges_50 : decode cX1_isBetweenEdges 50 = .ok (.iconst 1, 1) := by decide +kernel
theorem dX1_isBetweenEdges_51 : decode cX1_isBetweenEdges 51 = .ok (.goto 4, 3) := by decide +kernel
theorem dX1_isBetweenEdges_54 : decode cX1_isBetweenEdges 54 = .ok (.iconst 0, 1) := by decide +kernel
theorem dX1_isBetweenEdges_55 : decode cX1_isBetweenEdges 55 = .ok (.ireturn, 1) := by decide +kernel
theorem dX1_startText_0 : decode cX1_startText 0 = .ok (.aload_n 0, 1) := by decide +kernel
theorem dX1_startText_1 : decode cX1_startText 1 = .ok (.iconst 0, 1) := by decide +kernel
theorem dX1_startText_2 : decode cX1_startText 2 = .ok (.putfield 29, 3) := by decide +kernel
theorem dX1_startText_5 : decode cX1_startText 5 = .ok (.lload_n 1, 1) := by decide +kernel
theorem dX1_startText_6 : decode cX1_startText 6 = .ok (.lconst 0, 1) := by decide +kernel
theorem dX1_startText_7 : decode cX1_startText 7 = .ok (.lcmp, 1) := by decide +kernel
theorem dX1_startText_8 : decode cX1_startText 8 = .ok (.ifCond .ge 9, 3) := by decide +kernel
theorem dX1_startText_11 : decode cX1_startText 11 = .ok (.aload_n 0, 1) := by decide +kernel
theorem dX1_startText_12 : decode cX1_startText 12 = .ok (.bipush 45, 2) := by decide +kernel
theorem dX1_startText_14 : decode cX1_startText 14 = .ok (.invokevirtual 39, 3) := by decide +kernel
theorem dX1_startText_17 : decode cX1_startText 17 = .ok (.return_, 1) := by decide +kernel
theorem dX1_put_0 : decode cX1_put 0 = .ok (.aload_n 0, 1) := by decide +kernel
theorem dX1_put_1 : decode cX1_put 1 = .ok (.getfield 29, 3) := by decide +kernel
theorem dX1_put_4 : decode cX1_put 4 = .ok (.sipush 400, 3) := by decide +kernel
theorem dX1_put_7 : decode cX1_put 7 = .ok (.if_icmp .ge 23, 3) := by decide +kernel
theorem dX1_put_10 : decode cX1_put 10 = .ok (.aload_n 0, 1) := by decide +kernel
theorem dX1_put_11 : decode cX1_put 11 = .ok (.getfield 9, 3) := by decide +kernel
theorem dX1_put_14 : decode cX1_put 14 = .ok (.aload_n 0, 1) := by decide +kernel
theorem dX1_put_15 : decode cX1_put 15 = .ok (.getfield 29, 3) := by decide +kernel
theorem dX1_put_18 : decode cX1_put 18 = .ok (.iload_n 1, 1) := by decide +kernel
theorem dX1_put_19 : decode cX1_put 19 = .ok (.iastore, 1) := by decide +kernel
theorem dX1_put_20 : decode cX1_put 20 = .ok (.aload_n 0, 1) := by decide +kernel
theorem dX1_put_21 : decode cX1_put 21 = .ok (.dup, 1) := by decide +kernel
theorem dX1_put_22 : decode cX1_put 22 = .ok (.getfield 29, 3) := by decide +kernel
theorem dX1_put_25 : decode cX1_put 25 = .ok (.iconst 1, 1) := by decide +kernel
theorem dX1_put_26 : decode cX1_put 26 = .ok (.iadd, 1) := by decide +kernel
theorem dX1_put_27 : decode cX1_put 27 = .ok (.putfield 29, 3) := by decide +kernel
theorem dX1_put_30 : decode cX1_put 30 = .ok (.return_, 1) := by decide +kernel
theorem dX1_putDigits_0 : decode cX1_putDigits 0 = .ok (.iload_n 1, 1) := by decide +kernel
theorem dX1_putDigits_1 : decode cX1_putDigits 1 = .ok (.istore_n 3, 1) := by decide +kernel
theorem dX1_putDigits_2 : decode cX1_putDigits 2 = .ok (.iload_n 3, 1) := by decide +kernel
theorem dX1_putDigits_3 : decode cX1_putDigits 3 = .ok (.iload_n 2, 1) := by decide +kernel
theorem dX1_putDigits_4 : decode cX1_putDigits 4 = .ok (.if_icmp .lt 24, 3) := by decide +kernel
theorem dX1_putDigits_7 : decode cX1_putDigits 7 = .ok (.aload_n 0, 1) := by decide +kernel
theorem dX1_putDigits_8 : decode cX1_putDigits 8 = .ok (.bipush 48, 2) := by decide +kernel
theorem dX1_putDigits_10 : decode cX1_putDigits 10 = .ok (.aload_n 0, 1) := by decide +kernel
theorem dX1_putDigits_11 : decode cX1_putDigits 11 = .ok (.getfield 20, 3) := by decide +kernel
theorem dX1_putDigits_14 : decode cX1_putDigits 14 = .ok (.iload_n 3, 1) := by decide +kernel
theorem dX1_putDigits_15 : decode cX1_putDigits 15 = .ok (.invokevirtual 188, 3) := by decide +kernel
theorem dX1_putDigits_18 : decode cX1_putDigits 18 = .ok (.iadd, 1) := by decide +kernel
theorem dX1_putDigits_19 : decode cX1_putDigits 19 = .ok (.invokevirtual 39, 3) := by decide +kernel
theorem dX1_putDigits_22 : decode cX1_putDigits 22 = .ok (.iinc 3 (-1), 3) := by decide +kernel
theorem dX1_putDigits_25 : decode cX1_putDigits 25 = .ok (.goto (-23), 3) := by decide +kernel
theorem dX1_putDigits_28 : decode cX1_putDigits 28 = .ok (.return_, 1) := by decide +kernel
theorem dX1_putPower_0 : decode cX1_putPower 0 = .ok (.aload_n 0, 1) := by decide +kernel
theorem dX1_putPower_1 : decode cX1_putPower 1 = .ok (.bipush 101, 2) := by decide +kernel
theorem dX1_putPower_3 : decode cX1_putPower 3 = .ok (.invokevirtual 39, 3) := by decide +kernel
theorem dX1_putPower_6 : decode cX1_putPower 6 = .ok (.iload_n 1, 1) := by decide +kernel
theorem dX1_putPower_7 : decode cX1_putPower 7 = .ok (.ifCond .ge 9, 3) := by decide +kernel
theorem dX1_putPower_10 : decode cX1_putPower 10 = .ok (.aload_n 0, 1) := by decide +kernel
theorem dX1_putPower_11 : decode cX1_putPower 11 = .ok (.bipush 45, 2) := by decide +kernel
theorem dX1_putPower_13 : decode cX1_putPower 13 = .ok (.invokevirtual 39, 3) := by decide +kernel
theorem dX1_putPower_16 : decode cX1_putPower 16 = .ok (.iload_n 1, 1) := by decide +kernel
theorem dX1_putPower_17 : decode cX1_putPower 17 = .ok (.invokestatic 191, 3) := by decide +kernel
theorem dX1_putPower_20 : decode cX1_putPower 20 = .ok (.istore_n 2, 1) := by decide +kernel
theorem dX1_putPower_21 : decode cX1_putPower 21 = .ok (.iload_n 2, 1) := by decide +kernel
theorem dX1_putPower_22 : decode cX1_putPower 22 = .ok (.bipush 100, 2) := by decide +kernel
theorem dX1_putPower_24 : decode cX1_putPower 24 = .ok (.if_icmp .lt 14, 3) := by decide +kernel
theorem dX1_putPower_27 : decode cX1_putPower 27 = .ok (.aload_n 0, 1) := by decide +kernel
theorem dX1_putPower_28 : decode cX1_putPower 28 = .ok (.bipush 48, 2) := by decide +kernel
theorem dX1_putPower_30 : decode cX1_putPower 30 = .ok (.iload_n 2, 1) := by decide +kernel
theorem dX1_putPower_31 : decode cX1_putPower 31 = .ok (.bipush 100, 2) := by decide +kernel
theorem dX1_putPower_33 : decode cX1_putPower 33 = .ok (.idiv, 1) := by decide +kernel
theorem dX1_putPower_34 : decode cX1_putPower 34 = .ok (.iadd, 1) := by decide +kernel
theorem dX1_putPower_35 : decode cX1_putPower 35 = .ok (.invokevirtual 39, 3) := by decide +kernel
theorem dX1_putPower_38 : decode cX1_putPower 38 = .ok (.iload_n 2, 1) := by decide +kernel
theorem dX1_putPower_39 : decode cX1_putPower 39 = .ok (.bipush 10, 2) := by decide +kernel
theorem dX1_putPower_41 : decode cX1_putPower 41 = .ok (.if_icmp .lt 17, 3) := by decide +kernel
theorem dX1_putPower_44 : decode cX1_putPower 44 = .ok (.aload_n 0, 1) := by decide +kernel
