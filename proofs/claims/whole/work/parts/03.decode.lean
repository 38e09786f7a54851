theorem dX4_init_0 : decode cX4_init 0 = .ok (.aload_n 0, 1) := by decide +kernel
theorem dX4_init_1 : decode cX4_init 1 = .ok (.invokespecial 3, 3) := by decide +kernel
theorem dX4_init_4 : decode cX4_init 4 = .ok (.aload_n 0, 1) := by decide +kernel
theorem dX4_init_5 : decode cX4_init 5 = .ok (.bipush 79, 2) := by decide +kernel
theorem dX4_init_7 : decode cX4_init 7 = .ok (.newarray .int, 2) := by decide +kernel
theorem dX4_init_9 : decode cX4_init 9 = .ok (.putfield 9, 3) := by decide +kernel
theorem dX4_init_12 : decode cX4_init 12 = .ok (.aload_n 0, 1) := by decide +kernel
theorem dX4_init_13 : decode cX4_init 13 = .ok (.bipush 79, 2) := by decide +kernel
theorem dX4_init_15 : decode cX4_init 15 = .ok (.newarray .int, 2) := by decide +kernel
theorem dX4_init_17 : decode cX4_init 17 = .ok (.putfield 13, 3) := by decide +kernel
theorem dX4_init_20 : decode cX4_init 20 = .ok (.aload_n 0, 1) := by decide +kernel
theorem dX4_init_21 : decode cX4_init 21 = .ok (.bipush 79, 2) := by decide +kernel
theorem dX4_init_23 : decode cX4_init 23 = .ok (.newarray .int, 2) := by decide +kernel
theorem dX4_init_25 : decode cX4_init 25 = .ok (.putfield 16, 3) := by decide +kernel
theorem dX4_init_28 : decode cX4_init 28 = .ok (.aload_n 0, 1) := by decide +kernel
theorem dX4_init_29 : decode cX4_init 29 = .ok (.bipush 7, 2) := by decide +kernel
theorem dX4_init_31 : decode cX4_init 31 = .ok (.newarray .int, 2) := by decide +kernel
theorem dX4_init_33 : decode cX4_init 33 = .ok (.putfield 19, 3) := by decide +kernel
theorem dX4_init_36 : decode cX4_init 36 = .ok (.aload_n 0, 1) := by decide +kernel
theorem dX4_init_37 : decode cX4_init 37 = .ok (.bipush 120, 2) := by decide +kernel
theorem dX4_init_39 : decode cX4_init 39 = .ok (.newarray .int, 2) := by decide +kernel
theorem dX4_init_41 : decode cX4_init 41 = .ok (.putfield 22, 3) := by decide +kernel
theorem dX4_init_44 : decode cX4_init 44 = .ok (.aload_n 0, 1) := by decide +kernel
theorem dX4_init_45 : decode cX4_init 45 = .ok (.iconst 4, 1) := by decide +kernel
theorem dX4_init_46 : decode cX4_init 46 = .ok (.newarray .int, 2) := by decide +kernel
theorem dX4_init_48 : decode cX4_init 48 = .ok (.putfield 25, 3) := by decide +kernel
theorem dX4_init_51 : decode cX4_init 51 = .ok (.aload_n 0, 1) := by decide +kernel
theorem dX4_init_52 : decode cX4_init 52 = .ok (.iconst 4, 1) := by decide +kernel
theorem dX4_init_53 : decode cX4_init 53 = .ok (.newarray .int, 2) := by decide +kernel
theorem dX4_init_55 : decode cX4_init 55 = .ok (.putfield 28, 3) := by decide +kernel
theorem dX4_init_58 : decode cX4_init 58 = .ok (.aload_n 0, 1) := by decide +kernel
theorem dX4_init_59 : decode cX4_init 59 = .ok (.sipush 160, 3) := by decide +kernel
theorem dX4_init_62 : decode cX4_init 62 = .ok (.newarray .int, 2) := by decide +kernel
theorem dX4_init_64 : decode cX4_init 64 = .ok (.putfield 31, 3) := by decide +kernel
theorem dX4_init_67 : decode cX4_init 67 = .ok (.aload_n 0, 1) := by decide +kernel
theorem dX4_init_68 : decode cX4_init 68 = .ok (.getfield 9, 3) := by decide +kernel
theorem dX4_init_71 : decode cX4_init 71 = .ok (.iconst 0, 1) := by decide +kernel
theorem dX4_init_72 : decode cX4_init 72 = .ok (.iconst 5, 1) := by decide +kernel
theorem dX4_init_73 : decode cX4_init 73 = .ok (.iastore, 1) := by decide +kernel
theorem dX4_init_74 : decode cX4_init 74 = .ok (.aload_n 0, 1) := by decide +kernel
theorem dX4_init_75 : decode cX4_init 75 = .ok (.getfield 9, 3) := by decide +kernel
theorem dX4_init_78 : decode cX4_init 78 = .ok (.iconst 1, 1) := by decide +kernel
theorem dX4_init_79 : decode cX4_init 79 = .ok (.iconst 5, 1) := by decide +kernel
theorem dX4_init_80 : decode cX4_init 80 = .ok (.iastore, 1) := by decide +kernel
theorem dX4_init_81 : decode cX4_init 81 = .ok (.aload_n 0, 1) := by decide +kernel
theorem dX4_init_82 : decode cX4_init 82 = .ok (.getfield 9, 3) := by decide +kernel
theorem dX4_init_85 : decode cX4_init 85 = .ok (.iconst 2, 1) := by decide +kernel
theorem dX4_init_86 : decode cX4_init 86 = .ok (.iconst 3, 1) := by decide +kernel
theorem dX4_init_87 : decode cX4_init 87 = .ok (.iastore, 1) := by decide +kernel
theorem dX4_init_88 : decode cX4_init 88 = .ok (.aload_n 0, 1) := by decide +kernel
theorem dX4_init_89 : decode cX4_init 89 = .ok (.getfield 9, 3) := by decide +kernel
theorem dX4_init_92 : decode cX4_init 92 = .ok (.bipush 7, 2) := by decide +kernel
theorem dX4_init_94 : decode cX4_init 94 = .ok (.iconst 1, 1) := by decide +kernel
theorem dX4_init_95 : decode cX4_init 95 = .ok (.iastore, 1) := by decide +kernel
theorem dX4_init_96 : decode cX4_init 96 = .ok (.iconst 0, 1) := by decide +kernel
theorem dX4_init_97 : decode cX4_init 97 = .ok (.istore_n 1, 1) := by decide +kernel
theorem dX4_init_98 : decode cX4_init 98 = .ok (.iload_n 1, 1) := by decide +kernel
theorem dX4_init_99 : decode cX4_init 99 = .ok (.bipush 10, 2) := by decide +kernel
theorem dX4_init_101 : decode cX4_init 101 = .ok (.if_icmp .ge 19, 3) := by decide +kernel
theorem dX4_init_104 : decode cX4_init 104 = .ok (.aload_n 0, 1) := by decide +kernel
theorem dX4_init_105 : decode cX4_init 105 = .ok (.getfield 9, 3) := by decide +kernel
theorem dX4_init_108 : decode cX4_init 108 = .ok (.bipush 69, 2) := by decide +kernel
theorem dX4_init_110 : decode cX4_init 110 = .ok (.iload_n 1, 1) := by decide +kernel
theorem dX4_init_111 : decode cX4_init 111 = .ok (.iadd, 1) := by decide +kernel
theorem dX4_init_112 : decode cX4_init 112 = .ok (.iconst (-1), 1) := by decide +kernel
theorem dX4_init_113 : decode cX4_init 113 = .ok (.iastore, 1) := by decide +kernel
theorem dX4_init_114 : decode cX4_init 114 = .ok (.iinc 1 1, 3) := by decide +kernel
theorem dX4_init_117 : decode cX4_init 117 = .ok (.goto (-19), 3) := by decide +kernel
theorem dX4_init_120 : decode cX4_init 120 = .ok (.return_, 1) := by decide +kernel
theorem dX4_finds_0 : decode cX4_finds 0 = .ok (.aload_n 0, 1) := by decide +kernel
theorem dX4_finds_1 : decode cX4_finds 1 = .ok (.getfield 19, 3) := by decide +kernel
theorem dX4_finds_4 : decode cX4_finds 4 = .ok (.ldc 34, 2) := by decide +kernel
theorem dX4_finds_6 : decode cX4_finds 6 = .ok (.iload_n 1, 1) := by decide +kernel
theorem dX4_finds_7 : decode cX4_finds 7 = .ok (.isub, 1) := by decide +kernel
theorem dX4_finds_8 : decode cX4_finds 8 = .ok (.dup2, 1) := by decide +kernel
theorem dX4_finds_9 : decode cX4_finds 9 = .ok (.iaload, 1) := by decide +kernel
theorem dX4_finds_10 : decode cX4_finds 10 = .ok (.iconst 1, 1) := by decide +kernel
theorem dX4_finds_11 : decode cX4_finds 11 = .ok (.iadd, 1) := by decide +kernel
theorem dX4_finds_12 : decode cX4_finds 12 = .ok (.iastore, 1) := by decide +kernel
theorem dX4_finds_13 : decode cX4_finds 13 = .ok (.iload_n 1, 1) := by decide +kernel
theorem dX4_finds_14 : decode cX4_finds 14 = .ok (.ireturn, 1) := by decide +kernel
theorem dX4_orNone_0 : decode cX4_orNone 0 = .ok (.iload_n 1, 1) := by decide +kernel
theorem dX4_orNone_1 : decode cX4_orNone 1 = .ok (.ifCond .ge 12, 3) := by decide +kernel
theorem dX4_orNone_4 : decode cX4_orNone 4 = .ok (.aload_n 0, 1) := by decide +kernel
theorem dX4_orNone_5 : decode cX4_orNone 5 = .ok (.ldc 35, 2) := by decide +kernel
theorem dX4_orNone_7 : decode cX4_orNone 7 = .ok (.invokevirtual 36, 3) := by decide +kernel
theorem dX4_orNone_10 : decode cX4_orNone 10 = .ok (.goto 4, 3) := by decide +kernel
theorem dX4_orNone_13 : decode cX4_orNone 13 = .ok (.iload_n 1, 1) := by decide +kernel
theorem dX4_orNone_14 : decode cX4_orNone 14 = .ok (.ireturn, 1) := by decide +kernel
theorem dX4_in_0 : decode cX4_in 0 = .ok (.lload_n 0, 1) := by decide +kernel
theorem dX4_in_1 : decode cX4_in 1 = .ok (.lload_n 2, 1) := by decide +kernel
theorem dX4_in_2 : decode cX4_in 2 = .ok (.lcmp, 1) := by decide +kernel
theorem dX4_in_3 : decode cX4_in 3 = .ok (.ifCond .lt 14, 3) := by decide +kernel
theorem dX4_in_6 : decode cX4_in 6 = .ok (.lload_n 0, 1) := by decide +kernel
theorem dX4_in_7 : decode cX4_in 7 = .ok (.lload 4, 2) := by decide +kernel
theorem dX4_in_9 : decode cX4_in 9 = .ok (.lcmp, 1) := by decide +kernel
theorem dX4_in_10 : decode cX4_in 10 = .ok (.ifCond .gt 7, 3) := by decide +kernel
theorem dX4_in_13 : decode cX4_in 13 = .ok (.iconst 1, 1) := by decide +kernel
theorem dX4_in_14 : decode cX4_in 14 = .ok (.goto 4, 3) := by decide +kernel
theorem dX4_in_17 : decode cX4_in 17 = .ok (.iconst 0, 1) := by decide +kernel
theorem dX4_in_18 : decode cX4_in 18 = .ok (.ireturn, 1) := by decide +kernel
theorem dX4_row_0 : decode cX4_row 0 = .ok (.iconst 0, 1) := by decide +kernel
theorem dX4_row_1 : decode cX4_row 1 = .ok (.istore_n 2, 1) := by decide +kernel
theorem dX4_row_2 : decode cX4_row 2 = .ok (.iload_n 2, 1) := by decide +kernel
theorem dX4_row_3 : decode cX4_row 3 = .ok (.bipush 79, 2) := by decide +kernel
theorem dX4_row_5 : decode cX4_row 5 = .ok (.if_icmp .ge 15, 3) := by decide +kernel
theorem dX4_row_8 : decode cX4_row 8 = .ok (.aload_n 1, 1) := by decide +kernel
theorem dX4_row_9 : decode cX4_row 9 = .ok (.iload_n 2, 1) := by decide +kernel
theorem dX4_row_10 : decode cX4_row 10 = .ok (.aload_n 0, 1) := by decide +kernel
theorem dX4_row_11 : decode cX4_row 11 = .ok (.iload_n 2, 1) := by decide +kernel
theorem dX4_row_12 : decode cX4_row 12 = .ok (.iaload, 1) := by decide +kernel
theorem dX4_row_13 : decode cX4_row 13 = .ok (.iastore, 1) := by decide +kernel
theorem dX4_row_14 : decode cX4_row 14 = .ok (.iinc 2 1, 3) := by decide +kernel
theorem dX4_row_17 : decode cX4_row 17 = .ok (.goto (-15), 3) := by decide +kernel
theorem dX4_row_20 : decode cX4_row 20 = .ok (.return_, 1) := by decide +kernel
theorem dX4_becomes_0 : decode cX4_becomes 0 = .ok (.aload_n 0, 1) := by decide +kernel
theorem dX4_becomes_1 : decode cX4_becomes 1 = .ok (.getfield 9, 3) := by decide +kernel
theorem dX4_becomes_4 : decode cX4_becomes 4 = .ok (.iload_n 1, 1) := by decide +kernel
theorem dX4_becomes_5 : decode cX4_becomes 5 = .ok (.iaload, 1) := by decide +kernel
theorem dX4_becomes_6 : decode cX4_becomes 6 = .ok (.istore_n 3, 1) := by decide +kernel
theorem dX4_becomes_7 : decode cX4_becomes 7 = .ok (.aload_n 0, 1) := by decide +kernel
theorem dX4_becomes_8 : decode cX4_becomes 8 = .ok (.getfield 9, 3) := by decide +kernel
theorem dX4_becomes_11 : decode cX4_becomes 11 = .ok (.iload_n 1, 1) := by decide +kernel
theorem dX4_becomes_12 : decode cX4_becomes 12 = .ok (.iload_n 2, 1) := by decide +kernel
theorem dX4_becomes_13 : decode cX4_becomes 13 = .ok (.iastore, 1) := by decide +kernel
theorem dX4_becomes_14 : decode cX4_becomes 14 = .ok (.iload_n 3, 1) := by decide +kernel
theorem dX4_becomes_15 : decode cX4_becomes 15 = .ok (.ireturn, 1) := by decide +kernel
theorem dX4_isOne_0 : decode cX4_isOne 0 = .ok (.iload_n 1, 1) := by decide +kernel
theorem dX4_isOne_1 : decode cX4_isOne 1 = .ok (.i2l, 1) := by decide +kernel
theorem dX4_isOne_2 : decode cX4_isOne 2 = .ok (.lconst 0, 1) := by decide +kernel
theorem dX4_isOne_3 : decode cX4_isOne 3 = .ok (.aload_n 0, 1) := by decide +kernel
theorem dX4_isOne_4 : decode cX4_isOne 4 = .ok (.getfield 9, 3) := by decide +kernel
theorem dX4_isOne_7 : decode cX4_isOne 7 = .ok (.bipush 8, 2) := by decide +kernel
theorem dX4_isOne_9 : decode cX4_isOne 9 = .ok (.iaload, 1) := by decide +kernel
theorem dX4_isOne_10 : decode cX4_isOne 10 = .ok (.iconst 1, 1) := by decide +kernel
theorem dX4_isOne_11 : decode cX4_isOne 11 = .ok (.isub, 1) := by decide +kernel
theorem dX4_isOne_12 : decode cX4_isOne 12 = .ok (.i2l, 1) := by decide +kernel
theorem dX4_isOne_13 : decode cX4_isOne 13 = .ok (.invokestatic 40, 3) := by decide +kernel
theorem dX4_isOne_16 : decode cX4_isOne 16 = .ok (.ireturn, 1) := by decide +kernel
theorem dX4_isKind_0 : decode cX4_isKind 0 = .ok (.iload_n 0, 1) := by decide +kernel
theorem dX4_isKind_1 : decode cX4_isKind 1 = .ok (.i2l, 1) := by decide +kernel
theorem dX4_isKind_2 : decode cX4_isKind 2 = .ok (.lconst 0, 1) := by decide +kernel
theorem dX4_isKind_3 : decode cX4_isKind 3 = .ok (.ldc2_w 44, 3) := by decide +kernel
theorem dX4_isKind_6 : decode cX4_isKind 6 = .ok (.invokestatic 40, 3) := by decide +kernel
theorem dX4_isKind_9 : decode cX4_isKind 9 = .ok (.ireturn, 1) := by decide +kernel
theorem dX4_isHunger_0 : decode cX4_isHunger 0 = .ok (.iload_n 0, 1) := by decide +kernel
theorem dX4_isHunger_1 : decode cX4_isHunger 1 = .ok (.i2l, 1) := by decide +kernel
theorem dX4_isHunger_2 : decode cX4_isHunger 2 = .ok (.lconst 0, 1) := by decide +kernel
theorem dX4_isHunger_3 : decode cX4_isHunger 3 = .ok (.ldc2_w 46, 3) := by decide +kernel
theorem dX4_isHunger_6 : decode cX4_isHunger 6 = .ok (.invokestatic 40, 3) := by decide +kernel
theorem dX4_isHunger_9 : decode cX4_isHunger 9 = .ok (.ireturn, 1) := by decide +kernel
theorem dX4_areWeeks_0 : decode cX4_areWeeks 0 = .ok (.iload_n 0, 1) := by decide +kernel
theorem dX4_areWeeks_1 : decode cX4_areWeeks 1 = .ok (.i2l, 1) := by decide +kernel
theorem dX4_areWeeks_2 : decode cX4_areWeeks 2 = .ok (.lconst 1, 1) := by decide +kernel
theorem dX4_areWeeks_3 : decode cX4_areWeeks 3 = .ok (.ldc2_w 48, 3) := by decide +kernel
theorem dX4_areWeeks_6 : decode cX4_areWeeks 6 = .ok (.invokestatic 40, 3) := by decide +kernel
theorem dX4_areWeeks_9 : decode cX4_areWeeks 9 = .ok (.ireturn, 1) := by decide +kernel
theorem dX4_isLate_0 : decode cX4_isLate 0 = .ok (.aload_n 0, 1) := by decide +kernel
theorem dX4_isLate_1 : decode cX4_isLate 1 = .ok (.getfield 9, 3) := by decide +kernel
theorem dX4_isLate_4 : decode cX4_isLate 4 = .ok (.iconst 5, 1) := by decide +kernel
theorem dX4_isLate_5 : decode cX4_isLate 5 = .ok (.iaload, 1) := by decide +kernel
theorem dX4_isLate_6 : decode cX4_isLate 6 = .ok (.iload_n 1, 1) := by decide +kernel
theorem dX4_isLate_7 : decode cX4_isLate 7 = .ok (.iadd, 1) := by decide +kernel
theorem dX4_isLate_8 : decode cX4_isLate 8 = .ok (.sipush 999, 3) := by decide +kernel
theorem dX4_isLate_11 : decode cX4_isLate 11 = .ok (.if_icmp .le 7, 3) := by decide +kernel
theorem dX4_isLate_14 : decode cX4_isLate 14 = .ok (.iconst 1, 1) := by decide +kernel
theorem dX4_isLate_15 : decode cX4_isLate 15 = .ok (.goto 4, 3) := by decide +kernel
theorem dX4_isLate_18 : decode cX4_isLate 18 = .ok (.iconst 0, 1) := by decide +kernel
theorem dX4_isLate_19 : decode cX4_isLate 19 = .ok (.ireturn, 1) := by decide +kernel
theorem dX4_is_0 : decode cX4_is 0 = .ok (.aload_n 0, 1) := by decide +kernel
theorem dX4_is_1 : decode cX4_is 1 = .ok (.getfield 9, 3) := by decide +kernel
theorem dX4_is_4 : decode cX4_is 4 = .ok (.bipush 9, 2) := by decide +kernel
theorem dX4_is_6 : decode cX4_is 6 = .ok (.bipush 6, 2) := by decide +kernel
theorem dX4_is_8 : decode cX4_is 8 = .ok (.iload_n 1, 1) := by decide +kernel
theorem dX4_is_9 : decode cX4_is 9 = .ok (.imul, 1) := by decide +kernel
theorem dX4_is_10 : decode cX4_is 10 = .ok (.iadd, 1) := by decide +kernel
theorem dX4_is_11 : decode cX4_is 11 = .ok (.iload_n 2, 1) := by decide +kernel
theorem dX4_is_12 : decode cX4_is 12 = .ok (.iadd, 1) := by decide +kernel
theorem dX4_is_13 : decode cX4_is 13 = .ok (.iaload, 1) := by decide +kernel
theorem dX4_is_14 : decode cX4_is 14 = .ok (.ireturn, 1) := by decide +kernel
theorem dX4_makes_0 : decode cX4_makes 0 = .ok (.aload_n 0, 1) := by decide +kernel
theorem dX4_makes_1 : decode cX4_makes 1 = .ok (.getfield 9, 3) := by decide +kernel
theorem dX4_makes_4 : decode cX4_makes 4 = .ok (.bipush 9, 2) := by decide +kernel
theorem dX4_makes_6 : decode cX4_makes 6 = .ok (.bipush 6, 2) := by decide +kernel
theorem dX4_makes_8 : decode cX4_makes 8 = .ok (.iload_n 1, 1) := by decide +kernel
theorem dX4_makes_9 : decode cX4_makes 9 = .ok (.imul, 1) := by decide +kernel
theorem dX4_makes_10 : decode cX4_makes 10 = .ok (.iadd, 1) := by decide +kernel
theorem dX4_makes_11 : decode cX4_makes 11 = .ok (.iload_n 2, 1) := by decide +kernel
theorem dX4_makes_12 : decode cX4_makes 12 = .ok (.iadd, 1) := by decide +kernel
theorem dX4_makes_13 : decode cX4_makes 13 = .ok (.iload_n 3, 1) := by decide +kernel
theorem dX4_makes_14 : decode cX4_makes 14 = .ok (.iastore, 1) := by decide +kernel
theorem dX4_makes_15 : decode cX4_makes 15 = .ok (.return_, 1) := by decide +kernel
theorem dX4_comes_0 : decode cX4_comes 0 = .ok (.aload_n 0, 1) := by decide +kernel
theorem dX4_comes_1 : decode cX4_comes 1 = .ok (.getfield 9, 3) := by decide +kernel
theorem dX4_comes_4 : decode cX4_comes 4 = .ok (.bipush 8, 2) := by decide +kernel
theorem dX4_comes_6 : decode cX4_comes 6 = .ok (.iaload, 1) := by decide +kernel
theorem dX4_comes_7 : decode cX4_comes 7 = .ok (.istore 6, 2) := by decide +kernel
theorem dX4_comes_9 : decode cX4_comes 9 = .ok (.aload_n 0, 1) := by decide +kernel
theorem dX4_comes_10 : decode cX4_comes 10 = .ok (.getfield 9, 3) := by decide +kernel
theorem dX4_comes_13 : decode cX4_comes 13 = .ok (.bipush 8, 2) := by decide +kernel
theorem dX4_comes_15 : decode cX4_comes 15 = .ok (.dup2, 1) := by decide +kernel
theorem dX4_comes_16 : decode cX4_comes 16 = .ok (.iaload, 1) := by decide +kernel
theorem dX4_comes_17 : decode cX4_comes 17 = .ok (.iconst 1, 1) := by decide +kernel
theorem dX4_comes_18 : decode cX4_comes 18 = .ok (.iadd, 1) := by decide +kernel
theorem dX4_comes_19 : decode cX4_comes 19 = .ok (.iastore, 1) := by decide +kernel
theorem dX4_comes_20 : decode cX4_comes 20 = .ok (.aload_n 0, 1) := by decide +kernel
theorem dX4_comes_21 : decode cX4_comes 21 = .ok (.iload 6, 2) := by decide +kernel
theorem dX4_comes_23 : decode cX4_comes 23 = .ok (.iconst 0, 1) := by decide +kernel
theorem dX4_comes_24 : decode cX4_comes 24 = .ok (.iload_n 1, 1) := by decide +kernel
theorem dX4_comes_25 : decode cX4_comes 25 = .ok (.invokevirtual 50, 3) := by decide +kernel
theorem dX4_comes_28 : decode cX4_comes 28 = .ok (.aload_n 0, 1) := by decide +kernel
theorem dX4_comes_29 : decode cX4_comes 29 = .ok (.iload 6, 2) := by decide +kernel
theorem dX4_comes_31 : decode cX4_comes 31 = .ok (.iconst 1, 1) := by decide +kernel
theorem dX4_comes_32 : decode cX4_comes 32 = .ok (.iload_n 2, 1) := by decide +kernel
theorem dX4_comes_33 : decode cX4_comes 33 = .ok (.invokevirtual 50, 3) := by decide +kernel
theorem dX4_comes_36 : decode cX4_comes 36 = .ok (.aload_n 0, 1) := by decide +kernel
theorem dX4_comes_37 : decode cX4_comes 37 = .ok (.iload 6, 2) := by decide +kernel
theorem dX4_comes_39 : decode cX4_comes 39 = .ok (.iconst 2, 1) := by decide +kernel
theorem dX4_comes_40 : decode cX4_comes 40 = .ok (.iload_n 3, 1) := by decide +kernel
theorem dX4_comes_41 : decode cX4_comes 41 = .ok (.invokevirtual 50, 3) := by decide +kernel
theorem dX4_comes_44 : decode cX4_comes 44 = .ok (.aload_n 0, 1) := by decide +kernel
theorem dX4_comes_45 : decode cX4_comes 45 = .ok (.iload 6, 2) := by decide +kernel
theorem dX4_comes_47 : decode cX4_comes 47 = .ok (.iconst 3, 1) := by decide +kernel
theorem dX4_comes_48 : decode cX4_comes 48 = .ok (.iload 4, 2) := by decide +kernel
theorem dX4_comes_50 : decode cX4_comes 50 = .ok (.invokevirtual 50, 3) := by decide +kernel
theorem dX4_comes_53 : decode cX4_comes 53 = .ok (.aload_n 0, 1) := by decide +kernel
theorem dX4_comes_54 : decode cX4_comes 54 = .ok (.iload 6, 2) := by decide +kernel
theorem dX4_comes_56 : decode cX4_comes 56 = .ok (.iconst 4, 1) := by decide +kernel
theorem dX4_comes_57 : decode cX4_comes 57 = .ok (.iconst 0, 1) := by decide +kernel
theorem dX4_comes_58 : decode cX4_comes 58 = .ok (.invokevirtual 50, 3) := by decide +kernel
theorem dX4_comes_61 : decode cX4_comes 61 = .ok (.aload_n 0, 1) := by decide +kernel
theorem dX4_comes_62 : decode cX4_comes 62 = .ok (.iload 6, 2) := by decide +kernel
theorem dX4_comes_64 : decode cX4_comes 64 = .ok (.iconst 5, 1) := by decide +kernel
theorem dX4_comes_65 : decode cX4_comes 65 = .ok (.iload 5, 2) := by decide +kernel
theorem dX4_comes_67 : decode cX4_comes 67 = .ok (.invokevirtual 50, 3) := by decide +kernel
theorem dX4_comes_70 : decode cX4_comes 70 = .ok (.iload 6, 2) := by decide +kernel
theorem dX4_comes_72 : decode cX4_comes 72 = .ok (.ireturn, 1) := by decide +kernel
theorem dX4_citizen_0 : decode cX4_citizen 0 = .ok (.iload_n 1, 1) := by decide +kernel
theorem dX4_citizen_1 : decode cX4_citizen 1 = .ok (.invokestatic 54, 3) := by decide +kernel
theorem dX4_citizen_4 : decode cX4_citizen 4 = .ok (.ifCond .ne 10, 3) := by decide +kernel
theorem dX4_citizen_7 : decode cX4_citizen 7 = .ok (.aload_n 0, 1) := by decide +kernel
theorem dX4_citizen_8 : decode cX4_citizen 8 = .ok (.ldc 34, 2) := by decide +kernel
theorem dX4_citizen_10 : decode cX4_citizen 10 = .ok (.invokevirtual 36, 3) := by decide +kernel
theorem dX4_citizen_13 : decode cX4_citizen 13 = .ok (.ireturn, 1) := by decide +kernel
theorem dX4_citizen_14 : decode cX4_citizen 14 = .ok (.aload_n 0, 1) := by decide +kernel
theorem dX4_citizen_15 : decode cX4_citizen 15 = .ok (.getfield 9, 3) := by decide +kernel
theorem dX4_citizen_18 : decode cX4_citizen 18 = .ok (.bipush 8, 2) := by decide +kernel
theorem dX4_citizen_20 : decode cX4_citizen 20 = .ok (.iaload, 1) := by decide +kernel
theorem dX4_citizen_21 : decode cX4_citizen 21 = .ok (.bipush 10, 2) := by decide +kernel
theorem dX4_citizen_23 : decode cX4_citizen 23 = .ok (.if_icmp .ne 12, 3) := by decide +kernel
theorem dX4_citizen_26 : decode cX4_citizen 26 = .ok (.aload_n 0, 1) := by decide +kernel
theorem dX4_citizen_27 : decode cX4_citizen 27 = .ok (.ldc 58, 2) := by decide +kernel
theorem dX4_citizen_29 : decode cX4_citizen 29 = .ok (.invokevirtual 36, 3) := by decide +kernel
theorem dX4_citizen_32 : decode cX4_citizen 32 = .ok (.goto 13, 3) := by decide +kernel
theorem dX4_citizen_35 : decode cX4_citizen 35 = .ok (.aload_n 0, 1) := by decide +kernel
theorem dX4_citizen_36 : decode cX4_citizen 36 = .ok (.iload_n 1, 1) := by decide +kernel
theorem dX4_citizen_37 : decode cX4_citizen 37 = .ok (.iconst 3, 1) := by decide +kernel
theorem dX4_citizen_38 : decode cX4_citizen 38 = .ok (.iconst 0, 1) := by decide +kernel
theorem dX4_citizen_39 : decode cX4_citizen 39 = .ok (.bipush 10, 2) := by decide +kernel
theorem dX4_citizen_41 : decode cX4_citizen 41 = .ok (.iconst 0, 1) := by decide +kernel
theorem dX4_citizen_42 : decode cX4_citizen 42 = .ok (.invokevirtual 59, 3) := by decide +kernel
theorem dX4_citizen_45 : decode cX4_citizen 45 = .ok (.ireturn, 1) := by decide +kernel
theorem dX4_loafWorth_0 : decode cX4_loafWorth 0 = .ok (.aload_n 0, 1) := by decide +kernel
theorem dX4_loafWorth_1 : decode cX4_loafWorth 1 = .ok (.iload_n 1, 1) := by decide +kernel
theorem dX4_loafWorth_2 : decode cX4_loafWorth 2 = .ok (.iconst 1, 1) := by decide +kernel
theorem dX4_loafWorth_3 : decode cX4_loafWorth 3 = .ok (.invokevirtual 63, 3) := by decide +kernel
theorem dX4_loafWorth_6 : decode cX4_loafWorth 6 = .ok (.istore_n 2, 1) := by decide +kernel
theorem dX4_loafWorth_7 : decode cX4_loafWorth 7 = .ok (.aload_n 0, 1) := by decide +kernel
theorem dX4_loafWorth_8 : decode cX4_loafWorth 8 = .ok (.getfield 9, 3) := by decide +kernel
theorem dX4_loafWorth_11 : decode cX4_loafWorth 11 = .ok (.iconst 4, 1) := by decide +kernel
theorem dX4_loafWorth_12 : decode cX4_loafWorth 12 = .ok (.iaload, 1) := by decide +kernel
theorem dX4_loafWorth_13 : decode cX4_loafWorth 13 = .ok (.iconst 1, 1) := by decide +kernel
theorem dX4_loafWorth_14 : decode cX4_loafWorth 14 = .ok (.if_icmp .ne 7, 3) := by decide +kernel
theorem dX4_loafWorth_17 : decode cX4_loafWorth 17 = .ok (.iload_n 2, 1) := by decide +kernel
theorem dX4_loafWorth_18 : decode cX4_loafWorth 18 = .ok (.goto 6, 3) := by decide +kernel
theorem dX4_loafWorth_21 : decode cX4_loafWorth 21 = .ok (.iconst 2, 1) := by decide +kernel
theorem dX4_loafWorth_22 : decode cX4_loafWorth 22 = .ok (.iload_n 2, 1) := by decide +kernel
theorem dX4_loafWorth_23 : decode cX4_loafWorth 23 = .ok (.imul, 1) := by decide +kernel
theorem dX4_loafWorth_24 : decode cX4_loafWorth 24 = .ok (.istore_n 3, 1) := by decide +kernel
theorem dX4_loafWorth_25 : decode cX4_loafWorth 25 = .ok (.aload_n 0, 1) := by decide +kernel
theorem dX4_loafWorth_26 : decode cX4_loafWorth 26 = .ok (.iload_n 1, 1) := by decide +kernel
theorem dX4_loafWorth_27 : decode cX4_loafWorth 27 = .ok (.iconst 0, 1) := by decide +kernel
theorem dX4_loafWorth_28 : decode cX4_loafWorth 28 = .ok (.invokevirtual 63, 3) := by decide +kernel
theorem dX4_loafWorth_31 : decode cX4_loafWorth 31 = .ok (.tableswitch 33 4 6 #[25, 29, 31], 25) := by decide +kernel
theorem dX4_loafWorth_56 : decode cX4_loafWorth 56 = .ok (.iload_n 3, 1) := by decide +kernel
theorem dX4_loafWorth_57 : decode cX4_loafWorth 57 = .ok (.iconst 4, 1) := by decide +kernel
theorem dX4_loafWorth_58 : decode cX4_loafWorth 58 = .ok (.iadd, 1) := by decide +kernel
theorem dX4_loafWorth_59 : decode cX4_loafWorth 59 = .ok (.ireturn, 1) := by decide +kernel
theorem dX4_loafWorth_60 : decode cX4_loafWorth 60 = .ok (.iconst 3, 1) := by decide +kernel
theorem dX4_loafWorth_61 : decode cX4_loafWorth 61 = .ok (.ireturn, 1) := by decide +kernel
theorem dX4_loafWorth_62 : decode cX4_loafWorth 62 = .ok (.iconst 4, 1) := by decide +kernel
theorem dX4_loafWorth_63 : decode cX4_loafWorth 63 = .ok (.ireturn, 1) := by decide +kernel
theorem dX4_loafWorth_64 : decode cX4_loafWorth 64 = .ok (.iload_n 3, 1) := by decide +kernel
theorem dX4_loafWorth_65 : decode cX4_loafWorth 65 = .ok (.ireturn, 1) := by decide +kernel
theorem dX4_seatWorth_0 : decode cX4_seatWorth 0 = .ok (.aload_n 0, 1) := by decide +kernel
theorem dX4_seatWorth_1 : decode cX4_seatWorth 1 = .ok (.iload_n 1, 1) := by decide +kernel
theorem dX4_seatWorth_2 : decode cX4_seatWorth 2 = .ok (.iconst 2, 1) := by decide +kernel
theorem dX4_seatWorth_3 : decode cX4_seatWorth 3 = .ok (.invokevirtual 63, 3) := by decide +kernel
theorem dX4_seatWorth_6 : decode cX4_seatWorth 6 = .ok (.aload_n 0, 1) := by decide +kernel
theorem dX4_seatWorth_7 : decode cX4_seatWorth 7 = .ok (.getfield 9, 3) := by decide +kernel
theorem dX4_seatWorth_10 : decode cX4_seatWorth 10 = .ok (.iconst 3, 1) := by decide +kernel
theorem dX4_seatWorth_11 : decode cX4_seatWorth 11 = .ok (.iaload, 1) := by decide +kernel
theorem dX4_seatWorth_12 : decode cX4_seatWorth 12 = .ok (.if_icmp .ne 7, 3) := by decide +kernel
theorem dX4_seatWorth_15 : decode cX4_seatWorth 15 = .ok (.iconst 1, 1) := by decide +kernel
theorem dX4_seatWorth_16 : decode cX4_seatWorth 16 = .ok (.goto 4, 3) := by decide +kernel
theorem dX4_seatWorth_19 : decode cX4_seatWorth 19 = .ok (.iconst 0, 1) := by decide +kernel
theorem dX4_seatWorth_20 : decode cX4_seatWorth 20 = .ok (.istore_n 2, 1) := by decide +kernel
theorem dX4_seatWorth_21 : decode cX4_seatWorth 21 = .ok (.aload_n 0, 1) := by decide +kernel
theorem dX4_seatWorth_22 : decode cX4_seatWorth 22 = .ok (.iload_n 1, 1) := by decide +kernel
theorem dX4_seatWorth_23 : decode cX4_seatWorth 23 = .ok (.iconst 0, 1) := by decide +kernel
theorem dX4_seatWorth_24 : decode cX4_seatWorth 24 = .ok (.invokevirtual 63, 3) := by decide +kernel
theorem dX4_seatWorth_27 : decode cX4_seatWorth 27 = .ok (.tableswitch 65 1 6 #[37, 39, 50, 37, 61, 63], 37) := by decide +kernel
theorem dX4_seatWorth_64 : decode cX4_seatWorth 64 = .ok (.iconst 0, 1) := by decide +kernel
theorem dX4_seatWorth_65 : decode cX4_seatWorth 65 = .ok (.ireturn, 1) := by decide +kernel
theorem dX4_seatWorth_66 : decode cX4_seatWorth 66 = .ok (.iload_n 2, 1) := by decide +kernel
theorem dX4_seatWorth_67 : decode cX4_seatWorth 67 = .ok (.ifCond .eq 8, 3) := by decide +kernel
theorem dX4_seatWorth_70 : decode cX4_seatWorth 70 = .ok (.bipush 12, 2) := by decide +kernel
theorem dX4_seatWorth_72 : decode cX4_seatWorth 72 = .ok (.goto 4, 3) := by decide +kernel
theorem dX4_seatWorth_75 : decode cX4_seatWorth 75 = .ok (.iconst 1, 1) := by decide +kernel
theorem dX4_seatWorth_76 : decode cX4_seatWorth 76 = .ok (.ireturn, 1) := by decide +kernel
theorem dX4_seatWorth_77 : decode cX4_seatWorth 77 = .ok (.iload_n 2, 1) := by decide +kernel
theorem dX4_seatWorth_78 : decode cX4_seatWorth 78 = .ok (.ifCond .eq 8, 3) := by decide +kernel
theorem dX4_seatWorth_81 : decode cX4_seatWorth 81 = .ok (.bipush 12, 2) := by decide +kernel
theorem dX4_seatWorth_83 : decode cX4_seatWorth 83 = .ok (.goto 4, 3) := by decide +kernel
theorem dX4_seatWorth_86 : decode cX4_seatWorth 86 = .ok (.iconst 5, 1) := by decide +kernel
theorem dX4_seatWorth_87 : decode cX4_seatWorth 87 = .ok (.ireturn, 1) := by decide +kernel
theorem dX4_seatWorth_88 : decode cX4_seatWorth 88 = .ok (.iconst 3, 1) := by decide +kernel
theorem dX4_seatWorth_89 : decode cX4_seatWorth 89 = .ok (.ireturn, 1) := by decide +kernel
theorem dX4_seatWorth_90 : decode cX4_seatWorth 90 = .ok (.iconst 4, 1) := by decide +kernel
theorem dX4_seatWorth_91 : decode cX4_seatWorth 91 = .ok (.ireturn, 1) := by decide +kernel
theorem dX4_seatWorth_92 : decode cX4_seatWorth 92 = .ok (.iload_n 2, 1) := by decide +kernel
theorem dX4_seatWorth_93 : decode cX4_seatWorth 93 = .ok (.ifCond .eq 8, 3) := by decide +kernel
theorem dX4_seatWorth_96 : decode cX4_seatWorth 96 = .ok (.bipush 6, 2) := by decide +kernel
theorem dX4_seatWorth_98 : decode cX4_seatWorth 98 = .ok (.goto 4, 3) := by decide +kernel
theorem dX4_seatWorth_101 : decode cX4_seatWorth 101 = .ok (.iconst 2, 1) := by decide +kernel
theorem dX4_seatWorth_102 : decode cX4_seatWorth 102 = .ok (.ireturn, 1) := by decide +kernel
theorem dX4_of_0 : decode cX4_of 0 = .ok (.aload_n 0, 1) := by decide +kernel
theorem dX4_of_1 : decode cX4_of 1 = .ok (.iload_n 1, 1) := by decide +kernel
theorem dX4_of_2 : decode cX4_of 2 = .ok (.invokevirtual 67, 3) := by decide +kernel
theorem dX4_of_5 : decode cX4_of 5 = .ok (.ifCond .eq 15, 3) := by decide +kernel
theorem dX4_of_8 : decode cX4_of 8 = .ok (.iload_n 2, 1) := by decide +kernel
theorem dX4_of_9 : decode cX4_of 9 = .ok (.i2l, 1) := by decide +kernel
theorem dX4_of_10 : decode cX4_of 10 = .ok (.lconst 0, 1) := by decide +kernel
theorem dX4_of_11 : decode cX4_of 11 = .ok (.ldc2_w 70, 3) := by decide +kernel
theorem dX4_of_14 : decode cX4_of 14 = .ok (.invokestatic 40, 3) := by decide +kernel
theorem dX4_of_17 : decode cX4_of 17 = .ok (.ifCond .ne 10, 3) := by decide +kernel
theorem dX4_of_20 : decode cX4_of 20 = .ok (.aload_n 0, 1) := by decide +kernel
theorem dX4_of_21 : decode cX4_of 21 = .ok (.ldc 34, 2) := by decide +kernel
theorem dX4_of_23 : decode cX4_of 23 = .ok (.invokevirtual 36, 3) := by decide +kernel
theorem dX4_of_26 : decode cX4_of 26 = .ok (.ireturn, 1) := by decide +kernel
theorem dX4_of_27 : decode cX4_of 27 = .ok (.iload_n 2, 1) := by decide +kernel
theorem dX4_of_28 : decode cX4_of 28 = .ok (.bipush 6, 2) := by decide +kernel
theorem dX4_of_30 : decode cX4_of 30 = .ok (.if_icmp .ge 12, 3) := by decide +kernel
theorem dX4_of_33 : decode cX4_of 33 = .ok (.aload_n 0, 1) := by decide +kernel
theorem dX4_of_34 : decode cX4_of 34 = .ok (.iload_n 1, 1) := by decide +kernel
theorem dX4_of_35 : decode cX4_of 35 = .ok (.iload_n 2, 1) := by decide +kernel
theorem dX4_of_36 : decode cX4_of 36 = .ok (.invokevirtual 63, 3) := by decide +kernel
theorem dX4_of_39 : decode cX4_of 39 = .ok (.goto 22, 3) := by decide +kernel
theorem dX4_of_42 : decode cX4_of 42 = .ok (.iload_n 2, 1) := by decide +kernel
theorem dX4_of_43 : decode cX4_of 43 = .ok (.bipush 6, 2) := by decide +kernel
theorem dX4_of_45 : decode cX4_of 45 = .ok (.if_icmp .ne 11, 3) := by decide +kernel
theorem dX4_of_48 : decode cX4_of 48 = .ok (.aload_n 0, 1) := by decide +kernel
theorem dX4_of_49 : decode cX4_of 49 = .ok (.iload_n 1, 1) := by decide +kernel
theorem dX4_of_50 : decode cX4_of 50 = .ok (.invokevirtual 72, 3) := by decide +kernel
theorem dX4_of_53 : decode cX4_of 53 = .ok (.goto 8, 3) := by decide +kernel
theorem dX4_of_56 : decode cX4_of 56 = .ok (.aload_n 0, 1) := by decide +kernel
theorem dX4_of_57 : decode cX4_of 57 = .ok (.iload_n 1, 1) := by decide +kernel
theorem dX4_of_58 : decode cX4_of 58 = .ok (.invokevirtual 75, 3) := by decide +kernel
theorem dX4_of_61 : decode cX4_of 61 = .ok (.ireturn, 1) := by decide +kernel
theorem dX4_isPart_0 : decode cX4_isPart 0 = .ok (.iload_n 0, 1) := by decide +kernel
theorem dX4_isPart_1 : decode cX4_isPart 1 = .ok (.tableswitch 61 0 3 #[31, 36, 41, 51], 31) := by decide +kernel
theorem dX4_isPart_32 : decode cX4_isPart 32 = .ok (.iload_n 1, 1) := by decide +kernel
theorem dX4_isPart_33 : decode cX4_isPart 33 = .ok (.invokestatic 54, 3) := by decide +kernel
theorem dX4_isPart_36 : decode cX4_isPart 36 = .ok (.ireturn, 1) := by decide +kernel
theorem dX4_isPart_37 : decode cX4_isPart 37 = .ok (.iload_n 1, 1) := by decide +kernel
theorem dX4_isPart_38 : decode cX4_isPart 38 = .ok (.invokestatic 78, 3) := by decide +kernel
theorem dX4_isPart_41 : decode cX4_isPart 41 = .ok (.ireturn, 1) := by decide +kernel
theorem dX4_isPart_42 : decode cX4_isPart 42 = .ok (.iload_n 1, 1) := by decide +kernel
theorem dX4_isPart_43 : decode cX4_isPart 43 = .ok (.i2l, 1) := by decide +kernel
theorem dX4_isPart_44 : decode cX4_isPart 44 = .ok (.lconst 0, 1) := by decide +kernel
theorem dX4_isPart_45 : decode cX4_isPart 45 = .ok (.ldc2_w 81, 3) := by decide +kernel
theorem dX4_isPart_48 : decode cX4_isPart 48 = .ok (.invokestatic 40, 3) := by decide +kernel
theorem dX4_isPart_51 : decode cX4_isPart 51 = .ok (.ireturn, 1) := by decide +kernel
theorem dX4_isPart_52 : decode cX4_isPart 52 = .ok (.iload_n 1, 1) := by decide +kernel
theorem dX4_isPart_53 : decode cX4_isPart 53 = .ok (.i2l, 1) := by decide +kernel
theorem dX4_isPart_54 : decode cX4_isPart 54 = .ok (.lconst 0, 1) := by decide +kernel
theorem dX4_isPart_55 : decode cX4_isPart 55 = .ok (.ldc2_w 83, 3) := by decide +kernel
theorem dX4_isPart_58 : decode cX4_isPart 58 = .ok (.invokestatic 40, 3) := by decide +kernel
theorem dX4_isPart_61 : decode cX4_isPart 61 = .ok (.ireturn, 1) := by decide +kernel
theorem dX4_isPart_62 : decode cX4_isPart 62 = .ok (.iload_n 0, 1) := by decide +kernel
theorem dX4_isPart_63 : decode cX4_isPart 63 = .ok (.iconst 5, 1) := by decide +kernel
theorem dX4_isPart_64 : decode cX4_isPart 64 = .ok (.if_icmp .ne 19, 3) := by decide +kernel
theorem dX4_isPart_67 : decode cX4_isPart 67 = .ok (.iload_n 1, 1) := by decide +kernel
theorem dX4_isPart_68 : decode cX4_isPart 68 = .ok (.i2l, 1) := by decide +kernel
theorem dX4_isPart_69 : decode cX4_isPart 69 = .ok (.lconst 0, 1) := by decide +kernel
theorem dX4_isPart_70 : decode cX4_isPart 70 = .ok (.ldc2_w 85, 3) := by decide +kernel
theorem dX4_isPart_73 : decode cX4_isPart 73 = .ok (.invokestatic 40, 3) := by decide +kernel
theorem dX4_isPart_76 : decode cX4_isPart 76 = .ok (.ifCond .eq 7, 3) := by decide +kernel
theorem dX4_isPart_79 : decode cX4_isPart 79 = .ok (.iconst 1, 1) := by decide +kernel
theorem dX4_isPart_80 : decode cX4_isPart 80 = .ok (.goto 4, 3) := by decide +kernel
theorem dX4_isPart_83 : decode cX4_isPart 83 = .ok (.iconst 0, 1) := by decide +kernel
theorem dX4_isPart_84 : decode cX4_isPart 84 = .ok (.ireturn, 1) := by decide +kernel
theorem dX4_change_0 : decode cX4_change 0 = .ok (.aload_n 0, 1) := by decide +kernel
theorem dX4_change_1 : decode cX4_change 1 = .ok (.iload_n 1, 1) := by decide +kernel
theorem dX4_change_2 : decode cX4_change 2 = .ok (.invokevirtual 67, 3) := by decide +kernel
theorem dX4_change_5 : decode cX4_change 5 = .ok (.ifCond .eq 28, 3) := by decide +kernel
theorem dX4_change_8 : decode cX4_change 8 = .ok (.iload_n 2, 1) := by decide +kernel
theorem dX4_change_9 : decode cX4_change 9 = .ok (.iload_n 3, 1) := by decide +kernel
theorem dX4_change_10 : decode cX4_change 10 = .ok (.invokestatic 87, 3) := by decide +kernel
theorem dX4_change_13 : decode cX4_change 13 = .ok (.ifCond .eq 20, 3) := by decide +kernel
theorem dX4_change_16 : decode cX4_change 16 = .ok (.aload_n 0, 1) := by decide +kernel
theorem dX4_change_17 : decode cX4_change 17 = .ok (.bipush 9, 2) := by decide +kernel
theorem dX4_change_19 : decode cX4_change 19 = .ok (.bipush 6, 2) := by decide +kernel
theorem dX4_change_21 : decode cX4_change 21 = .ok (.iload_n 1, 1) := by decide +kernel
theorem dX4_change_22 : decode cX4_change 22 = .ok (.imul, 1) := by decide +kernel
theorem dX4_change_23 : decode cX4_change 23 = .ok (.iadd, 1) := by decide +kernel
theorem dX4_change_24 : decode cX4_change 24 = .ok (.iload_n 2, 1) := by decide +kernel
theorem dX4_change_25 : decode cX4_change 25 = .ok (.iadd, 1) := by decide +kernel
theorem dX4_change_26 : decode cX4_change 26 = .ok (.iload_n 3, 1) := by decide +kernel
theorem dX4_change_27 : decode cX4_change 27 = .ok (.invokevirtual 91, 3) := by decide +kernel
theorem dX4_change_30 : decode cX4_change 30 = .ok (.goto 9, 3) := by decide +kernel
theorem dX4_change_33 : decode cX4_change 33 = .ok (.aload_n 0, 1) := by decide +kernel
theorem dX4_change_34 : decode cX4_change 34 = .ok (.ldc 34, 2) := by decide +kernel
theorem dX4_change_36 : decode cX4_change 36 = .ok (.invokevirtual 36, 3) := by decide +kernel
theorem dX4_change_39 : decode cX4_change 39 = .ok (.ireturn, 1) := by decide +kernel
theorem dX4_isRule_0 : decode cX4_isRule 0 = .ok (.iload_n 0, 1) := by decide +kernel
theorem dX4_isRule_1 : decode cX4_isRule 1 = .ok (.tableswitch 61 0 3 #[31, 31, 41, 51], 31) := by decide +kernel
theorem dX4_isRule_32 : decode cX4_isRule 32 = .ok (.iload_n 1, 1) := by decide +kernel
theorem dX4_isRule_33 : decode cX4_isRule 33 = .ok (.i2l, 1) := by decide +kernel
theorem dX4_isRule_34 : decode cX4_isRule 34 = .ok (.lconst 0, 1) := by decide +kernel
theorem dX4_isRule_35 : decode cX4_isRule 35 = .ok (.ldc2_w 94, 3) := by decide +kernel
theorem dX4_isRule_38 : decode cX4_isRule 38 = .ok (.invokestatic 40, 3) := by decide +kernel
theorem dX4_isRule_41 : decode cX4_isRule 41 = .ok (.ireturn, 1) := by decide +kernel
theorem dX4_isRule_42 : decode cX4_isRule 42 = .ok (.iload_n 1, 1) := by decide +kernel
theorem dX4_isRule_43 : decode cX4_isRule 43 = .ok (.i2l, 1) := by decide +kernel
theorem dX4_isRule_44 : decode cX4_isRule 44 = .ok (.lconst 1, 1) := by decide +kernel
theorem dX4_isRule_45 : decode cX4_isRule 45 = .ok (.ldc2_w 94, 3) := by decide +kernel
theorem dX4_isRule_48 : decode cX4_isRule 48 = .ok (.invokestatic 40, 3) := by decide +kernel
theorem dX4_isRule_51 : decode cX4_isRule 51 = .ok (.ireturn, 1) := by decide +kernel
theorem dX4_isRule_52 : decode cX4_isRule 52 = .ok (.iload_n 1, 1) := by decide +kernel
theorem dX4_isRule_53 : decode cX4_isRule 53 = .ok (.i2l, 1) := by decide +kernel
theorem dX4_isRule_54 : decode cX4_isRule 54 = .ok (.lconst 0, 1) := by decide +kernel
theorem dX4_isRule_55 : decode cX4_isRule 55 = .ok (.ldc2_w 81, 3) := by decide +kernel
theorem dX4_isRule_58 : decode cX4_isRule 58 = .ok (.invokestatic 40, 3) := by decide +kernel
theorem dX4_isRule_61 : decode cX4_isRule 61 = .ok (.ireturn, 1) := by decide +kernel
theorem dX4_isRule_62 : decode cX4_isRule 62 = .ok (.iload_n 0, 1) := by decide +kernel
theorem dX4_isRule_63 : decode cX4_isRule 63 = .ok (.iconst 4, 1) := by decide +kernel
theorem dX4_isRule_64 : decode cX4_isRule 64 = .ok (.if_icmp .ne 17, 3) := by decide +kernel
theorem dX4_isRule_67 : decode cX4_isRule 67 = .ok (.iload_n 1, 1) := by decide +kernel
theorem dX4_isRule_68 : decode cX4_isRule 68 = .ok (.i2l, 1) := by decide +kernel
theorem dX4_isRule_69 : decode cX4_isRule 69 = .ok (.lconst 0, 1) := by decide +kernel
theorem dX4_isRule_70 : decode cX4_isRule 70 = .ok (.lconst 1, 1) := by decide +kernel
theorem dX4_isRule_71 : decode cX4_isRule 71 = .ok (.invokestatic 40, 3) := by decide +kernel
theorem dX4_isRule_74 : decode cX4_isRule 74 = .ok (.ifCond .eq 7, 3) := by decide +kernel
theorem dX4_isRule_77 : decode cX4_isRule 77 = .ok (.iconst 1, 1) := by decide +kernel
theorem dX4_isRule_78 : decode cX4_isRule 78 = .ok (.goto 4, 3) := by decide +kernel
theorem dX4_isRule_81 : decode cX4_isRule 81 = .ok (.iconst 0, 1) := by decide +kernel
theorem dX4_isRule_82 : decode cX4_isRule 82 = .ok (.ireturn, 1) := by decide +kernel
theorem dX4_rule_0 : decode cX4_rule 0 = .ok (.iload_n 1, 1) := by decide +kernel
theorem dX4_rule_1 : decode cX4_rule 1 = .ok (.iload_n 2, 1) := by decide +kernel
theorem dX4_rule_2 : decode cX4_rule 2 = .ok (.invokestatic 96, 3) := by decide +kernel
theorem dX4_rule_5 : decode cX4_rule 5 = .ok (.ifCond .eq 12, 3) := by decide +kernel
theorem dX4_rule_8 : decode cX4_rule 8 = .ok (.aload_n 0, 1) := by decide +kernel
theorem dX4_rule_9 : decode cX4_rule 9 = .ok (.iload_n 1, 1) := by decide +kernel
theorem dX4_rule_10 : decode cX4_rule 10 = .ok (.iload_n 2, 1) := by decide +kernel
theorem dX4_rule_11 : decode cX4_rule 11 = .ok (.invokevirtual 91, 3) := by decide +kernel
theorem dX4_rule_14 : decode cX4_rule 14 = .ok (.goto 9, 3) := by decide +kernel
theorem dX4_rule_17 : decode cX4_rule 17 = .ok (.aload_n 0, 1) := by decide +kernel
theorem dX4_rule_18 : decode cX4_rule 18 = .ok (.ldc 34, 2) := by decide +kernel
theorem dX4_rule_20 : decode cX4_rule 20 = .ok (.invokevirtual 36, 3) := by decide +kernel
theorem dX4_rule_23 : decode cX4_rule 23 = .ok (.ireturn, 1) := by decide +kernel
theorem dX4_with_0 : decode cX4_with 0 = .ok (.iconst 0, 1) := by decide +kernel
theorem dX4_with_1 : decode cX4_with 1 = .ok (.istore_n 2, 1) := by decide +kernel
theorem dX4_with_2 : decode cX4_with 2 = .ok (.iconst 0, 1) := by decide +kernel
theorem dX4_with_3 : decode cX4_with 3 = .ok (.istore_n 3, 1) := by decide +kernel
theorem dX4_with_4 : decode cX4_with 4 = .ok (.iload_n 3, 1) := by decide +kernel
theorem dX4_with_5 : decode cX4_with 5 = .ok (.aload_n 0, 1) := by decide +kernel
theorem dX4_with_6 : decode cX4_with 6 = .ok (.getfield 9, 3) := by decide +kernel
theorem dX4_with_9 : decode cX4_with 9 = .ok (.bipush 8, 2) := by decide +kernel
theorem dX4_with_11 : decode cX4_with 11 = .ok (.iaload, 1) := by decide +kernel
theorem dX4_with_12 : decode cX4_with 12 = .ok (.if_icmp .ge 29, 3) := by decide +kernel
theorem dX4_with_15 : decode cX4_with 15 = .ok (.iload_n 2, 1) := by decide +kernel
theorem dX4_with_16 : decode cX4_with 16 = .ok (.aload_n 0, 1) := by decide +kernel
theorem dX4_with_17 : decode cX4_with 17 = .ok (.iload_n 3, 1) := by decide +kernel
theorem dX4_with_18 : decode cX4_with 18 = .ok (.iconst 5, 1) := by decide +kernel
theorem dX4_with_19 : decode cX4_with 19 = .ok (.invokevirtual 63, 3) := by decide +kernel
theorem dX4_with_22 : decode cX4_with 22 = .ok (.iload_n 1, 1) := by decide +kernel
theorem dX4_with_23 : decode cX4_with 23 = .ok (.if_icmp .ne 9, 3) := by decide +kernel
theorem dX4_with_26 : decode cX4_with 26 = .ok (.iconst 1, 1) := by decide +kernel
theorem dX4_with_27 : decode cX4_with 27 = .ok (.iload_n 3, 1) := by decide +kernel
theorem dX4_with_28 : decode cX4_with 28 = .ok (.ishl, 1) := by decide +kernel
theorem dX4_with_29 : decode cX4_with 29 = .ok (.goto 4, 3) := by decide +kernel
theorem dX4_with_32 : decode cX4_with 32 = .ok (.iconst 0, 1) := by decide +kernel
theorem dX4_with_33 : decode cX4_with 33 = .ok (.ior, 1) := by decide +kernel
theorem dX4_with_34 : decode cX4_with 34 = .ok (.istore_n 2, 1) := by decide +kernel
theorem dX4_with_35 : decode cX4_with 35 = .ok (.iinc 3 1, 3) := by decide +kernel
theorem dX4_with_38 : decode cX4_with 38 = .ok (.goto (-34), 3) := by decide +kernel
theorem dX4_with_41 : decode cX4_with 41 = .ok (.iload_n 2, 1) := by decide +kernel
theorem dX4_with_42 : decode cX4_with 42 = .ok (.ireturn, 1) := by decide +kernel
theorem dX4_hungry_0 : decode cX4_hungry 0 = .ok (.iconst 0, 1) := by decide +kernel
theorem dX4_hungry_1 : decode cX4_hungry 1 = .ok (.istore_n 1, 1) := by decide +kernel
theorem dX4_hungry_2 : decode cX4_hungry 2 = .ok (.iconst 0, 1) := by decide +kernel
theorem dX4_hungry_3 : decode cX4_hungry 3 = .ok (.istore_n 2, 1) := by decide +kernel
theorem dX4_hungry_4 : decode cX4_hungry 4 = .ok (.iload_n 2, 1) := by decide +kernel
theorem dX4_hungry_5 : decode cX4_hungry 5 = .ok (.aload_n 0, 1) := by decide +kernel
theorem dX4_hungry_6 : decode cX4_hungry 6 = .ok (.getfield 9, 3) := by decide +kernel
theorem dX4_hungry_9 : decode cX4_hungry 9 = .ok (.bipush 8, 2) := by decide +kernel
theorem dX4_hungry_11 : decode cX4_hungry 11 = .ok (.iaload, 1) := by decide +kernel
theorem dX4_hungry_12 : decode cX4_hungry 12 = .ok (.if_icmp .ge 30, 3) := by decide +kernel
theorem dX4_hungry_15 : decode cX4_hungry 15 = .ok (.iload_n 1, 1) := by decide +kernel
theorem dX4_hungry_16 : decode cX4_hungry 16 = .ok (.aload_n 0, 1) := by decide +kernel
theorem dX4_hungry_17 : decode cX4_hungry 17 = .ok (.iload_n 2, 1) := by decide +kernel
theorem dX4_hungry_18 : decode cX4_hungry 18 = .ok (.iconst 1, 1) := by decide +kernel
theorem dX4_hungry_19 : decode cX4_hungry 19 = .ok (.invokevirtual 63, 3) := by decide +kernel
theorem dX4_hungry_22 : decode cX4_hungry 22 = .ok (.bipush 7, 2) := by decide +kernel
theorem dX4_hungry_24 : decode cX4_hungry 24 = .ok (.if_icmp .lt 9, 3) := by decide +kernel
theorem dX4_hungry_27 : decode cX4_hungry 27 = .ok (.iconst 1, 1) := by decide +kernel
theorem dX4_hungry_28 : decode cX4_hungry 28 = .ok (.iload_n 2, 1) := by decide +kernel
theorem dX4_hungry_29 : decode cX4_hungry 29 = .ok (.ishl, 1) := by decide +kernel
theorem dX4_hungry_30 : decode cX4_hungry 30 = .ok (.goto 4, 3) := by decide +kernel
theorem dX4_hungry_33 : decode cX4_hungry 33 = .ok (.iconst 0, 1) := by decide +kernel
theorem dX4_hungry_34 : decode cX4_hungry 34 = .ok (.ior, 1) := by decide +kernel
theorem dX4_hungry_35 : decode cX4_hungry 35 = .ok (.istore_n 1, 1) := by decide +kernel
theorem dX4_hungry_36 : decode cX4_hungry 36 = .ok (.iinc 2 1, 3) := by decide +kernel
theorem dX4_hungry_39 : decode cX4_hungry 39 = .ok (.goto (-35), 3) := by decide +kernel
theorem dX4_hungry_42 : decode cX4_hungry 42 = .ok (.iload_n 1, 1) := by decide +kernel
theorem dX4_hungry_43 : decode cX4_hungry 43 = .ok (.ireturn, 1) := by decide +kernel
theorem dX4_many_0 : decode cX4_many 0 = .ok (.iconst 0, 1) := by decide +kernel
theorem dX4_many_1 : decode cX4_many 1 = .ok (.istore_n 1, 1) := by decide +kernel
theorem dX4_many_2 : decode cX4_many 2 = .ok (.iconst 0, 1) := by decide +kernel
theorem dX4_many_3 : decode cX4_many 3 = .ok (.istore_n 2, 1) := by decide +kernel
theorem dX4_many_4 : decode cX4_many 4 = .ok (.iload_n 2, 1) := by decide +kernel
theorem dX4_many_5 : decode cX4_many 5 = .ok (.bipush 10, 2) := by decide +kernel
theorem dX4_many_7 : decode cX4_many 7 = .ok (.if_icmp .ge 17, 3) := by decide +kernel
theorem dX4_many_10 : decode cX4_many 10 = .ok (.iload_n 1, 1) := by decide +kernel
theorem dX4_many_11 : decode cX4_many 11 = .ok (.iload_n 0, 1) := by decide +kernel
theorem dX4_many_12 : decode cX4_many 12 = .ok (.iload_n 2, 1) := by decide +kernel
theorem dX4_many_13 : decode cX4_many 13 = .ok (.ishr, 1) := by decide +kernel
theorem dX4_many_14 : decode cX4_many 14 = .ok (.iconst 1, 1) := by decide +kernel
theorem dX4_many_15 : decode cX4_many 15 = .ok (.iand, 1) := by decide +kernel
theorem dX4_many_16 : decode cX4_many 16 = .ok (.iadd, 1) := by decide +kernel
theorem dX4_many_17 : decode cX4_many 17 = .ok (.istore_n 1, 1) := by decide +kernel
theorem dX4_many_18 : decode cX4_many 18 = .ok (.iinc 2 1, 3) := by decide +kernel
theorem dX4_many_21 : decode cX4_many 21 = .ok (.goto (-17), 3) := by decide +kernel
theorem dX4_many_24 : decode cX4_many 24 = .ok (.iload_n 1, 1) := by decide +kernel
theorem dX4_many_25 : decode cX4_many 25 = .ok (.ireturn, 1) := by decide +kernel
theorem dX4_cost_0 : decode cX4_cost 0 = .ok (.iconst 3, 1) := by decide +kernel
theorem dX4_cost_1 : decode cX4_cost 1 = .ok (.aload_n 0, 1) := by decide +kernel
theorem dX4_cost_2 : decode cX4_cost 2 = .ok (.getfield 9, 3) := by decide +kernel
theorem dX4_cost_5 : decode cX4_cost 5 = .ok (.iconst 0, 1) := by decide +kernel
theorem dX4_cost_6 : decode cX4_cost 6 = .ok (.iaload, 1) := by decide +kernel
theorem dX4_cost_7 : decode cX4_cost 7 = .ok (.imul, 1) := by decide +kernel
theorem dX4_cost_8 : decode cX4_cost 8 = .ok (.iconst 2, 1) := by decide +kernel
theorem dX4_cost_9 : decode cX4_cost 9 = .ok (.aload_n 0, 1) := by decide +kernel
theorem dX4_cost_10 : decode cX4_cost 10 = .ok (.getfield 9, 3) := by decide +kernel
theorem dX4_cost_13 : decode cX4_cost 13 = .ok (.iconst 1, 1) := by decide +kernel
theorem dX4_cost_14 : decode cX4_cost 14 = .ok (.iaload, 1) := by decide +kernel
theorem dX4_cost_15 : decode cX4_cost 15 = .ok (.imul, 1) := by decide +kernel
theorem dX4_cost_16 : decode cX4_cost 16 = .ok (.iadd, 1) := by decide +kernel
theorem dX4_cost_17 : decode cX4_cost 17 = .ok (.ireturn, 1) := by decide +kernel
theorem dX4_now_0 : decode cX4_now 0 = .ok (.iload_n 1, 1) := by decide +kernel
theorem dX4_now_1 : decode cX4_now 1 = .ok (.tableswitch 87 0 6 #[43, 50, 58, 65, 71, 77, 82], 43) := by decide +kernel
theorem dX4_now_44 : decode cX4_now 44 = .ok (.aload_n 0, 1) := by decide +kernel
theorem dX4_now_45 : decode cX4_now 45 = .ok (.getfield 9, 3) := by decide +kernel
theorem dX4_now_48 : decode cX4_now 48 = .ok (.iconst 5, 1) := by decide +kernel
theorem dX4_now_49 : decode cX4_now 49 = .ok (.iaload, 1) := by decide +kernel
theorem dX4_now_50 : decode cX4_now 50 = .ok (.ireturn, 1) := by decide +kernel
theorem dX4_now_51 : decode cX4_now 51 = .ok (.aload_n 0, 1) := by decide +kernel
theorem dX4_now_52 : decode cX4_now 52 = .ok (.getfield 9, 3) := by decide +kernel
theorem dX4_now_55 : decode cX4_now 55 = .ok (.bipush 6, 2) := by decide +kernel
theorem dX4_now_57 : decode cX4_now 57 = .ok (.iaload, 1) := by decide +kernel
theorem dX4_now_58 : decode cX4_now 58 = .ok (.ireturn, 1) := by decide +kernel
theorem dX4_now_59 : decode cX4_now 59 = .ok (.aload_n 0, 1) := by decide +kernel
theorem dX4_now_60 : decode cX4_now 60 = .ok (.getfield 9, 3) := by decide +kernel
theorem dX4_now_63 : decode cX4_now 63 = .ok (.iconst 3, 1) := by decide +kernel
theorem dX4_now_64 : decode cX4_now 64 = .ok (.iaload, 1) := by decide +kernel
theorem dX4_now_65 : decode cX4_now 65 = .ok (.ireturn, 1) := by decide +kernel
theorem dX4_now_66 : decode cX4_now 66 = .ok (.aload_n 0, 1) := by decide +kernel
theorem dX4_now_67 : decode cX4_now 67 = .ok (.iconst 1, 1) := by decide +kernel
theorem dX4_now_68 : decode cX4_now 68 = .ok (.invokevirtual 99, 3) := by decide +kernel
theorem dX4_now_71 : decode cX4_now 71 = .ok (.ireturn, 1) := by decide +kernel
theorem dX4_now_72 : decode cX4_now 72 = .ok (.aload_n 0, 1) := by decide +kernel
theorem dX4_now_73 : decode cX4_now 73 = .ok (.iconst 2, 1) := by decide +kernel
theorem dX4_now_74 : decode cX4_now 74 = .ok (.invokevirtual 99, 3) := by decide +kernel
theorem dX4_now_77 : decode cX4_now 77 = .ok (.ireturn, 1) := by decide +kernel
theorem dX4_now_78 : decode cX4_now 78 = .ok (.aload_n 0, 1) := by decide +kernel
theorem dX4_now_79 : decode cX4_now 79 = .ok (.invokevirtual 102, 3) := by decide +kernel
theorem dX4_now_82 : decode cX4_now 82 = .ok (.ireturn, 1) := by decide +kernel
theorem dX4_now_83 : decode cX4_now 83 = .ok (.aload_n 0, 1) := by decide +kernel
theorem dX4_now_84 : decode cX4_now 84 = .ok (.invokevirtual 106, 3) := by decide +kernel
theorem dX4_now_87 : decode cX4_now 87 = .ok (.ireturn, 1) := by decide +kernel
theorem dX4_now_88 : decode cX4_now 88 = .ok (.aload_n 0, 1) := by decide +kernel
theorem dX4_now_89 : decode cX4_now 89 = .ok (.ldc 34, 2) := by decide +kernel
theorem dX4_now_91 : decode cX4_now 91 = .ok (.invokevirtual 36, 3) := by decide +kernel
theorem dX4_now_94 : decode cX4_now 94 = .ok (.ireturn, 1) := by decide +kernel
theorem dX4_wantsOther_0 : decode cX4_wantsOther 0 = .ok (.aload_n 0, 1) := by decide +kernel
theorem dX4_wantsOther_1 : decode cX4_wantsOther 1 = .ok (.iload_n 1, 1) := by decide +kernel
theorem dX4_wantsOther_2 : decode cX4_wantsOther 2 = .ok (.iconst 5, 1) := by decide +kernel
theorem dX4_wantsOther_3 : decode cX4_wantsOther 3 = .ok (.invokevirtual 63, 3) := by decide +kernel
theorem dX4_wantsOther_6 : decode cX4_wantsOther 6 = .ok (.istore_n 2, 1) := by decide +kernel
theorem dX4_wantsOther_7 : decode cX4_wantsOther 7 = .ok (.iload_n 2, 1) := by decide +kernel
theorem dX4_wantsOther_8 : decode cX4_wantsOther 8 = .ok (.iconst 1, 1) := by decide +kernel
theorem dX4_wantsOther_9 : decode cX4_wantsOther 9 = .ok (.if_icmp .ne 16, 3) := by decide +kernel
theorem dX4_wantsOther_12 : decode cX4_wantsOther 12 = .ok (.aload_n 0, 1) := by decide +kernel
theorem dX4_wantsOther_13 : decode cX4_wantsOther 13 = .ok (.iload_n 1, 1) := by decide +kernel
theorem dX4_wantsOther_14 : decode cX4_wantsOther 14 = .ok (.invokevirtual 75, 3) := by decide +kernel
theorem dX4_wantsOther_17 : decode cX4_wantsOther 17 = .ok (.aload_n 0, 1) := by decide +kernel
theorem dX4_wantsOther_18 : decode cX4_wantsOther 18 = .ok (.iload_n 1, 1) := by decide +kernel
theorem dX4_wantsOther_19 : decode cX4_wantsOther 19 = .ok (.invokevirtual 72, 3) := by decide +kernel
theorem dX4_wantsOther_22 : decode cX4_wantsOther 22 = .ok (.if_icmp .gt 21, 3) := by decide +kernel
theorem dX4_wantsOther_25 : decode cX4_wantsOther 25 = .ok (.iload_n 2, 1) := by decide +kernel
theorem dX4_wantsOther_26 : decode cX4_wantsOther 26 = .ok (.iconst 2, 1) := by decide +kernel
theorem dX4_wantsOther_27 : decode cX4_wantsOther 27 = .ok (.if_icmp .ne 20, 3) := by decide +kernel
theorem dX4_wantsOther_30 : decode cX4_wantsOther 30 = .ok (.aload_n 0, 1) := by decide +kernel
theorem dX4_wantsOther_31 : decode cX4_wantsOther 31 = .ok (.iload_n 1, 1) := by decide +kernel
theorem dX4_wantsOther_32 : decode cX4_wantsOther 32 = .ok (.invokevirtual 72, 3) := by decide +kernel
theorem dX4_wantsOther_35 : decode cX4_wantsOther 35 = .ok (.aload_n 0, 1) := by decide +kernel
theorem dX4_wantsOther_36 : decode cX4_wantsOther 36 = .ok (.iload_n 1, 1) := by decide +kernel
theorem dX4_wantsOther_37 : decode cX4_wantsOther 37 = .ok (.invokevirtual 75, 3) := by decide +kernel
theorem dX4_wantsOther_40 : decode cX4_wantsOther 40 = .ok (.if_icmp .le 7, 3) := by decide +kernel
theorem dX4_wantsOther_43 : decode cX4_wantsOther 43 = .ok (.iconst 1, 1) := by decide +kernel
theorem dX4_wantsOther_44 : decode cX4_wantsOther 44 = .ok (.goto 4, 3) := by decide +kernel
theorem dX4_wantsOther_47 : decode cX4_wantsOther 47 = .ok (.iconst 0, 1) := by decide +kernel
theorem dX4_wantsOther_48 : decode cX4_wantsOther 48 = .ok (.ireturn, 1) := by decide +kernel
theorem dX4_wants_0 : decode cX4_wants 0 = .ok (.aload_n 0, 1) := by decide +kernel
theorem dX4_wants_1 : decode cX4_wants 1 = .ok (.iload_n 1, 1) := by decide +kernel
theorem dX4_wants_2 : decode cX4_wants 2 = .ok (.invokevirtual 67, 3) := by decide +kernel
theorem dX4_wants_5 : decode cX4_wants 5 = .ok (.ifCond .ne 10, 3) := by decide +kernel
theorem dX4_wants_8 : decode cX4_wants 8 = .ok (.aload_n 0, 1) := by decide +kernel
theorem dX4_wants_9 : decode cX4_wants 9 = .ok (.ldc 34, 2) := by decide +kernel
theorem dX4_wants_11 : decode cX4_wants 11 = .ok (.invokevirtual 36, 3) := by decide +kernel
theorem dX4_wants_14 : decode cX4_wants 14 = .ok (.ireturn, 1) := by decide +kernel
theorem dX4_wants_15 : decode cX4_wants 15 = .ok (.aload_n 0, 1) := by decide +kernel
theorem dX4_wants_16 : decode cX4_wants 16 = .ok (.iload_n 1, 1) := by decide +kernel
theorem dX4_wants_17 : decode cX4_wants 17 = .ok (.iconst 5, 1) := by decide +kernel
theorem dX4_wants_18 : decode cX4_wants 18 = .ok (.invokevirtual 63, 3) := by decide +kernel
theorem dX4_wants_21 : decode cX4_wants 21 = .ok (.ifCond .ne 10, 3) := by decide +kernel
theorem dX4_wants_24 : decode cX4_wants 24 = .ok (.aload_n 0, 1) := by decide +kernel
theorem dX4_wants_25 : decode cX4_wants 25 = .ok (.ldc 109, 2) := by decide +kernel
theorem dX4_wants_27 : decode cX4_wants 27 = .ok (.invokevirtual 36, 3) := by decide +kernel
theorem dX4_wants_30 : decode cX4_wants 30 = .ok (.ireturn, 1) := by decide +kernel
theorem dX4_wants_31 : decode cX4_wants 31 = .ok (.aload_n 0, 1) := by decide +kernel
theorem dX4_wants_32 : decode cX4_wants 32 = .ok (.iload_n 1, 1) := by decide +kernel
theorem dX4_wants_33 : decode cX4_wants 33 = .ok (.invokevirtual 110, 3) := by decide +kernel
theorem dX4_wants_36 : decode cX4_wants 36 = .ok (.ifCond .eq 7, 3) := by decide +kernel
theorem dX4_wants_39 : decode cX4_wants 39 = .ok (.iconst 1, 1) := by decide +kernel
theorem dX4_wants_40 : decode cX4_wants 40 = .ok (.goto 4, 3) := by decide +kernel
theorem dX4_wants_43 : decode cX4_wants 43 = .ok (.iconst 0, 1) := by decide +kernel
theorem dX4_wants_44 : decode cX4_wants 44 = .ok (.ireturn, 1) := by decide +kernel
theorem dX4_changeTokens_0 : decode cX4_changeTokens 0 = .ok (.aload_n 0, 1) := by decide +kernel
theorem dX4_changeTokens_1 : decode cX4_changeTokens 1 = .ok (.iload_n 1, 1) := by decide +kernel
theorem dX4_changeTokens_2 : decode cX4_changeTokens 2 = .ok (.iconst 5, 1) := by decide +kernel
theorem dX4_changeTokens_3 : decode cX4_changeTokens 3 = .ok (.invokevirtual 63, 3) := by decide +kernel
theorem dX4_changeTokens_6 : decode cX4_changeTokens 6 = .ok (.istore_n 3, 1) := by decide +kernel
theorem dX4_changeTokens_7 : decode cX4_changeTokens 7 = .ok (.aload_n 0, 1) := by decide +kernel
theorem dX4_changeTokens_8 : decode cX4_changeTokens 8 = .ok (.iload_n 1, 1) := by decide +kernel
theorem dX4_changeTokens_9 : decode cX4_changeTokens 9 = .ok (.iconst 5, 1) := by decide +kernel
theorem dX4_changeTokens_10 : decode cX4_changeTokens 10 = .ok (.aload_n 0, 1) := by decide +kernel
theorem dX4_changeTokens_11 : decode cX4_changeTokens 11 = .ok (.iload_n 2, 1) := by decide +kernel
theorem dX4_changeTokens_12 : decode cX4_changeTokens 12 = .ok (.iconst 5, 1) := by decide +kernel
theorem dX4_changeTokens_13 : decode cX4_changeTokens 13 = .ok (.invokevirtual 63, 3) := by decide +kernel
theorem dX4_changeTokens_16 : decode cX4_changeTokens 16 = .ok (.invokevirtual 50, 3) := by decide +kernel
theorem dX4_changeTokens_19 : decode cX4_changeTokens 19 = .ok (.aload_n 0, 1) := by decide +kernel
theorem dX4_changeTokens_20 : decode cX4_changeTokens 20 = .ok (.iload_n 2, 1) := by decide +kernel
theorem dX4_changeTokens_21 : decode cX4_changeTokens 21 = .ok (.iconst 5, 1) := by decide +kernel
theorem dX4_changeTokens_22 : decode cX4_changeTokens 22 = .ok (.iload_n 3, 1) := by decide +kernel
theorem dX4_changeTokens_23 : decode cX4_changeTokens 23 = .ok (.invokevirtual 50, 3) := by decide +kernel
theorem dX4_changeTokens_26 : decode cX4_changeTokens 26 = .ok (.return_, 1) := by decide +kernel
theorem dX4_swap_0 : decode cX4_swap 0 = .ok (.aload_n 0, 1) := by decide +kernel
theorem dX4_swap_1 : decode cX4_swap 1 = .ok (.iload_n 1, 1) := by decide +kernel
theorem dX4_swap_2 : decode cX4_swap 2 = .ok (.invokevirtual 67, 3) := by decide +kernel
theorem dX4_swap_5 : decode cX4_swap 5 = .ok (.ifCond .eq 16, 3) := by decide +kernel
theorem dX4_swap_8 : decode cX4_swap 8 = .ok (.aload_n 0, 1) := by decide +kernel
theorem dX4_swap_9 : decode cX4_swap 9 = .ok (.iload_n 2, 1) := by decide +kernel
theorem dX4_swap_10 : decode cX4_swap 10 = .ok (.invokevirtual 67, 3) := by decide +kernel
theorem dX4_swap_13 : decode cX4_swap 13 = .ok (.ifCond .eq 8, 3) := by decide +kernel
theorem dX4_swap_16 : decode cX4_swap 16 = .ok (.iload_n 1, 1) := by decide +kernel
theorem dX4_swap_17 : decode cX4_swap 17 = .ok (.iload_n 2, 1) := by decide +kernel
theorem dX4_swap_18 : decode cX4_swap 18 = .ok (.if_icmp .ne 10, 3) := by decide +kernel
theorem dX4_swap_21 : decode cX4_swap 21 = .ok (.aload_n 0, 1) := by decide +kernel
theorem dX4_swap_22 : decode cX4_swap 22 = .ok (.ldc 34, 2) := by decide +kernel
theorem dX4_swap_24 : decode cX4_swap 24 = .ok (.invokevirtual 36, 3) := by decide +kernel
theorem dX4_swap_27 : decode cX4_swap 27 = .ok (.ireturn, 1) := by decide +kernel
theorem dX4_swap_28 : decode cX4_swap 28 = .ok (.aload_n 0, 1) := by decide +kernel
theorem dX4_swap_29 : decode cX4_swap 29 = .ok (.iload_n 1, 1) := by decide +kernel
theorem dX4_swap_30 : decode cX4_swap 30 = .ok (.iconst 5, 1) := by decide +kernel
theorem dX4_swap_31 : decode cX4_swap 31 = .ok (.invokevirtual 63, 3) := by decide +kernel
theorem dX4_swap_34 : decode cX4_swap 34 = .ok (.aload_n 0, 1) := by decide +kernel
theorem dX4_swap_35 : decode cX4_swap 35 = .ok (.iload_n 2, 1) := by decide +kernel
theorem dX4_swap_36 : decode cX4_swap 36 = .ok (.iconst 5, 1) := by decide +kernel
theorem dX4_swap_37 : decode cX4_swap 37 = .ok (.invokevirtual 63, 3) := by decide +kernel
theorem dX4_swap_40 : decode cX4_swap 40 = .ok (.iadd, 1) := by decide +kernel
theorem dX4_swap_41 : decode cX4_swap 41 = .ok (.iconst 3, 1) := by decide +kernel
theorem dX4_swap_42 : decode cX4_swap 42 = .ok (.if_icmp .ne 23, 3) := by decide +kernel
theorem dX4_swap_45 : decode cX4_swap 45 = .ok (.aload_n 0, 1) := by decide +kernel
theorem dX4_swap_46 : decode cX4_swap 46 = .ok (.iload_n 1, 1) := by decide +kernel
theorem dX4_swap_47 : decode cX4_swap 47 = .ok (.invokevirtual 110, 3) := by decide +kernel
theorem dX4_swap_50 : decode cX4_swap 50 = .ok (.ifCond .eq 15, 3) := by decide +kernel
theorem dX4_swap_53 : decode cX4_swap 53 = .ok (.aload_n 0, 1) := by decide +kernel
theorem dX4_swap_54 : decode cX4_swap 54 = .ok (.iload_n 2, 1) := by decide +kernel
theorem dX4_swap_55 : decode cX4_swap 55 = .ok (.invokevirtual 110, 3) := by decide +kernel
theorem dX4_swap_58 : decode cX4_swap 58 = .ok (.ifCond .eq 7, 3) := by decide +kernel
theorem dX4_swap_61 : decode cX4_swap 61 = .ok (.iconst 1, 1) := by decide +kernel
theorem dX4_swap_62 : decode cX4_swap 62 = .ok (.goto 4, 3) := by decide +kernel
theorem dX4_swap_65 : decode cX4_swap 65 = .ok (.iconst 0, 1) := by decide +kernel
theorem dX4_swap_66 : decode cX4_swap 66 = .ok (.istore_n 3, 1) := by decide +kernel
theorem dX4_swap_67 : decode cX4_swap 67 = .ok (.iload_n 3, 1) := by decide +kernel
theorem dX4_swap_68 : decode cX4_swap 68 = .ok (.ifCond .ne 10, 3) := by decide +kernel
theorem dX4_swap_71 : decode cX4_swap 71 = .ok (.aload_n 0, 1) := by decide +kernel
theorem dX4_swap_72 : decode cX4_swap 72 = .ok (.ldc 109, 2) := by decide +kernel
theorem dX4_swap_74 : decode cX4_swap 74 = .ok (.invokevirtual 36, 3) := by decide +kernel
theorem dX4_swap_77 : decode cX4_swap 77 = .ok (.ireturn, 1) := by decide +kernel
theorem dX4_swap_78 : decode cX4_swap 78 = .ok (.aload_n 0, 1) := by decide +kernel
theorem dX4_swap_79 : decode cX4_swap 79 = .ok (.iload_n 1, 1) := by decide +kernel
theorem dX4_swap_80 : decode cX4_swap 80 = .ok (.iload_n 2, 1) := by decide +kernel
theorem dX4_swap_81 : decode cX4_swap 81 = .ok (.invokevirtual 113, 3) := by decide +kernel
theorem dX4_swap_84 : decode cX4_swap 84 = .ok (.iconst 1, 1) := by decide +kernel
theorem dX4_swap_85 : decode cX4_swap 85 = .ok (.ireturn, 1) := by decide +kernel
theorem dX4_firstWanting_0 : decode cX4_firstWanting 0 = .ok (.iconst 0, 1) := by decide +kernel
theorem dX4_firstWanting_1 : decode cX4_firstWanting 1 = .ok (.istore_n 2, 1) := by decide +kernel
theorem dX4_firstWanting_2 : decode cX4_firstWanting 2 = .ok (.iload_n 2, 1) := by decide +kernel
theorem dX4_firstWanting_3 : decode cX4_firstWanting 3 = .ok (.aload_n 0, 1) := by decide +kernel
theorem dX4_firstWanting_4 : decode cX4_firstWanting 4 = .ok (.getfield 9, 3) := by decide +kernel
theorem dX4_firstWanting_7 : decode cX4_firstWanting 7 = .ok (.bipush 8, 2) := by decide +kernel
theorem dX4_firstWanting_9 : decode cX4_firstWanting 9 = .ok (.iaload, 1) := by decide +kernel
theorem dX4_firstWanting_10 : decode cX4_firstWanting 10 = .ok (.if_icmp .ge 29, 3) := by decide +kernel
theorem dX4_firstWanting_13 : decode cX4_firstWanting 13 = .ok (.aload_n 0, 1) := by decide +kernel
theorem dX4_firstWanting_14 : decode cX4_firstWanting 14 = .ok (.iload_n 2, 1) := by decide +kernel
theorem dX4_firstWanting_15 : decode cX4_firstWanting 15 = .ok (.iconst 5, 1) := by decide +kernel
theorem dX4_firstWanting_16 : decode cX4_firstWanting 16 = .ok (.invokevirtual 63, 3) := by decide +kernel
theorem dX4_firstWanting_19 : decode cX4_firstWanting 19 = .ok (.iload_n 1, 1) := by decide +kernel
theorem dX4_firstWanting_20 : decode cX4_firstWanting 20 = .ok (.if_icmp .ne 13, 3) := by decide +kernel
theorem dX4_firstWanting_23 : decode cX4_firstWanting 23 = .ok (.aload_n 0, 1) := by decide +kernel
theorem dX4_firstWanting_24 : decode cX4_firstWanting 24 = .ok (.iload_n 2, 1) := by decide +kernel
theorem dX4_firstWanting_25 : decode cX4_firstWanting 25 = .ok (.invokevirtual 110, 3) := by decide +kernel
theorem dX4_firstWanting_28 : decode cX4_firstWanting 28 = .ok (.ifCond .eq 5, 3) := by decide +kernel
theorem dX4_firstWanting_31 : decode cX4_firstWanting 31 = .ok (.iload_n 2, 1) := by decide +kernel
theorem dX4_firstWanting_32 : decode cX4_firstWanting 32 = .ok (.ireturn, 1) := by decide +kernel
theorem dX4_firstWanting_33 : decode cX4_firstWanting 33 = .ok (.iinc 2 1, 3) := by decide +kernel
theorem dX4_firstWanting_36 : decode cX4_firstWanting 36 = .ok (.goto (-34), 3) := by decide +kernel
theorem dX4_firstWanting_39 : decode cX4_firstWanting 39 = .ok (.iconst (-1), 1) := by decide +kernel
theorem dX4_firstWanting_40 : decode cX4_firstWanting 40 = .ok (.ireturn, 1) := by decide +kernel
theorem dX4_opens_0 : decode cX4_opens 0 = .ok (.iconst 0, 1) := by decide +kernel
theorem dX4_opens_1 : decode cX4_opens 1 = .ok (.istore_n 1, 1) := by decide +kernel
theorem dX4_opens_2 : decode cX4_opens 2 = .ok (.aload_n 0, 1) := by decide +kernel
theorem dX4_opens_3 : decode cX4_opens 3 = .ok (.iconst 1, 1) := by decide +kernel
theorem dX4_opens_4 : decode cX4_opens 4 = .ok (.invokevirtual 117, 3) := by decide +kernel
theorem dX4_opens_7 : decode cX4_opens 7 = .ok (.istore_n 2, 1) := by decide +kernel
theorem dX4_opens_8 : decode cX4_opens 8 = .ok (.aload_n 0, 1) := by decide +kernel
theorem dX4_opens_9 : decode cX4_opens 9 = .ok (.iconst 2, 1) := by decide +kernel
theorem dX4_opens_10 : decode cX4_opens 10 = .ok (.invokevirtual 117, 3) := by decide +kernel
theorem dX4_opens_13 : decode cX4_opens 13 = .ok (.istore_n 3, 1) := by decide +kernel
theorem dX4_opens_14 : decode cX4_opens 14 = .ok (.iload_n 2, 1) := by decide +kernel
theorem dX4_opens_15 : decode cX4_opens 15 = .ok (.ifCond .lt 31, 3) := by decide +kernel
theorem dX4_opens_18 : decode cX4_opens 18 = .ok (.iload_n 3, 1) := by decide +kernel
theorem dX4_opens_19 : decode cX4_opens 19 = .ok (.ifCond .lt 27, 3) := by decide +kernel
theorem dX4_opens_22 : decode cX4_opens 22 = .ok (.aload_n 0, 1) := by decide +kernel
theorem dX4_opens_23 : decode cX4_opens 23 = .ok (.iload_n 2, 1) := by decide +kernel
theorem dX4_opens_24 : decode cX4_opens 24 = .ok (.iload_n 3, 1) := by decide +kernel
theorem dX4_opens_25 : decode cX4_opens 25 = .ok (.invokevirtual 113, 3) := by decide +kernel
theorem dX4_opens_28 : decode cX4_opens 28 = .ok (.iinc 1 1, 3) := by decide +kernel
theorem dX4_opens_31 : decode cX4_opens 31 = .ok (.aload_n 0, 1) := by decide +kernel
theorem dX4_opens_32 : decode cX4_opens 32 = .ok (.iconst 1, 1) := by decide +kernel
theorem dX4_opens_33 : decode cX4_opens 33 = .ok (.invokevirtual 117, 3) := by decide +kernel
theorem dX4_opens_36 : decode cX4_opens 36 = .ok (.istore_n 2, 1) := by decide +kernel
theorem dX4_opens_37 : decode cX4_opens 37 = .ok (.aload_n 0, 1) := by decide +kernel
theorem dX4_opens_38 : decode cX4_opens 38 = .ok (.iconst 2, 1) := by decide +kernel
theorem dX4_opens_39 : decode cX4_opens 39 = .ok (.invokevirtual 117, 3) := by decide +kernel
theorem dX4_opens_42 : decode cX4_opens 42 = .ok (.istore_n 3, 1) := by decide +kernel
theorem dX4_opens_43 : decode cX4_opens 43 = .ok (.goto (-29), 3) := by decide +kernel
theorem dX4_opens_46 : decode cX4_opens 46 = .ok (.iload_n 1, 1) := by decide +kernel
theorem dX4_opens_47 : decode cX4_opens 47 = .ok (.ireturn, 1) := by decide +kernel
theorem dX4_gates_0 : decode cX4_gates 0 = .ok (.aload_n 0, 1) := by decide +kernel
theorem dX4_gates_1 : decode cX4_gates 1 = .ok (.invokevirtual 120, 3) := by decide +kernel
theorem dX4_gates_4 : decode cX4_gates 4 = .ok (.ireturn, 1) := by decide +kernel
theorem dX4_changes_0 : decode cX4_changes 0 = .ok (.aload_n 0, 1) := by decide +kernel
theorem dX4_changes_1 : decode cX4_changes 1 = .ok (.getfield 9, 3) := by decide +kernel
theorem dX4_changes_4 : decode cX4_changes 4 = .ok (.aload_n 0, 1) := by decide +kernel
theorem dX4_changes_5 : decode cX4_changes 5 = .ok (.getfield 16, 3) := by decide +kernel
theorem dX4_changes_8 : decode cX4_changes 8 = .ok (.invokestatic 123, 3) := by decide +kernel
theorem dX4_changes_11 : decode cX4_changes 11 = .ok (.aload_n 0, 1) := by decide +kernel
theorem dX4_changes_12 : decode cX4_changes 12 = .ok (.invokevirtual 120, 3) := by decide +kernel
theorem dX4_changes_15 : decode cX4_changes 15 = .ok (.istore_n 1, 1) := by decide +kernel
theorem dX4_changes_16 : decode cX4_changes 16 = .ok (.aload_n 0, 1) := by decide +kernel
theorem dX4_changes_17 : decode cX4_changes 17 = .ok (.getfield 16, 3) := by decide +kernel
theorem dX4_changes_20 : decode cX4_changes 20 = .ok (.aload_n 0, 1) := by decide +kernel
theorem dX4_changes_21 : decode cX4_changes 21 = .ok (.getfield 9, 3) := by decide +kernel
theorem dX4_changes_24 : decode cX4_changes 24 = .ok (.invokestatic 123, 3) := by decide +kernel
theorem dX4_changes_27 : decode cX4_changes 27 = .ok (.iload_n 1, 1) := by decide +kernel
theorem dX4_changes_28 : decode cX4_changes 28 = .ok (.ireturn, 1) := by decide +kernel
theorem dX4_worth_0 : decode cX4_worth 0 = .ok (.iload_n 2, 1) := by decide +kernel
theorem dX4_worth_1 : decode cX4_worth 1 = .ok (.iconst 1, 1) := by decide +kernel
theorem dX4_worth_2 : decode cX4_worth 2 = .ok (.if_icmp .ne 11, 3) := by decide +kernel
theorem dX4_worth_5 : decode cX4_worth 5 = .ok (.aload_n 0, 1) := by decide +kernel
theorem dX4_worth_6 : decode cX4_worth 6 = .ok (.iload_n 1, 1) := by decide +kernel
theorem dX4_worth_7 : decode cX4_worth 7 = .ok (.invokevirtual 72, 3) := by decide +kernel
theorem dX4_worth_10 : decode cX4_worth 10 = .ok (.goto 17, 3) := by decide +kernel
theorem dX4_worth_13 : decode cX4_worth 13 = .ok (.iload_n 2, 1) := by decide +kernel
theorem dX4_worth_14 : decode cX4_worth 14 = .ok (.iconst 2, 1) := by decide +kernel
theorem dX4_worth_15 : decode cX4_worth 15 = .ok (.if_icmp .ne 11, 3) := by decide +kernel
theorem dX4_worth_18 : decode cX4_worth 18 = .ok (.aload_n 0, 1) := by decide +kernel
theorem dX4_worth_19 : decode cX4_worth 19 = .ok (.iload_n 1, 1) := by decide +kernel
theorem dX4_worth_20 : decode cX4_worth 20 = .ok (.invokevirtual 75, 3) := by decide +kernel
theorem dX4_worth_23 : decode cX4_worth 23 = .ok (.goto 4, 3) := by decide +kernel
theorem dX4_worth_26 : decode cX4_worth 26 = .ok (.iconst 0, 1) := by decide +kernel
theorem dX4_worth_27 : decode cX4_worth 27 = .ok (.ireturn, 1) := by decide +kernel
theorem dX4_mayBuy_0 : decode cX4_mayBuy 0 = .ok (.aload_n 0, 1) := by decide +kernel
theorem dX4_mayBuy_1 : decode cX4_mayBuy 1 = .ok (.iload_n 2, 1) := by decide +kernel
theorem dX4_mayBuy_2 : decode cX4_mayBuy 2 = .ok (.iconst 5, 1) := by decide +kernel
theorem dX4_mayBuy_3 : decode cX4_mayBuy 3 = .ok (.invokevirtual 63, 3) := by decide +kernel
theorem dX4_mayBuy_6 : decode cX4_mayBuy 6 = .ok (.istore 4, 2) := by decide +kernel
theorem dX4_mayBuy_8 : decode cX4_mayBuy 8 = .ok (.aload_n 0, 1) := by decide +kernel
theorem dX4_mayBuy_9 : decode cX4_mayBuy 9 = .ok (.iload_n 1, 1) := by decide +kernel
theorem dX4_mayBuy_10 : decode cX4_mayBuy 10 = .ok (.iconst 5, 1) := by decide +kernel
theorem dX4_mayBuy_11 : decode cX4_mayBuy 11 = .ok (.invokevirtual 63, 3) := by decide +kernel
theorem dX4_mayBuy_14 : decode cX4_mayBuy 14 = .ok (.ifCond .ne 32, 3) := by decide +kernel
theorem dX4_mayBuy_17 : decode cX4_mayBuy 17 = .ok (.iload 4, 2) := by decide +kernel
theorem dX4_mayBuy_19 : decode cX4_mayBuy 19 = .ok (.ifCond .eq 27, 3) := by decide +kernel
theorem dX4_mayBuy_22 : decode cX4_mayBuy 22 = .ok (.aload_n 0, 1) := by decide +kernel
theorem dX4_mayBuy_23 : decode cX4_mayBuy 23 = .ok (.iload_n 1, 1) := by decide +kernel
theorem dX4_mayBuy_24 : decode cX4_mayBuy 24 = .ok (.iconst 3, 1) := by decide +kernel
theorem dX4_mayBuy_25 : decode cX4_mayBuy 25 = .ok (.invokevirtual 63, 3) := by decide +kernel
theorem dX4_mayBuy_28 : decode cX4_mayBuy 28 = .ok (.iload_n 3, 1) := by decide +kernel
theorem dX4_mayBuy_29 : decode cX4_mayBuy 29 = .ok (.if_icmp .lt 17, 3) := by decide +kernel
theorem dX4_mayBuy_32 : decode cX4_mayBuy 32 = .ok (.aload_n 0, 1) := by decide +kernel
theorem dX4_mayBuy_33 : decode cX4_mayBuy 33 = .ok (.iload_n 2, 1) := by decide +kernel
theorem dX4_mayBuy_34 : decode cX4_mayBuy 34 = .ok (.iconst 3, 1) := by decide +kernel
theorem dX4_mayBuy_35 : decode cX4_mayBuy 35 = .ok (.invokevirtual 63, 3) := by decide +kernel
theorem dX4_mayBuy_38 : decode cX4_mayBuy 38 = .ok (.iload_n 3, 1) := by decide +kernel
theorem dX4_mayBuy_39 : decode cX4_mayBuy 39 = .ok (.iadd, 1) := by decide +kernel
theorem dX4_mayBuy_40 : decode cX4_mayBuy 40 = .ok (.sipush 9999, 3) := by decide +kernel
theorem dX4_mayBuy_43 : decode cX4_mayBuy 43 = .ok (.if_icmp .le 5, 3) := by decide +kernel
theorem dX4_mayBuy_46 : decode cX4_mayBuy 46 = .ok (.iconst 0, 1) := by decide +kernel
theorem dX4_mayBuy_47 : decode cX4_mayBuy 47 = .ok (.ireturn, 1) := by decide +kernel
theorem dX4_mayBuy_48 : decode cX4_mayBuy 48 = .ok (.aload_n 0, 1) := by decide +kernel
theorem dX4_mayBuy_49 : decode cX4_mayBuy 49 = .ok (.iload_n 2, 1) := by decide +kernel
theorem dX4_mayBuy_50 : decode cX4_mayBuy 50 = .ok (.iload 4, 2) := by decide +kernel
theorem dX4_mayBuy_52 : decode cX4_mayBuy 52 = .ok (.invokevirtual 127, 3) := by decide +kernel
theorem dX4_mayBuy_55 : decode cX4_mayBuy 55 = .ok (.iload_n 3, 1) := by decide +kernel
theorem dX4_mayBuy_56 : decode cX4_mayBuy 56 = .ok (.if_icmp .ge 18, 3) := by decide +kernel
theorem dX4_mayBuy_59 : decode cX4_mayBuy 59 = .ok (.iload_n 3, 1) := by decide +kernel
theorem dX4_mayBuy_60 : decode cX4_mayBuy 60 = .ok (.aload_n 0, 1) := by decide +kernel
theorem dX4_mayBuy_61 : decode cX4_mayBuy 61 = .ok (.iload_n 1, 1) := by decide +kernel
theorem dX4_mayBuy_62 : decode cX4_mayBuy 62 = .ok (.iload 4, 2) := by decide +kernel
theorem dX4_mayBuy_64 : decode cX4_mayBuy 64 = .ok (.invokevirtual 127, 3) := by decide +kernel
theorem dX4_mayBuy_67 : decode cX4_mayBuy 67 = .ok (.if_icmp .gt 7, 3) := by decide +kernel
theorem dX4_mayBuy_70 : decode cX4_mayBuy 70 = .ok (.iconst 1, 1) := by decide +kernel
theorem dX4_mayBuy_71 : decode cX4_mayBuy 71 = .ok (.goto 4, 3) := by decide +kernel
theorem dX4_mayBuy_74 : decode cX4_mayBuy 74 = .ok (.iconst 0, 1) := by decide +kernel
theorem dX4_mayBuy_75 : decode cX4_mayBuy 75 = .ok (.ireturn, 1) := by decide +kernel
theorem dX4_buy_0 : decode cX4_buy 0 = .ok (.aload_n 0, 1) := by decide +kernel
theorem dX4_buy_1 : decode cX4_buy 1 = .ok (.iload_n 1, 1) := by decide +kernel
theorem dX4_buy_2 : decode cX4_buy 2 = .ok (.invokevirtual 67, 3) := by decide +kernel
theorem dX4_buy_5 : decode cX4_buy 5 = .ok (.ifCond .eq 28, 3) := by decide +kernel
theorem dX4_buy_8 : decode cX4_buy 8 = .ok (.aload_n 0, 1) := by decide +kernel
theorem dX4_buy_9 : decode cX4_buy 9 = .ok (.iload_n 2, 1) := by decide +kernel
theorem dX4_buy_10 : decode cX4_buy 10 = .ok (.invokevirtual 67, 3) := by decide +kernel
theorem dX4_buy_13 : decode cX4_buy 13 = .ok (.ifCond .eq 20, 3) := by decide +kernel
theorem dX4_buy_16 : decode cX4_buy 16 = .ok (.iload_n 1, 1) := by decide +kernel
theorem dX4_buy_17 : decode cX4_buy 17 = .ok (.iload_n 2, 1) := by decide +kernel
theorem dX4_buy_18 : decode cX4_buy 18 = .ok (.if_icmp .eq 15, 3) := by decide +kernel
theorem dX4_buy_21 : decode cX4_buy 21 = .ok (.iload_n 3, 1) := by decide +kernel
theorem dX4_buy_22 : decode cX4_buy 22 = .ok (.i2l, 1) := by decide +kernel
theorem dX4_buy_23 : decode cX4_buy 23 = .ok (.lconst 1, 1) := by decide +kernel
theorem dX4_buy_24 : decode cX4_buy 24 = .ok (.ldc2_w 130, 3) := by decide +kernel
theorem dX4_buy_27 : decode cX4_buy 27 = .ok (.invokestatic 40, 3) := by decide +kernel
theorem dX4_buy_30 : decode cX4_buy 30 = .ok (.ifCond .ne 10, 3) := by decide +kernel
theorem dX4_buy_33 : decode cX4_buy 33 = .ok (.aload_n 0, 1) := by decide +kernel
theorem dX4_buy_34 : decode cX4_buy 34 = .ok (.ldc 34, 2) := by decide +kernel
theorem dX4_buy_36 : decode cX4_buy 36 = .ok (.invokevirtual 36, 3) := by decide +kernel
theorem dX4_buy_39 : decode cX4_buy 39 = .ok (.ireturn, 1) := by decide +kernel
theorem dX4_buy_40 : decode cX4_buy 40 = .ok (.aload_n 0, 1) := by decide +kernel
theorem dX4_buy_41 : decode cX4_buy 41 = .ok (.iload_n 1, 1) := by decide +kernel
theorem dX4_buy_42 : decode cX4_buy 42 = .ok (.iload_n 2, 1) := by decide +kernel
theorem dX4_buy_43 : decode cX4_buy 43 = .ok (.iload_n 3, 1) := by decide +kernel
theorem dX4_buy_44 : decode cX4_buy 44 = .ok (.invokevirtual 132, 3) := by decide +kernel
theorem dX4_buy_47 : decode cX4_buy 47 = .ok (.ifCond .ne 10, 3) := by decide +kernel
theorem dX4_buy_50 : decode cX4_buy 50 = .ok (.aload_n 0, 1) := by decide +kernel
theorem dX4_buy_51 : decode cX4_buy 51 = .ok (.ldc 109, 2) := by decide +kernel
theorem dX4_buy_53 : decode cX4_buy 53 = .ok (.invokevirtual 36, 3) := by decide +kernel
theorem dX4_buy_56 : decode cX4_buy 56 = .ok (.ireturn, 1) := by decide +kernel
theorem dX4_buy_57 : decode cX4_buy 57 = .ok (.aload_n 0, 1) := by decide +kernel
theorem dX4_buy_58 : decode cX4_buy 58 = .ok (.iload_n 1, 1) := by decide +kernel
theorem dX4_buy_59 : decode cX4_buy 59 = .ok (.iload_n 2, 1) := by decide +kernel
theorem dX4_buy_60 : decode cX4_buy 60 = .ok (.invokevirtual 113, 3) := by decide +kernel
theorem dX4_buy_63 : decode cX4_buy 63 = .ok (.aload_n 0, 1) := by decide +kernel
theorem dX4_buy_64 : decode cX4_buy 64 = .ok (.iload_n 1, 1) := by decide +kernel
theorem dX4_buy_65 : decode cX4_buy 65 = .ok (.iconst 3, 1) := by decide +kernel
theorem dX4_buy_66 : decode cX4_buy 66 = .ok (.aload_n 0, 1) := by decide +kernel
theorem dX4_buy_67 : decode cX4_buy 67 = .ok (.iload_n 1, 1) := by decide +kernel
theorem dX4_buy_68 : decode cX4_buy 68 = .ok (.iconst 3, 1) := by decide +kernel
theorem dX4_buy_69 : decode cX4_buy 69 = .ok (.invokevirtual 63, 3) := by decide +kernel
theorem dX4_buy_72 : decode cX4_buy 72 = .ok (.iload_n 3, 1) := by decide +kernel
theorem dX4_buy_73 : decode cX4_buy 73 = .ok (.isub, 1) := by decide +kernel
theorem dX4_buy_74 : decode cX4_buy 74 = .ok (.invokevirtual 50, 3) := by decide +kernel
theorem dX4_buy_77 : decode cX4_buy 77 = .ok (.aload_n 0, 1) := by decide +kernel
theorem dX4_buy_78 : decode cX4_buy 78 = .ok (.iload_n 2, 1) := by decide +kernel
theorem dX4_buy_79 : decode cX4_buy 79 = .ok (.iconst 3, 1) := by decide +kernel
theorem dX4_buy_80 : decode cX4_buy 80 = .ok (.aload_n 0, 1) := by decide +kernel
theorem dX4_buy_81 : decode cX4_buy 81 = .ok (.iload_n 2, 1) := by decide +kernel
theorem dX4_buy_82 : decode cX4_buy 82 = .ok (.iconst 3, 1) := by decide +kernel
theorem dX4_buy_83 : decode cX4_buy 83 = .ok (.invokevirtual 63, 3) := by decide +kernel
theorem dX4_buy_86 : decode cX4_buy 86 = .ok (.iload_n 3, 1) := by decide +kernel
theorem dX4_buy_87 : decode cX4_buy 87 = .ok (.iadd, 1) := by decide +kernel
theorem dX4_buy_88 : decode cX4_buy 88 = .ok (.invokevirtual 50, 3) := by decide +kernel
theorem dX4_buy_91 : decode cX4_buy 91 = .ok (.aload_n 0, 1) := by decide +kernel
theorem dX4_buy_92 : decode cX4_buy 92 = .ok (.iload_n 1, 1) := by decide +kernel
theorem dX4_buy_93 : decode cX4_buy 93 = .ok (.iconst 3, 1) := by decide +kernel
theorem dX4_buy_94 : decode cX4_buy 94 = .ok (.invokevirtual 63, 3) := by decide +kernel
theorem dX4_buy_97 : decode cX4_buy 97 = .ok (.ireturn, 1) := by decide +kernel
theorem dX4_welfare_0 : decode cX4_welfare 0 = .ok (.iconst 0, 1) := by decide +kernel
theorem dX4_welfare_1 : decode cX4_welfare 1 = .ok (.istore_n 1, 1) := by decide +kernel
theorem dX4_welfare_2 : decode cX4_welfare 2 = .ok (.iconst 0, 1) := by decide +kernel
theorem dX4_welfare_3 : decode cX4_welfare 3 = .ok (.istore_n 2, 1) := by decide +kernel
theorem dX4_welfare_4 : decode cX4_welfare 4 = .ok (.iload_n 2, 1) := by decide +kernel
theorem dX4_welfare_5 : decode cX4_welfare 5 = .ok (.aload_n 0, 1) := by decide +kernel
theorem dX4_welfare_6 : decode cX4_welfare 6 = .ok (.getfield 9, 3) := by decide +kernel
theorem dX4_welfare_9 : decode cX4_welfare 9 = .ok (.bipush 8, 2) := by decide +kernel
theorem dX4_welfare_11 : decode cX4_welfare 11 = .ok (.iaload, 1) := by decide +kernel
theorem dX4_welfare_12 : decode cX4_welfare 12 = .ok (.if_icmp .ge 23, 3) := by decide +kernel
theorem dX4_welfare_15 : decode cX4_welfare 15 = .ok (.iload_n 1, 1) := by decide +kernel
theorem dX4_welfare_16 : decode cX4_welfare 16 = .ok (.aload_n 0, 1) := by decide +kernel
theorem dX4_welfare_17 : decode cX4_welfare 17 = .ok (.iload_n 2, 1) := by decide +kernel
theorem dX4_welfare_18 : decode cX4_welfare 18 = .ok (.aload_n 0, 1) := by decide +kernel
theorem dX4_welfare_19 : decode cX4_welfare 19 = .ok (.iload_n 2, 1) := by decide +kernel
theorem dX4_welfare_20 : decode cX4_welfare 20 = .ok (.iconst 5, 1) := by decide +kernel
theorem dX4_welfare_21 : decode cX4_welfare 21 = .ok (.invokevirtual 63, 3) := by decide +kernel
theorem dX4_welfare_24 : decode cX4_welfare 24 = .ok (.invokevirtual 127, 3) := by decide +kernel
theorem dX4_welfare_27 : decode cX4_welfare 27 = .ok (.iadd, 1) := by decide +kernel
theorem dX4_welfare_28 : decode cX4_welfare 28 = .ok (.istore_n 1, 1) := by decide +kernel
theorem dX4_welfare_29 : decode cX4_welfare 29 = .ok (.iinc 2 1, 3) := by decide +kernel
theorem dX4_welfare_32 : decode cX4_welfare 32 = .ok (.goto (-28), 3) := by decide +kernel
theorem dX4_welfare_35 : decode cX4_welfare 35 = .ok (.iload_n 1, 1) := by decide +kernel
theorem dX4_welfare_36 : decode cX4_welfare 36 = .ok (.ireturn, 1) := by decide +kernel
theorem dX4_most_0 : decode cX4_most 0 = .ok (.aload_n 0, 1) := by decide +kernel
theorem dX4_most_1 : decode cX4_most 1 = .ok (.iconst 1, 1) := by decide +kernel
theorem dX4_most_2 : decode cX4_most 2 = .ok (.invokevirtual 99, 3) := by decide +kernel
theorem dX4_most_5 : decode cX4_most 5 = .ok (.aload_n 0, 1) := by decide +kernel
theorem dX4_most_6 : decode cX4_most 6 = .ok (.iconst 2, 1) := by decide +kernel
theorem dX4_most_7 : decode cX4_most 7 = .ok (.invokevirtual 99, 3) := by decide +kernel
theorem dX4_most_10 : decode cX4_most 10 = .ok (.ior, 1) := by decide +kernel
theorem dX4_most_11 : decode cX4_most 11 = .ok (.istore_n 1, 1) := by decide +kernel
theorem dX4_most_12 : decode cX4_most 12 = .ok (.aload_n 0, 1) := by decide +kernel
theorem dX4_most_13 : decode cX4_most 13 = .ok (.iconst 1, 1) := by decide +kernel
theorem dX4_most_14 : decode cX4_most 14 = .ok (.invokevirtual 99, 3) := by decide +kernel
theorem dX4_most_17 : decode cX4_most 17 = .ok (.invokestatic 136, 3) := by decide +kernel
theorem dX4_most_20 : decode cX4_most 20 = .ok (.istore_n 2, 1) := by decide +kernel
theorem dX4_most_21 : decode cX4_most 21 = .ok (.iconst 0, 1) := by decide +kernel
theorem dX4_most_22 : decode cX4_most 22 = .ok (.istore_n 3, 1) := by decide +kernel
theorem dX4_most_23 : decode cX4_most 23 = .ok (.iconst 0, 1) := by decide +kernel
theorem dX4_most_24 : decode cX4_most 24 = .ok (.istore 4, 2) := by decide +kernel
theorem dX4_most_26 : decode cX4_most 26 = .ok (.iload 4, 2) := by decide +kernel
theorem dX4_most_28 : decode cX4_most 28 = .ok (.iconst 1, 1) := by decide +kernel
theorem dX4_most_29 : decode cX4_most 29 = .ok (.aload_n 0, 1) := by decide +kernel
theorem dX4_most_30 : decode cX4_most 30 = .ok (.getfield 9, 3) := by decide +kernel
theorem dX4_most_33 : decode cX4_most 33 = .ok (.bipush 8, 2) := by decide +kernel
theorem dX4_most_35 : decode cX4_most 35 = .ok (.iaload, 1) := by decide +kernel
theorem dX4_most_36 : decode cX4_most 36 = .ok (.ishl, 1) := by decide +kernel
theorem dX4_most_37 : decode cX4_most 37 = .ok (.if_icmp .ge 111, 3) := by decide +kernel
theorem dX4_most_40 : decode cX4_most 40 = .ok (.iload 4, 2) := by decide +kernel
theorem dX4_most_42 : decode cX4_most 42 = .ok (.iload_n 1, 1) := by decide +kernel
theorem dX4_most_43 : decode cX4_most 43 = .ok (.iconst (-1), 1) := by decide +kernel
theorem dX4_most_44 : decode cX4_most 44 = .ok (.ixor, 1) := by decide +kernel
theorem dX4_most_45 : decode cX4_most 45 = .ok (.iand, 1) := by decide +kernel
theorem dX4_most_46 : decode cX4_most 46 = .ok (.ifCond .ne 96, 3) := by decide +kernel
theorem dX4_most_49 : decode cX4_most 49 = .ok (.iload 4, 2) := by decide +kernel
theorem dX4_most_51 : decode cX4_most 51 = .ok (.invokestatic 136, 3) := by decide +kernel
theorem dX4_most_54 : decode cX4_most 54 = .ok (.iload_n 2, 1) := by decide +kernel
theorem dX4_most_55 : decode cX4_most 55 = .ok (.if_icmp .eq 6, 3) := by decide +kernel
theorem dX4_most_58 : decode cX4_most 58 = .ok (.goto 84, 3) := by decide +kernel
theorem dX4_most_61 : decode cX4_most 61 = .ok (.iconst 0, 1) := by decide +kernel
theorem dX4_most_62 : decode cX4_most 62 = .ok (.istore 5, 2) := by decide +kernel
theorem dX4_most_64 : decode cX4_most 64 = .ok (.iconst 0, 1) := by decide +kernel
theorem dX4_most_65 : decode cX4_most 65 = .ok (.istore 6, 2) := by decide +kernel
theorem dX4_most_67 : decode cX4_most 67 = .ok (.iload 6, 2) := by decide +kernel
theorem dX4_most_69 : decode cX4_most 69 = .ok (.aload_n 0, 1) := by decide +kernel
theorem dX4_most_70 : decode cX4_most 70 = .ok (.getfield 9, 3) := by decide +kernel
theorem dX4_most_73 : decode cX4_most 73 = .ok (.bipush 8, 2) := by decide +kernel
theorem dX4_most_75 : decode cX4_most 75 = .ok (.iaload, 1) := by decide +kernel
theorem dX4_most_76 : decode cX4_most 76 = .ok (.if_icmp .ge 53, 3) := by decide +kernel
theorem dX4_most_79 : decode cX4_most 79 = .ok (.iload 5, 2) := by decide +kernel
theorem dX4_most_81 : decode cX4_most 81 = .ok (.iload_n 1, 1) := by decide +kernel
theorem dX4_most_82 : decode cX4_most 82 = .ok (.iload 6, 2) := by decide +kernel
theorem dX4_most_84 : decode cX4_most 84 = .ok (.ishr, 1) := by decide +kernel
theorem dX4_most_85 : decode cX4_most 85 = .ok (.iconst 1, 1) := by decide +kernel
theorem dX4_most_86 : decode cX4_most 86 = .ok (.iand, 1) := by decide +kernel
theorem dX4_most_87 : decode cX4_most 87 = .ok (.ifCond .ne 7, 3) := by decide +kernel
theorem dX4_most_90 : decode cX4_most 90 = .ok (.iconst 0, 1) := by decide +kernel
theorem dX4_most_91 : decode cX4_most 91 = .ok (.goto 29, 3) := by decide +kernel
theorem dX4_most_94 : decode cX4_most 94 = .ok (.iload 4, 2) := by decide +kernel
theorem dX4_most_96 : decode cX4_most 96 = .ok (.iload 6, 2) := by decide +kernel
theorem dX4_most_98 : decode cX4_most 98 = .ok (.ishr, 1) := by decide +kernel
theorem dX4_most_99 : decode cX4_most 99 = .ok (.iconst 1, 1) := by decide +kernel
theorem dX4_most_100 : decode cX4_most 100 = .ok (.iand, 1) := by decide +kernel
theorem dX4_most_101 : decode cX4_most 101 = .ok (.iconst 1, 1) := by decide +kernel
theorem dX4_most_102 : decode cX4_most 102 = .ok (.if_icmp .ne 12, 3) := by decide +kernel
theorem dX4_most_105 : decode cX4_most 105 = .ok (.aload_n 0, 1) := by decide +kernel
theorem dX4_most_106 : decode cX4_most 106 = .ok (.iload 6, 2) := by decide +kernel
theorem dX4_most_108 : decode cX4_most 108 = .ok (.invokevirtual 72, 3) := by decide +kernel
theorem dX4_most_111 : decode cX4_most 111 = .ok (.goto 9, 3) := by decide +kernel
theorem dX4_most_114 : decode cX4_most 114 = .ok (.aload_n 0, 1) := by decide +kernel
theorem dX4_most_115 : decode cX4_most 115 = .ok (.iload 6, 2) := by decide +kernel
theorem dX4_most_117 : decode cX4_most 117 = .ok (.invokevirtual 75, 3) := by decide +kernel
theorem dX4_most_120 : decode cX4_most 120 = .ok (.iadd, 1) := by decide +kernel
theorem dX4_most_121 : decode cX4_most 121 = .ok (.istore 5, 2) := by decide +kernel
theorem dX4_most_123 : decode cX4_most 123 = .ok (.iinc 6 1, 3) := by decide +kernel
theorem dX4_most_126 : decode cX4_most 126 = .ok (.goto (-59), 3) := by decide +kernel
theorem dX4_most_129 : decode cX4_most 129 = .ok (.iload 5, 2) := by decide +kernel
theorem dX4_most_131 : decode cX4_most 131 = .ok (.iload_n 3, 1) := by decide +kernel
theorem dX4_most_132 : decode cX4_most 132 = .ok (.if_icmp .le 8, 3) := by decide +kernel
theorem dX4_most_135 : decode cX4_most 135 = .ok (.iload 5, 2) := by decide +kernel
theorem dX4_most_137 : decode cX4_most 137 = .ok (.goto 4, 3) := by decide +kernel
theorem dX4_most_140 : decode cX4_most 140 = .ok (.iload_n 3, 1) := by decide +kernel
theorem dX4_most_141 : decode cX4_most 141 = .ok (.istore_n 3, 1) := by decide +kernel
theorem dX4_most_142 : decode cX4_most 142 = .ok (.iinc 4 1, 3) := by decide +kernel
theorem dX4_most_145 : decode cX4_most 145 = .ok (.goto (-119), 3) := by decide +kernel
theorem dX4_most_148 : decode cX4_most 148 = .ok (.iload_n 3, 1) := by decide +kernel
theorem dX4_most_149 : decode cX4_most 149 = .ok (.ireturn, 1) := by decide +kernel
theorem dX4_price_0 : decode cX4_price 0 = .ok (.aload_n 0, 1) := by decide +kernel
theorem dX4_price_1 : decode cX4_price 1 = .ok (.iconst 2, 1) := by decide +kernel
theorem dX4_price_2 : decode cX4_price 2 = .ok (.invokevirtual 99, 3) := by decide +kernel
theorem dX4_price_5 : decode cX4_price 5 = .ok (.ifCond .ne 10, 3) := by decide +kernel
theorem dX4_price_8 : decode cX4_price 8 = .ok (.aload_n 0, 1) := by decide +kernel
theorem dX4_price_9 : decode cX4_price 9 = .ok (.ldc 35, 2) := by decide +kernel
theorem dX4_price_11 : decode cX4_price 11 = .ok (.invokevirtual 36, 3) := by decide +kernel
theorem dX4_price_14 : decode cX4_price 14 = .ok (.ireturn, 1) := by decide +kernel
theorem dX4_price_15 : decode cX4_price 15 = .ok (.aload_n 0, 1) := by decide +kernel
theorem dX4_price_16 : decode cX4_price 16 = .ok (.iconst 1, 1) := by decide +kernel
theorem dX4_price_17 : decode cX4_price 17 = .ok (.invokevirtual 99, 3) := by decide +kernel
theorem dX4_price_20 : decode cX4_price 20 = .ok (.invokestatic 136, 3) := by decide +kernel
theorem dX4_price_23 : decode cX4_price 23 = .ok (.istore_n 1, 1) := by decide +kernel
theorem dX4_price_24 : decode cX4_price 24 = .ok (.iconst 0, 1) := by decide +kernel
theorem dX4_price_25 : decode cX4_price 25 = .ok (.istore_n 2, 1) := by decide +kernel
theorem dX4_price_26 : decode cX4_price 26 = .ok (.iload_n 2, 1) := by decide +kernel
theorem dX4_price_27 : decode cX4_price 27 = .ok (.bipush 100, 2) := by decide +kernel
theorem dX4_price_29 : decode cX4_price 29 = .ok (.if_icmp .ge 74, 3) := by decide +kernel
theorem dX4_price_32 : decode cX4_price 32 = .ok (.iconst 0, 1) := by decide +kernel
theorem dX4_price_33 : decode cX4_price 33 = .ok (.istore_n 3, 1) := by decide +kernel
theorem dX4_price_34 : decode cX4_price 34 = .ok (.iconst 0, 1) := by decide +kernel
theorem dX4_price_35 : decode cX4_price 35 = .ok (.istore 4, 2) := by decide +kernel
theorem dX4_price_37 : decode cX4_price 37 = .ok (.iload 4, 2) := by decide +kernel
theorem dX4_price_39 : decode cX4_price 39 = .ok (.aload_n 0, 1) := by decide +kernel
theorem dX4_price_40 : decode cX4_price 40 = .ok (.getfield 9, 3) := by decide +kernel
theorem dX4_price_43 : decode cX4_price 43 = .ok (.bipush 8, 2) := by decide +kernel
theorem dX4_price_45 : decode cX4_price 45 = .ok (.iaload, 1) := by decide +kernel
theorem dX4_price_46 : decode cX4_price 46 = .ok (.if_icmp .ge 44, 3) := by decide +kernel
theorem dX4_price_49 : decode cX4_price 49 = .ok (.iload_n 3, 1) := by decide +kernel
theorem dX4_price_50 : decode cX4_price 50 = .ok (.aload_n 0, 1) := by decide +kernel
theorem dX4_price_51 : decode cX4_price 51 = .ok (.iload 4, 2) := by decide +kernel
theorem dX4_price_53 : decode cX4_price 53 = .ok (.iconst 5, 1) := by decide +kernel
theorem dX4_price_54 : decode cX4_price 54 = .ok (.invokevirtual 63, 3) := by decide +kernel
theorem dX4_price_57 : decode cX4_price 57 = .ok (.ifCond .eq 24, 3) := by decide +kernel
theorem dX4_price_60 : decode cX4_price 60 = .ok (.aload_n 0, 1) := by decide +kernel
theorem dX4_price_61 : decode cX4_price 61 = .ok (.iload 4, 2) := by decide +kernel
theorem dX4_price_63 : decode cX4_price 63 = .ok (.invokevirtual 72, 3) := by decide +kernel
theorem dX4_price_66 : decode cX4_price 66 = .ok (.iload_n 2, 1) := by decide +kernel
theorem dX4_price_67 : decode cX4_price 67 = .ok (.iadd, 1) := by decide +kernel
theorem dX4_price_68 : decode cX4_price 68 = .ok (.aload_n 0, 1) := by decide +kernel
theorem dX4_price_69 : decode cX4_price 69 = .ok (.iload 4, 2) := by decide +kernel
theorem dX4_price_71 : decode cX4_price 71 = .ok (.invokevirtual 75, 3) := by decide +kernel
theorem dX4_price_74 : decode cX4_price 74 = .ok (.if_icmp .le 7, 3) := by decide +kernel
theorem dX4_price_77 : decode cX4_price 77 = .ok (.iconst 1, 1) := by decide +kernel
theorem dX4_price_78 : decode cX4_price 78 = .ok (.goto 4, 3) := by decide +kernel
theorem dX4_price_81 : decode cX4_price 81 = .ok (.iconst 0, 1) := by decide +kernel
theorem dX4_price_82 : decode cX4_price 82 = .ok (.iadd, 1) := by decide +kernel
theorem dX4_price_83 : decode cX4_price 83 = .ok (.istore_n 3, 1) := by decide +kernel
theorem dX4_price_84 : decode cX4_price 84 = .ok (.iinc 4 1, 3) := by decide +kernel
theorem dX4_price_87 : decode cX4_price 87 = .ok (.goto (-50), 3) := by decide +kernel
theorem dX4_price_90 : decode cX4_price 90 = .ok (.iload_n 3, 1) := by decide +kernel
theorem dX4_price_91 : decode cX4_price 91 = .ok (.iload_n 1, 1) := by decide +kernel
theorem dX4_price_92 : decode cX4_price 92 = .ok (.if_icmp .lt 5, 3) := by decide +kernel
theorem dX4_price_95 : decode cX4_price 95 = .ok (.iload_n 2, 1) := by decide +kernel
theorem dX4_price_96 : decode cX4_price 96 = .ok (.ireturn, 1) := by decide +kernel
theorem dX4_price_97 : decode cX4_price 97 = .ok (.iinc 2 1, 3) := by decide +kernel
theorem dX4_price_100 : decode cX4_price 100 = .ok (.goto (-74), 3) := by decide +kernel
theorem dX4_price_103 : decode cX4_price 103 = .ok (.aload_n 0, 1) := by decide +kernel
theorem dX4_price_104 : decode cX4_price 104 = .ok (.ldc 35, 2) := by decide +kernel
theorem dX4_price_106 : decode cX4_price 106 = .ok (.invokevirtual 36, 3) := by decide +kernel
theorem dX4_price_109 : decode cX4_price 109 = .ok (.ireturn, 1) := by decide +kernel
theorem dX4_draw_0 : decode cX4_draw 0 = .ok (.aload_n 0, 1) := by decide +kernel
theorem dX4_draw_1 : decode cX4_draw 1 = .ok (.getfield 9, 3) := by decide +kernel
theorem dX4_draw_4 : decode cX4_draw 4 = .ok (.bipush 7, 2) := by decide +kernel
theorem dX4_draw_6 : decode cX4_draw 6 = .ok (.aload_n 0, 1) := by decide +kernel
theorem dX4_draw_7 : decode cX4_draw 7 = .ok (.getfield 9, 3) := by decide +kernel
theorem dX4_draw_10 : decode cX4_draw 10 = .ok (.bipush 7, 2) := by decide +kernel
theorem dX4_draw_12 : decode cX4_draw 12 = .ok (.iaload, 1) := by decide +kernel
theorem dX4_draw_13 : decode cX4_draw 13 = .ok (.ldc 139, 2) := by decide +kernel
theorem dX4_draw_15 : decode cX4_draw 15 = .ok (.imul, 1) := by decide +kernel
theorem dX4_draw_16 : decode cX4_draw 16 = .ok (.sipush 12345, 3) := by decide +kernel
theorem dX4_draw_19 : decode cX4_draw 19 = .ok (.iadd, 1) := by decide +kernel
theorem dX4_draw_20 : decode cX4_draw 20 = .ok (.iastore, 1) := by decide +kernel
theorem dX4_draw_21 : decode cX4_draw 21 = .ok (.aload_n 0, 1) := by decide +kernel
theorem dX4_draw_22 : decode cX4_draw 22 = .ok (.getfield 9, 3) := by decide +kernel
theorem dX4_draw_25 : decode cX4_draw 25 = .ok (.bipush 7, 2) := by decide +kernel
theorem dX4_draw_27 : decode cX4_draw 27 = .ok (.iaload, 1) := by decide +kernel
theorem dX4_draw_28 : decode cX4_draw 28 = .ok (.bipush 8, 2) := by decide +kernel
theorem dX4_draw_30 : decode cX4_draw 30 = .ok (.iushr, 1) := by decide +kernel
theorem dX4_draw_31 : decode cX4_draw 31 = .ok (.ireturn, 1) := by decide +kernel
theorem dX4_drawsTokens_0 : decode cX4_drawsTokens 0 = .ok (.aload_n 0, 1) := by decide +kernel
theorem dX4_drawsTokens_1 : decode cX4_drawsTokens 1 = .ok (.getfield 9, 3) := by decide +kernel
theorem dX4_drawsTokens_4 : decode cX4_drawsTokens 4 = .ok (.iconst 0, 1) := by decide +kernel
theorem dX4_drawsTokens_5 : decode cX4_drawsTokens 5 = .ok (.iaload, 1) := by decide +kernel
theorem dX4_drawsTokens_6 : decode cX4_drawsTokens 6 = .ok (.istore_n 1, 1) := by decide +kernel
theorem dX4_drawsTokens_7 : decode cX4_drawsTokens 7 = .ok (.aload_n 0, 1) := by decide +kernel
theorem dX4_drawsTokens_8 : decode cX4_drawsTokens 8 = .ok (.getfield 9, 3) := by decide +kernel
theorem dX4_drawsTokens_11 : decode cX4_drawsTokens 11 = .ok (.iconst 1, 1) := by decide +kernel
theorem dX4_drawsTokens_12 : decode cX4_drawsTokens 12 = .ok (.iaload, 1) := by decide +kernel
theorem dX4_drawsTokens_13 : decode cX4_drawsTokens 13 = .ok (.istore_n 2, 1) := by decide +kernel
theorem dX4_drawsTokens_14 : decode cX4_drawsTokens 14 = .ok (.iconst 0, 1) := by decide +kernel
theorem dX4_drawsTokens_15 : decode cX4_drawsTokens 15 = .ok (.istore_n 3, 1) := by decide +kernel
theorem dX4_drawsTokens_16 : decode cX4_drawsTokens 16 = .ok (.iload_n 3, 1) := by decide +kernel
theorem dX4_drawsTokens_17 : decode cX4_drawsTokens 17 = .ok (.aload_n 0, 1) := by decide +kernel
theorem dX4_drawsTokens_18 : decode cX4_drawsTokens 18 = .ok (.getfield 9, 3) := by decide +kernel
theorem dX4_drawsTokens_21 : decode cX4_drawsTokens 21 = .ok (.bipush 8, 2) := by decide +kernel
theorem dX4_drawsTokens_23 : decode cX4_drawsTokens 23 = .ok (.iaload, 1) := by decide +kernel
theorem dX4_drawsTokens_24 : decode cX4_drawsTokens 24 = .ok (.if_icmp .ge 98, 3) := by decide +kernel
theorem dX4_drawsTokens_27 : decode cX4_drawsTokens 27 = .ok (.iload_n 1, 1) := by decide +kernel
theorem dX4_drawsTokens_28 : decode cX4_drawsTokens 28 = .ok (.iload_n 2, 1) := by decide +kernel
theorem dX4_drawsTokens_29 : decode cX4_drawsTokens 29 = .ok (.iadd, 1) := by decide +kernel
theorem dX4_drawsTokens_30 : decode cX4_drawsTokens 30 = .ok (.istore 4, 2) := by decide +kernel
theorem dX4_drawsTokens_32 : decode cX4_drawsTokens 32 = .ok (.iload 4, 2) := by decide +kernel
theorem dX4_drawsTokens_34 : decode cX4_drawsTokens 34 = .ok (.ifCond .le 18, 3) := by decide +kernel
theorem dX4_drawsTokens_37 : decode cX4_drawsTokens 37 = .ok (.aload_n 0, 1) := by decide +kernel
theorem dX4_drawsTokens_38 : decode cX4_drawsTokens 38 = .ok (.invokevirtual 140, 3) := by decide +kernel
theorem dX4_drawsTokens_41 : decode cX4_drawsTokens 41 = .ok (.iload 4, 2) := by decide +kernel
theorem dX4_drawsTokens_43 : decode cX4_drawsTokens 43 = .ok (.irem, 1) := by decide +kernel
theorem dX4_drawsTokens_44 : decode cX4_drawsTokens 44 = .ok (.iload_n 1, 1) := by decide +kernel
theorem dX4_drawsTokens_45 : decode cX4_drawsTokens 45 = .ok (.if_icmp .ge 7, 3) := by decide +kernel
theorem dX4_drawsTokens_48 : decode cX4_drawsTokens 48 = .ok (.iconst 1, 1) := by decide +kernel
theorem dX4_drawsTokens_49 : decode cX4_drawsTokens 49 = .ok (.goto 4, 3) := by decide +kernel
theorem dX4_drawsTokens_52 : decode cX4_drawsTokens 52 = .ok (.iconst 0, 1) := by decide +kernel
theorem dX4_drawsTokens_53 : decode cX4_drawsTokens 53 = .ok (.istore 5, 2) := by decide +kernel
theorem dX4_drawsTokens_55 : decode cX4_drawsTokens 55 = .ok (.aload_n 0, 1) := by decide +kernel
theorem dX4_drawsTokens_56 : decode cX4_drawsTokens 56 = .ok (.iload_n 3, 1) := by decide +kernel
theorem dX4_drawsTokens_57 : decode cX4_drawsTokens 57 = .ok (.iconst 5, 1) := by decide +kernel
theorem dX4_drawsTokens_58 : decode cX4_drawsTokens 58 = .ok (.iload 4, 2) := by decide +kernel
theorem dX4_drawsTokens_60 : decode cX4_drawsTokens 60 = .ok (.ifCond .ne 7, 3) := by decide +kernel
theorem dX4_drawsTokens_63 : decode cX4_drawsTokens 63 = .ok (.iconst 0, 1) := by decide +kernel
theorem dX4_drawsTokens_64 : decode cX4_drawsTokens 64 = .ok (.goto 13, 3) := by decide +kernel
theorem dX4_drawsTokens_67 : decode cX4_drawsTokens 67 = .ok (.iload 5, 2) := by decide +kernel
theorem dX4_drawsTokens_69 : decode cX4_drawsTokens 69 = .ok (.ifCond .eq 7, 3) := by decide +kernel
theorem dX4_drawsTokens_72 : decode cX4_drawsTokens 72 = .ok (.iconst 1, 1) := by decide +kernel
theorem dX4_drawsTokens_73 : decode cX4_drawsTokens 73 = .ok (.goto 4, 3) := by decide +kernel
theorem dX4_drawsTokens_76 : decode cX4_drawsTokens 76 = .ok (.iconst 2, 1) := by decide +kernel
theorem dX4_drawsTokens_77 : decode cX4_drawsTokens 77 = .ok (.invokevirtual 50, 3) := by decide +kernel
theorem dX4_drawsTokens_80 : decode cX4_drawsTokens 80 = .ok (.iload_n 1, 1) := by decide +kernel
theorem dX4_drawsTokens_81 : decode cX4_drawsTokens 81 = .ok (.iload 4, 2) := by decide +kernel
theorem dX4_drawsTokens_83 : decode cX4_drawsTokens 83 = .ok (.ifCond .le 12, 3) := by decide +kernel
theorem dX4_drawsTokens_86 : decode cX4_drawsTokens 86 = .ok (.iload 5, 2) := by decide +kernel
theorem dX4_drawsTokens_88 : decode cX4_drawsTokens 88 = .ok (.ifCond .eq 7, 3) := by decide +kernel
theorem dX4_drawsTokens_91 : decode cX4_drawsTokens 91 = .ok (.iconst 1, 1) := by decide +kernel
theorem dX4_drawsTokens_92 : decode cX4_drawsTokens 92 = .ok (.goto 4, 3) := by decide +kernel
theorem dX4_drawsTokens_95 : decode cX4_drawsTokens 95 = .ok (.iconst 0, 1) := by decide +kernel
theorem dX4_drawsTokens_96 : decode cX4_drawsTokens 96 = .ok (.isub, 1) := by decide +kernel
theorem dX4_drawsTokens_97 : decode cX4_drawsTokens 97 = .ok (.istore_n 1, 1) := by decide +kernel
theorem dX4_drawsTokens_98 : decode cX4_drawsTokens 98 = .ok (.iload_n 2, 1) := by decide +kernel
theorem dX4_drawsTokens_99 : decode cX4_drawsTokens 99 = .ok (.iload 4, 2) := by decide +kernel
theorem dX4_drawsTokens_101 : decode cX4_drawsTokens 101 = .ok (.ifCond .le 12, 3) := by decide +kernel
theorem dX4_drawsTokens_104 : decode cX4_drawsTokens 104 = .ok (.iload 5, 2) := by decide +kernel
theorem dX4_drawsTokens_106 : decode cX4_drawsTokens 106 = .ok (.ifCond .ne 7, 3) := by decide +kernel
theorem dX4_drawsTokens_109 : decode cX4_drawsTokens 109 = .ok (.iconst 1, 1) := by decide +kernel
theorem dX4_drawsTokens_110 : decode cX4_drawsTokens 110 = .ok (.goto 4, 3) := by decide +kernel
theorem dX4_drawsTokens_113 : decode cX4_drawsTokens 113 = .ok (.iconst 0, 1) := by decide +kernel
theorem dX4_drawsTokens_114 : decode cX4_drawsTokens 114 = .ok (.isub, 1) := by decide +kernel
theorem dX4_drawsTokens_115 : decode cX4_drawsTokens 115 = .ok (.istore_n 2, 1) := by decide +kernel
theorem dX4_drawsTokens_116 : decode cX4_drawsTokens 116 = .ok (.iinc 3 1, 3) := by decide +kernel
theorem dX4_drawsTokens_119 : decode cX4_drawsTokens 119 = .ok (.goto (-103), 3) := by decide +kernel
theorem dX4_drawsTokens_122 : decode cX4_drawsTokens 122 = .ok (.return_, 1) := by decide +kernel
theorem dX4_eatAndSee_0 : decode cX4_eatAndSee 0 = .ok (.iconst 0, 1) := by decide +kernel
theorem dX4_eatAndSee_1 : decode cX4_eatAndSee 1 = .ok (.istore_n 1, 1) := by decide +kernel
theorem dX4_eatAndSee_2 : decode cX4_eatAndSee 2 = .ok (.iload_n 1, 1) := by decide +kernel
theorem dX4_eatAndSee_3 : decode cX4_eatAndSee 3 = .ok (.aload_n 0, 1) := by decide +kernel
theorem dX4_eatAndSee_4 : decode cX4_eatAndSee 4 = .ok (.getfield 9, 3) := by decide +kernel
theorem dX4_eatAndSee_7 : decode cX4_eatAndSee 7 = .ok (.bipush 8, 2) := by decide +kernel
theorem dX4_eatAndSee_9 : decode cX4_eatAndSee 9 = .ok (.iaload, 1) := by decide +kernel
theorem dX4_eatAndSee_10 : decode cX4_eatAndSee 10 = .ok (.if_icmp .ge 103, 3) := by decide +kernel
theorem dX4_eatAndSee_13 : decode cX4_eatAndSee 13 = .ok (.aload_n 0, 1) := by decide +kernel
theorem dX4_eatAndSee_14 : decode cX4_eatAndSee 14 = .ok (.iload_n 1, 1) := by decide +kernel
theorem dX4_eatAndSee_15 : decode cX4_eatAndSee 15 = .ok (.iconst 5, 1) := by decide +kernel
theorem dX4_eatAndSee_16 : decode cX4_eatAndSee 16 = .ok (.invokevirtual 63, 3) := by decide +kernel
theorem dX4_eatAndSee_19 : decode cX4_eatAndSee 19 = .ok (.istore_n 2, 1) := by decide +kernel
theorem dX4_eatAndSee_20 : decode cX4_eatAndSee 20 = .ok (.aload_n 0, 1) := by decide +kernel
theorem dX4_eatAndSee_21 : decode cX4_eatAndSee 21 = .ok (.iload_n 1, 1) := by decide +kernel
theorem dX4_eatAndSee_22 : decode cX4_eatAndSee 22 = .ok (.iconst 1, 1) := by decide +kernel
theorem dX4_eatAndSee_23 : decode cX4_eatAndSee 23 = .ok (.invokevirtual 63, 3) := by decide +kernel
theorem dX4_eatAndSee_26 : decode cX4_eatAndSee 26 = .ok (.iload_n 2, 1) := by decide +kernel
theorem dX4_eatAndSee_27 : decode cX4_eatAndSee 27 = .ok (.iconst 1, 1) := by decide +kernel
theorem dX4_eatAndSee_28 : decode cX4_eatAndSee 28 = .ok (.if_icmp .eq 7, 3) := by decide +kernel
theorem dX4_eatAndSee_31 : decode cX4_eatAndSee 31 = .ok (.iconst 1, 1) := by decide +kernel
theorem dX4_eatAndSee_32 : decode cX4_eatAndSee 32 = .ok (.goto 20, 3) := by decide +kernel
theorem dX4_eatAndSee_35 : decode cX4_eatAndSee 35 = .ok (.aload_n 0, 1) := by decide +kernel
theorem dX4_eatAndSee_36 : decode cX4_eatAndSee 36 = .ok (.getfield 9, 3) := by decide +kernel
theorem dX4_eatAndSee_39 : decode cX4_eatAndSee 39 = .ok (.iconst 4, 1) := by decide +kernel
theorem dX4_eatAndSee_40 : decode cX4_eatAndSee 40 = .ok (.iaload, 1) := by decide +kernel
theorem dX4_eatAndSee_41 : decode cX4_eatAndSee 41 = .ok (.iconst 1, 1) := by decide +kernel
theorem dX4_eatAndSee_42 : decode cX4_eatAndSee 42 = .ok (.if_icmp .ne 8, 3) := by decide +kernel
theorem dX4_eatAndSee_45 : decode cX4_eatAndSee 45 = .ok (.bipush (-2), 2) := by decide +kernel
theorem dX4_eatAndSee_47 : decode cX4_eatAndSee 47 = .ok (.goto 5, 3) := by decide +kernel
theorem dX4_eatAndSee_50 : decode cX4_eatAndSee 50 = .ok (.bipush (-3), 2) := by decide +kernel
theorem dX4_eatAndSee_52 : decode cX4_eatAndSee 52 = .ok (.iadd, 1) := by decide +kernel
theorem dX4_eatAndSee_53 : decode cX4_eatAndSee 53 = .ok (.istore_n 3, 1) := by decide +kernel
theorem dX4_eatAndSee_54 : decode cX4_eatAndSee 54 = .ok (.aload_n 0, 1) := by decide +kernel
theorem dX4_eatAndSee_55 : decode cX4_eatAndSee 55 = .ok (.iload_n 1, 1) := by decide +kernel
theorem dX4_eatAndSee_56 : decode cX4_eatAndSee 56 = .ok (.iconst 4, 1) := by decide +kernel
theorem dX4_eatAndSee_57 : decode cX4_eatAndSee 57 = .ok (.aload_n 0, 1) := by decide +kernel
theorem dX4_eatAndSee_58 : decode cX4_eatAndSee 58 = .ok (.iload_n 1, 1) := by decide +kernel
theorem dX4_eatAndSee_59 : decode cX4_eatAndSee 59 = .ok (.iconst 4, 1) := by decide +kernel
theorem dX4_eatAndSee_60 : decode cX4_eatAndSee 60 = .ok (.invokevirtual 63, 3) := by decide +kernel
theorem dX4_eatAndSee_63 : decode cX4_eatAndSee 63 = .ok (.iload_n 2, 1) := by decide +kernel
theorem dX4_eatAndSee_64 : decode cX4_eatAndSee 64 = .ok (.iconst 2, 1) := by decide +kernel
theorem dX4_eatAndSee_65 : decode cX4_eatAndSee 65 = .ok (.if_icmp .ne 11, 3) := by decide +kernel
theorem dX4_eatAndSee_68 : decode cX4_eatAndSee 68 = .ok (.aload_n 0, 1) := by decide +kernel
theorem dX4_eatAndSee_69 : decode cX4_eatAndSee 69 = .ok (.iload_n 1, 1) := by decide +kernel
theorem dX4_eatAndSee_70 : decode cX4_eatAndSee 70 = .ok (.invokevirtual 75, 3) := by decide +kernel
theorem dX4_eatAndSee_73 : decode cX4_eatAndSee 73 = .ok (.goto 4, 3) := by decide +kernel
theorem dX4_eatAndSee_76 : decode cX4_eatAndSee 76 = .ok (.iconst 0, 1) := by decide +kernel
theorem dX4_eatAndSee_77 : decode cX4_eatAndSee 77 = .ok (.iadd, 1) := by decide +kernel
theorem dX4_eatAndSee_78 : decode cX4_eatAndSee 78 = .ok (.invokevirtual 50, 3) := by decide +kernel
theorem dX4_eatAndSee_81 : decode cX4_eatAndSee 81 = .ok (.aload_n 0, 1) := by decide +kernel
theorem dX4_eatAndSee_82 : decode cX4_eatAndSee 82 = .ok (.iload_n 1, 1) := by decide +kernel
theorem dX4_eatAndSee_83 : decode cX4_eatAndSee 83 = .ok (.iconst 1, 1) := by decide +kernel
theorem dX4_eatAndSee_84 : decode cX4_eatAndSee 84 = .ok (.iload_n 3, 1) := by decide +kernel
theorem dX4_eatAndSee_85 : decode cX4_eatAndSee 85 = .ok (.ifCond .ge 7, 3) := by decide +kernel
theorem dX4_eatAndSee_88 : decode cX4_eatAndSee 88 = .ok (.iconst 0, 1) := by decide +kernel
theorem dX4_eatAndSee_89 : decode cX4_eatAndSee 89 = .ok (.goto 15, 3) := by decide +kernel
theorem dX4_eatAndSee_92 : decode cX4_eatAndSee 92 = .ok (.iload_n 3, 1) := by decide +kernel
theorem dX4_eatAndSee_93 : decode cX4_eatAndSee 93 = .ok (.bipush 9, 2) := by decide +kernel
theorem dX4_eatAndSee_95 : decode cX4_eatAndSee 95 = .ok (.if_icmp .le 8, 3) := by decide +kernel
theorem dX4_eatAndSee_98 : decode cX4_eatAndSee 98 = .ok (.bipush 9, 2) := by decide +kernel
theorem dX4_eatAndSee_100 : decode cX4_eatAndSee 100 = .ok (.goto 4, 3) := by decide +kernel
theorem dX4_eatAndSee_103 : decode cX4_eatAndSee 103 = .ok (.iload_n 3, 1) := by decide +kernel
theorem dX4_eatAndSee_104 : decode cX4_eatAndSee 104 = .ok (.invokevirtual 50, 3) := by decide +kernel
theorem dX4_eatAndSee_107 : decode cX4_eatAndSee 107 = .ok (.iinc 1 1, 3) := by decide +kernel
theorem dX4_eatAndSee_110 : decode cX4_eatAndSee 110 = .ok (.goto (-108), 3) := by decide +kernel
theorem dX4_eatAndSee_113 : decode cX4_eatAndSee 113 = .ok (.return_, 1) := by decide +kernel
theorem dX4_aWeek_0 : decode cX4_aWeek 0 = .ok (.aload_n 0, 1) := by decide +kernel
theorem dX4_aWeek_1 : decode cX4_aWeek 1 = .ok (.invokevirtual 143, 3) := by decide +kernel
theorem dX4_aWeek_4 : decode cX4_aWeek 4 = .ok (.aload_n 0, 1) := by decide +kernel
theorem dX4_aWeek_5 : decode cX4_aWeek 5 = .ok (.invokevirtual 120, 3) := by decide +kernel
theorem dX4_aWeek_8 : decode cX4_aWeek 8 = .ok (.istore_n 1, 1) := by decide +kernel
theorem dX4_aWeek_9 : decode cX4_aWeek 9 = .ok (.aload_n 0, 1) := by decide +kernel
theorem dX4_aWeek_10 : decode cX4_aWeek 10 = .ok (.invokevirtual 146, 3) := by decide +kernel
theorem dX4_aWeek_13 : decode cX4_aWeek 13 = .ok (.aload_n 0, 1) := by decide +kernel
theorem dX4_aWeek_14 : decode cX4_aWeek 14 = .ok (.invokevirtual 102, 3) := by decide +kernel
theorem dX4_aWeek_17 : decode cX4_aWeek 17 = .ok (.invokestatic 136, 3) := by decide +kernel
theorem dX4_aWeek_20 : decode cX4_aWeek 20 = .ok (.aload_n 0, 1) := by decide +kernel
theorem dX4_aWeek_21 : decode cX4_aWeek 21 = .ok (.getfield 9, 3) := by decide +kernel
theorem dX4_aWeek_24 : decode cX4_aWeek 24 = .ok (.iconst 2, 1) := by decide +kernel
theorem dX4_aWeek_25 : decode cX4_aWeek 25 = .ok (.iaload, 1) := by decide +kernel
theorem dX4_aWeek_26 : decode cX4_aWeek 26 = .ok (.if_icmp .lt 50, 3) := by decide +kernel
theorem dX4_aWeek_29 : decode cX4_aWeek 29 = .ok (.aload_n 0, 1) := by decide +kernel
theorem dX4_aWeek_30 : decode cX4_aWeek 30 = .ok (.getfield 9, 3) := by decide +kernel
theorem dX4_aWeek_33 : decode cX4_aWeek 33 = .ok (.bipush 6, 2) := by decide +kernel
theorem dX4_aWeek_35 : decode cX4_aWeek 35 = .ok (.dup2, 1) := by decide +kernel
theorem dX4_aWeek_36 : decode cX4_aWeek 36 = .ok (.iaload, 1) := by decide +kernel
theorem dX4_aWeek_37 : decode cX4_aWeek 37 = .ok (.iconst 1, 1) := by decide +kernel
theorem dX4_aWeek_38 : decode cX4_aWeek 38 = .ok (.iadd, 1) := by decide +kernel
theorem dX4_aWeek_39 : decode cX4_aWeek 39 = .ok (.iastore, 1) := by decide +kernel
theorem dX4_aWeek_40 : decode cX4_aWeek 40 = .ok (.iconst 0, 1) := by decide +kernel
theorem dX4_aWeek_41 : decode cX4_aWeek 41 = .ok (.istore_n 2, 1) := by decide +kernel
theorem dX4_aWeek_42 : decode cX4_aWeek 42 = .ok (.iload_n 2, 1) := by decide +kernel
theorem dX4_aWeek_43 : decode cX4_aWeek 43 = .ok (.aload_n 0, 1) := by decide +kernel
theorem dX4_aWeek_44 : decode cX4_aWeek 44 = .ok (.getfield 9, 3) := by decide +kernel
theorem dX4_aWeek_47 : decode cX4_aWeek 47 = .ok (.bipush 8, 2) := by decide +kernel
theorem dX4_aWeek_49 : decode cX4_aWeek 49 = .ok (.iaload, 1) := by decide +kernel
theorem dX4_aWeek_50 : decode cX4_aWeek 50 = .ok (.if_icmp .ge 26, 3) := by decide +kernel
theorem dX4_aWeek_53 : decode cX4_aWeek 53 = .ok (.aload_n 0, 1) := by decide +kernel
theorem dX4_aWeek_54 : decode cX4_aWeek 54 = .ok (.iload_n 2, 1) := by decide +kernel
theorem dX4_aWeek_55 : decode cX4_aWeek 55 = .ok (.iconst 1, 1) := by decide +kernel
theorem dX4_aWeek_56 : decode cX4_aWeek 56 = .ok (.invokevirtual 63, 3) := by decide +kernel
theorem dX4_aWeek_59 : decode cX4_aWeek 59 = .ok (.iconst 5, 1) := by decide +kernel
theorem dX4_aWeek_60 : decode cX4_aWeek 60 = .ok (.if_icmp .le 10, 3) := by decide +kernel
theorem dX4_aWeek_63 : decode cX4_aWeek 63 = .ok (.aload_n 0, 1) := by decide +kernel
theorem dX4_aWeek_64 : decode cX4_aWeek 64 = .ok (.iload_n 2, 1) := by decide +kernel
theorem dX4_aWeek_65 : decode cX4_aWeek 65 = .ok (.iconst 1, 1) := by decide +kernel
theorem dX4_aWeek_66 : decode cX4_aWeek 66 = .ok (.iconst 5, 1) := by decide +kernel
theorem dX4_aWeek_67 : decode cX4_aWeek 67 = .ok (.invokevirtual 50, 3) := by decide +kernel
theorem dX4_aWeek_70 : decode cX4_aWeek 70 = .ok (.iinc 2 1, 3) := by decide +kernel
theorem dX4_aWeek_73 : decode cX4_aWeek 73 = .ok (.goto (-31), 3) := by decide +kernel
theorem dX4_aWeek_76 : decode cX4_aWeek 76 = .ok (.aload_n 0, 1) := by decide +kernel
theorem dX4_aWeek_77 : decode cX4_aWeek 77 = .ok (.getfield 9, 3) := by decide +kernel
theorem dX4_aWeek_80 : decode cX4_aWeek 80 = .ok (.iconst 3, 1) := by decide +kernel
theorem dX4_aWeek_81 : decode cX4_aWeek 81 = .ok (.aload_n 0, 1) := by decide +kernel
theorem dX4_aWeek_82 : decode cX4_aWeek 82 = .ok (.invokevirtual 140, 3) := by decide +kernel
theorem dX4_aWeek_85 : decode cX4_aWeek 85 = .ok (.iconst 4, 1) := by decide +kernel
theorem dX4_aWeek_86 : decode cX4_aWeek 86 = .ok (.irem, 1) := by decide +kernel
theorem dX4_aWeek_87 : decode cX4_aWeek 87 = .ok (.iastore, 1) := by decide +kernel
theorem dX4_aWeek_88 : decode cX4_aWeek 88 = .ok (.iconst 0, 1) := by decide +kernel
theorem dX4_aWeek_89 : decode cX4_aWeek 89 = .ok (.istore_n 2, 1) := by decide +kernel
theorem dX4_aWeek_90 : decode cX4_aWeek 90 = .ok (.iload_n 2, 1) := by decide +kernel
theorem dX4_aWeek_91 : decode cX4_aWeek 91 = .ok (.aload_n 0, 1) := by decide +kernel
theorem dX4_aWeek_92 : decode cX4_aWeek 92 = .ok (.getfield 9, 3) := by decide +kernel
theorem dX4_aWeek_95 : decode cX4_aWeek 95 = .ok (.bipush 8, 2) := by decide +kernel
theorem dX4_aWeek_97 : decode cX4_aWeek 97 = .ok (.iaload, 1) := by decide +kernel
theorem dX4_aWeek_98 : decode cX4_aWeek 98 = .ok (.if_icmp .ge 16, 3) := by decide +kernel
theorem dX4_aWeek_101 : decode cX4_aWeek 101 = .ok (.aload_n 0, 1) := by decide +kernel
theorem dX4_aWeek_102 : decode cX4_aWeek 102 = .ok (.iload_n 2, 1) := by decide +kernel
theorem dX4_aWeek_103 : decode cX4_aWeek 103 = .ok (.iconst 5, 1) := by decide +kernel
theorem dX4_aWeek_104 : decode cX4_aWeek 104 = .ok (.iconst 0, 1) := by decide +kernel
theorem dX4_aWeek_105 : decode cX4_aWeek 105 = .ok (.invokevirtual 50, 3) := by decide +kernel
theorem dX4_aWeek_108 : decode cX4_aWeek 108 = .ok (.iinc 2 1, 3) := by decide +kernel
theorem dX4_aWeek_111 : decode cX4_aWeek 111 = .ok (.goto (-21), 3) := by decide +kernel
theorem dX4_aWeek_114 : decode cX4_aWeek 114 = .ok (.aload_n 0, 1) := by decide +kernel
theorem dX4_aWeek_115 : decode cX4_aWeek 115 = .ok (.getfield 9, 3) := by decide +kernel
theorem dX4_aWeek_118 : decode cX4_aWeek 118 = .ok (.iconst 5, 1) := by decide +kernel
theorem dX4_aWeek_119 : decode cX4_aWeek 119 = .ok (.dup2, 1) := by decide +kernel
theorem dX4_aWeek_120 : decode cX4_aWeek 120 = .ok (.iaload, 1) := by decide +kernel
theorem dX4_aWeek_121 : decode cX4_aWeek 121 = .ok (.iconst 1, 1) := by decide +kernel
theorem dX4_aWeek_122 : decode cX4_aWeek 122 = .ok (.iadd, 1) := by decide +kernel
theorem dX4_aWeek_123 : decode cX4_aWeek 123 = .ok (.iastore, 1) := by decide +kernel
theorem dX4_aWeek_124 : decode cX4_aWeek 124 = .ok (.iload_n 1, 1) := by decide +kernel
theorem dX4_aWeek_125 : decode cX4_aWeek 125 = .ok (.ireturn, 1) := by decide +kernel
theorem dX4_goes_0 : decode cX4_goes 0 = .ok (.iconst 0, 1) := by decide +kernel
theorem dX4_goes_1 : decode cX4_goes 1 = .ok (.istore_n 2, 1) := by decide +kernel
theorem dX4_goes_2 : decode cX4_goes 2 = .ok (.iconst 0, 1) := by decide +kernel
theorem dX4_goes_3 : decode cX4_goes 3 = .ok (.istore_n 3, 1) := by decide +kernel
theorem dX4_goes_4 : decode cX4_goes 4 = .ok (.iload_n 3, 1) := by decide +kernel
theorem dX4_goes_5 : decode cX4_goes 5 = .ok (.iload_n 1, 1) := by decide +kernel
theorem dX4_goes_6 : decode cX4_goes 6 = .ok (.if_icmp .ge 16, 3) := by decide +kernel
theorem dX4_goes_9 : decode cX4_goes 9 = .ok (.iload_n 2, 1) := by decide +kernel
theorem dX4_goes_10 : decode cX4_goes 10 = .ok (.aload_n 0, 1) := by decide +kernel
theorem dX4_goes_11 : decode cX4_goes 11 = .ok (.invokevirtual 149, 3) := by decide +kernel
theorem dX4_goes_14 : decode cX4_goes 14 = .ok (.iadd, 1) := by decide +kernel
theorem dX4_goes_15 : decode cX4_goes 15 = .ok (.istore_n 2, 1) := by decide +kernel
theorem dX4_goes_16 : decode cX4_goes 16 = .ok (.iinc 3 1, 3) := by decide +kernel
theorem dX4_goes_19 : decode cX4_goes 19 = .ok (.goto (-15), 3) := by decide +kernel
theorem dX4_goes_22 : decode cX4_goes 22 = .ok (.iload_n 2, 1) := by decide +kernel
theorem dX4_goes_23 : decode cX4_goes 23 = .ok (.ireturn, 1) := by decide +kernel
theorem dX4_weeks_0 : decode cX4_weeks 0 = .ok (.iload_n 1, 1) := by decide +kernel
theorem dX4_weeks_1 : decode cX4_weeks 1 = .ok (.invokestatic 152, 3) := by decide +kernel
theorem dX4_weeks_4 : decode cX4_weeks 4 = .ok (.ifCond .ne 10, 3) := by decide +kernel
theorem dX4_weeks_7 : decode cX4_weeks 7 = .ok (.aload_n 0, 1) := by decide +kernel
theorem dX4_weeks_8 : decode cX4_weeks 8 = .ok (.ldc 34, 2) := by decide +kernel
theorem dX4_weeks_10 : decode cX4_weeks 10 = .ok (.invokevirtual 36, 3) := by decide +kernel
theorem dX4_weeks_13 : decode cX4_weeks 13 = .ok (.ireturn, 1) := by decide +kernel
theorem dX4_weeks_14 : decode cX4_weeks 14 = .ok (.aload_n 0, 1) := by decide +kernel
theorem dX4_weeks_15 : decode cX4_weeks 15 = .ok (.iload_n 1, 1) := by decide +kernel
theorem dX4_weeks_16 : decode cX4_weeks 16 = .ok (.invokevirtual 155, 3) := by decide +kernel
theorem dX4_weeks_19 : decode cX4_weeks 19 = .ok (.ifCond .eq 10, 3) := by decide +kernel
theorem dX4_weeks_22 : decode cX4_weeks 22 = .ok (.aload_n 0, 1) := by decide +kernel
theorem dX4_weeks_23 : decode cX4_weeks 23 = .ok (.ldc 109, 2) := by decide +kernel
theorem dX4_weeks_25 : decode cX4_weeks 25 = .ok (.invokevirtual 36, 3) := by decide +kernel
theorem dX4_weeks_28 : decode cX4_weeks 28 = .ok (.ireturn, 1) := by decide +kernel
theorem dX4_weeks_29 : decode cX4_weeks 29 = .ok (.aload_n 0, 1) := by decide +kernel
theorem dX4_weeks_30 : decode cX4_weeks 30 = .ok (.getfield 9, 3) := by decide +kernel
theorem dX4_weeks_33 : decode cX4_weeks 33 = .ok (.bipush 6, 2) := by decide +kernel
theorem dX4_weeks_35 : decode cX4_weeks 35 = .ok (.iaload, 1) := by decide +kernel
theorem dX4_weeks_36 : decode cX4_weeks 36 = .ok (.istore_n 2, 1) := by decide +kernel
theorem dX4_weeks_37 : decode cX4_weeks 37 = .ok (.aload_n 0, 1) := by decide +kernel
theorem dX4_weeks_38 : decode cX4_weeks 38 = .ok (.iload_n 1, 1) := by decide +kernel
theorem dX4_weeks_39 : decode cX4_weeks 39 = .ok (.invokevirtual 158, 3) := by decide +kernel
theorem dX4_weeks_42 : decode cX4_weeks 42 = .ok (.pop, 1) := by decide +kernel
theorem dX4_weeks_43 : decode cX4_weeks 43 = .ok (.aload_n 0, 1) := by decide +kernel
theorem dX4_weeks_44 : decode cX4_weeks 44 = .ok (.getfield 9, 3) := by decide +kernel
theorem dX4_weeks_47 : decode cX4_weeks 47 = .ok (.bipush 6, 2) := by decide +kernel
theorem dX4_weeks_49 : decode cX4_weeks 49 = .ok (.iaload, 1) := by decide +kernel
theorem dX4_weeks_50 : decode cX4_weeks 50 = .ok (.iload_n 2, 1) := by decide +kernel
theorem dX4_weeks_51 : decode cX4_weeks 51 = .ok (.isub, 1) := by decide +kernel
theorem dX4_weeks_52 : decode cX4_weeks 52 = .ok (.ireturn, 1) := by decide +kernel
theorem dX4_sum_0 : decode cX4_sum 0 = .ok (.iconst 0, 1) := by decide +kernel
theorem dX4_sum_1 : decode cX4_sum 1 = .ok (.istore_n 2, 1) := by decide +kernel
theorem dX4_sum_2 : decode cX4_sum 2 = .ok (.iconst 0, 1) := by decide +kernel
theorem dX4_sum_3 : decode cX4_sum 3 = .ok (.istore_n 3, 1) := by decide +kernel
theorem dX4_sum_4 : decode cX4_sum 4 = .ok (.iload_n 3, 1) := by decide +kernel
theorem dX4_sum_5 : decode cX4_sum 5 = .ok (.aload_n 0, 1) := by decide +kernel
theorem dX4_sum_6 : decode cX4_sum 6 = .ok (.getfield 9, 3) := by decide +kernel
theorem dX4_sum_9 : decode cX4_sum 9 = .ok (.bipush 8, 2) := by decide +kernel
theorem dX4_sum_11 : decode cX4_sum 11 = .ok (.iaload, 1) := by decide +kernel
theorem dX4_sum_12 : decode cX4_sum 12 = .ok (.if_icmp .ge 18, 3) := by decide +kernel
theorem dX4_sum_15 : decode cX4_sum 15 = .ok (.iload_n 2, 1) := by decide +kernel
theorem dX4_sum_16 : decode cX4_sum 16 = .ok (.aload_n 0, 1) := by decide +kernel
theorem dX4_sum_17 : decode cX4_sum 17 = .ok (.iload_n 3, 1) := by decide +kernel
theorem dX4_sum_18 : decode cX4_sum 18 = .ok (.iload_n 1, 1) := by decide +kernel
theorem dX4_sum_19 : decode cX4_sum 19 = .ok (.invokevirtual 63, 3) := by decide +kernel
theorem dX4_sum_22 : decode cX4_sum 22 = .ok (.iadd, 1) := by decide +kernel
theorem dX4_sum_23 : decode cX4_sum 23 = .ok (.istore_n 2, 1) := by decide +kernel
theorem dX4_sum_24 : decode cX4_sum 24 = .ok (.iinc 3 1, 3) := by decide +kernel
theorem dX4_sum_27 : decode cX4_sum 27 = .ok (.goto (-23), 3) := by decide +kernel
theorem dX4_sum_30 : decode cX4_sum 30 = .ok (.iload_n 2, 1) := by decide +kernel
theorem dX4_sum_31 : decode cX4_sum 31 = .ok (.ireturn, 1) := by decide +kernel
theorem dX4_ahead_0 : decode cX4_ahead 0 = .ok (.iload_n 1, 1) := by decide +kernel
theorem dX4_ahead_1 : decode cX4_ahead 1 = .ok (.i2l, 1) := by decide +kernel
theorem dX4_ahead_2 : decode cX4_ahead 2 = .ok (.lconst 0, 1) := by decide +kernel
theorem dX4_ahead_3 : decode cX4_ahead 3 = .ok (.ldc2_w 48, 3) := by decide +kernel
theorem dX4_ahead_6 : decode cX4_ahead 6 = .ok (.invokestatic 40, 3) := by decide +kernel
theorem dX4_ahead_9 : decode cX4_ahead 9 = .ok (.ifCond .eq 22, 3) := by decide +kernel
theorem dX4_ahead_12 : decode cX4_ahead 12 = .ok (.iload_n 2, 1) := by decide +kernel
theorem dX4_ahead_13 : decode cX4_ahead 13 = .ok (.i2l, 1) := by decide +kernel
theorem dX4_ahead_14 : decode cX4_ahead 14 = .ok (.lconst 0, 1) := by decide +kernel
theorem dX4_ahead_15 : decode cX4_ahead 15 = .ok (.iconst 3, 1) := by decide +kernel
theorem dX4_ahead_16 : decode cX4_ahead 16 = .ok (.aload_n 0, 1) := by decide +kernel
theorem dX4_ahead_17 : decode cX4_ahead 17 = .ok (.getfield 9, 3) := by decide +kernel
theorem dX4_ahead_20 : decode cX4_ahead 20 = .ok (.bipush 8, 2) := by decide +kernel
theorem dX4_ahead_22 : decode cX4_ahead 22 = .ok (.iaload, 1) := by decide +kernel
theorem dX4_ahead_23 : decode cX4_ahead 23 = .ok (.iadd, 1) := by decide +kernel
theorem dX4_ahead_24 : decode cX4_ahead 24 = .ok (.i2l, 1) := by decide +kernel
theorem dX4_ahead_25 : decode cX4_ahead 25 = .ok (.invokestatic 40, 3) := by decide +kernel
theorem dX4_ahead_28 : decode cX4_ahead 28 = .ok (.ifCond .ne 10, 3) := by decide +kernel
theorem dX4_ahead_31 : decode cX4_ahead 31 = .ok (.aload_n 0, 1) := by decide +kernel
theorem dX4_ahead_32 : decode cX4_ahead 32 = .ok (.ldc 34, 2) := by decide +kernel
theorem dX4_ahead_34 : decode cX4_ahead 34 = .ok (.invokevirtual 36, 3) := by decide +kernel
theorem dX4_ahead_37 : decode cX4_ahead 37 = .ok (.ireturn, 1) := by decide +kernel
theorem dX4_ahead_38 : decode cX4_ahead 38 = .ok (.aload_n 0, 1) := by decide +kernel
theorem dX4_ahead_39 : decode cX4_ahead 39 = .ok (.iload_n 1, 1) := by decide +kernel
theorem dX4_ahead_40 : decode cX4_ahead 40 = .ok (.invokevirtual 155, 3) := by decide +kernel
theorem dX4_ahead_43 : decode cX4_ahead 43 = .ok (.ifCond .eq 10, 3) := by decide +kernel
theorem dX4_ahead_46 : decode cX4_ahead 46 = .ok (.aload_n 0, 1) := by decide +kernel
theorem dX4_ahead_47 : decode cX4_ahead 47 = .ok (.ldc 109, 2) := by decide +kernel
theorem dX4_ahead_49 : decode cX4_ahead 49 = .ok (.invokevirtual 36, 3) := by decide +kernel
theorem dX4_ahead_52 : decode cX4_ahead 52 = .ok (.ireturn, 1) := by decide +kernel
theorem dX4_ahead_53 : decode cX4_ahead 53 = .ok (.aload_n 0, 1) := by decide +kernel
theorem dX4_ahead_54 : decode cX4_ahead 54 = .ok (.getfield 9, 3) := by decide +kernel
theorem dX4_ahead_57 : decode cX4_ahead 57 = .ok (.aload_n 0, 1) := by decide +kernel
theorem dX4_ahead_58 : decode cX4_ahead 58 = .ok (.getfield 16, 3) := by decide +kernel
theorem dX4_ahead_61 : decode cX4_ahead 61 = .ok (.invokestatic 123, 3) := by decide +kernel
theorem dX4_ahead_64 : decode cX4_ahead 64 = .ok (.aload_n 0, 1) := by decide +kernel
theorem dX4_ahead_65 : decode cX4_ahead 65 = .ok (.iconst 4, 1) := by decide +kernel
theorem dX4_ahead_66 : decode cX4_ahead 66 = .ok (.invokevirtual 161, 3) := by decide +kernel
theorem dX4_ahead_69 : decode cX4_ahead 69 = .ok (.istore_n 3, 1) := by decide +kernel
theorem dX4_ahead_70 : decode cX4_ahead 70 = .ok (.aload_n 0, 1) := by decide +kernel
theorem dX4_ahead_71 : decode cX4_ahead 71 = .ok (.iload_n 1, 1) := by decide +kernel
theorem dX4_ahead_72 : decode cX4_ahead 72 = .ok (.invokevirtual 158, 3) := by decide +kernel
theorem dX4_ahead_75 : decode cX4_ahead 75 = .ok (.istore 4, 2) := by decide +kernel
theorem dX4_ahead_77 : decode cX4_ahead 77 = .ok (.iload_n 2, 1) := by decide +kernel
theorem dX4_ahead_78 : decode cX4_ahead 78 = .ok (.tableswitch 79 0 3 #[30, 50, 60, 72], 30) := by decide +kernel
theorem dX4_ahead_108 : decode cX4_ahead 108 = .ok (.aload_n 0, 1) := by decide +kernel
theorem dX4_ahead_109 : decode cX4_ahead 109 = .ok (.getfield 9, 3) := by decide +kernel
theorem dX4_ahead_112 : decode cX4_ahead 112 = .ok (.bipush 6, 2) := by decide +kernel
theorem dX4_ahead_114 : decode cX4_ahead 114 = .ok (.iaload, 1) := by decide +kernel
theorem dX4_ahead_115 : decode cX4_ahead 115 = .ok (.aload_n 0, 1) := by decide +kernel
theorem dX4_ahead_116 : decode cX4_ahead 116 = .ok (.getfield 16, 3) := by decide +kernel
theorem dX4_ahead_119 : decode cX4_ahead 119 = .ok (.bipush 6, 2) := by decide +kernel
theorem dX4_ahead_121 : decode cX4_ahead 121 = .ok (.iaload, 1) := by decide +kernel
theorem dX4_ahead_122 : decode cX4_ahead 122 = .ok (.isub, 1) := by decide +kernel
theorem dX4_ahead_123 : decode cX4_ahead 123 = .ok (.istore 5, 2) := by decide +kernel
theorem dX4_ahead_125 : decode cX4_ahead 125 = .ok (.goto 42, 3) := by decide +kernel
theorem dX4_ahead_128 : decode cX4_ahead 128 = .ok (.aload_n 0, 1) := by decide +kernel
theorem dX4_ahead_129 : decode cX4_ahead 129 = .ok (.iconst 1, 1) := by decide +kernel
theorem dX4_ahead_130 : decode cX4_ahead 130 = .ok (.invokevirtual 161, 3) := by decide +kernel
theorem dX4_ahead_133 : decode cX4_ahead 133 = .ok (.istore 5, 2) := by decide +kernel
theorem dX4_ahead_135 : decode cX4_ahead 135 = .ok (.goto 32, 3) := by decide +kernel
theorem dX4_ahead_138 : decode cX4_ahead 138 = .ok (.aload_n 0, 1) := by decide +kernel
theorem dX4_ahead_139 : decode cX4_ahead 139 = .ok (.iconst 4, 1) := by decide +kernel
theorem dX4_ahead_140 : decode cX4_ahead 140 = .ok (.invokevirtual 161, 3) := by decide +kernel
theorem dX4_ahead_143 : decode cX4_ahead 143 = .ok (.iload_n 3, 1) := by decide +kernel
theorem dX4_ahead_144 : decode cX4_ahead 144 = .ok (.isub, 1) := by decide +kernel
theorem dX4_ahead_145 : decode cX4_ahead 145 = .ok (.istore 5, 2) := by decide +kernel
theorem dX4_ahead_147 : decode cX4_ahead 147 = .ok (.goto 20, 3) := by decide +kernel
theorem dX4_ahead_150 : decode cX4_ahead 150 = .ok (.iload 4, 2) := by decide +kernel
theorem dX4_ahead_152 : decode cX4_ahead 152 = .ok (.istore 5, 2) := by decide +kernel
theorem dX4_ahead_154 : decode cX4_ahead 154 = .ok (.goto 13, 3) := by decide +kernel
theorem dX4_ahead_157 : decode cX4_ahead 157 = .ok (.aload_n 0, 1) := by decide +kernel
theorem dX4_ahead_158 : decode cX4_ahead 158 = .ok (.iload_n 2, 1) := by decide +kernel
theorem dX4_ahead_159 : decode cX4_ahead 159 = .ok (.iconst 4, 1) := by decide +kernel
theorem dX4_ahead_160 : decode cX4_ahead 160 = .ok (.isub, 1) := by decide +kernel
theorem dX4_ahead_161 : decode cX4_ahead 161 = .ok (.iconst 1, 1) := by decide +kernel
theorem dX4_ahead_162 : decode cX4_ahead 162 = .ok (.invokevirtual 63, 3) := by decide +kernel
theorem dX4_ahead_165 : decode cX4_ahead 165 = .ok (.istore 5, 2) := by decide +kernel
theorem dX4_ahead_167 : decode cX4_ahead 167 = .ok (.aload_n 0, 1) := by decide +kernel
theorem dX4_ahead_168 : decode cX4_ahead 168 = .ok (.getfield 16, 3) := by decide +kernel
theorem dX4_ahead_171 : decode cX4_ahead 171 = .ok (.aload_n 0, 1) := by decide +kernel
theorem dX4_ahead_172 : decode cX4_ahead 172 = .ok (.getfield 9, 3) := by decide +kernel
theorem dX4_ahead_175 : decode cX4_ahead 175 = .ok (.invokestatic 123, 3) := by decide +kernel
theorem dX4_ahead_178 : decode cX4_ahead 178 = .ok (.iload 5, 2) := by decide +kernel
theorem dX4_ahead_180 : decode cX4_ahead 180 = .ok (.ireturn, 1) := by decide +kernel
theorem dX4_riot_0 : decode cX4_riot 0 = .ok (.aload_n 0, 1) := by decide +kernel
theorem dX4_riot_1 : decode cX4_riot 1 = .ok (.bipush 60, 2) := by decide +kernel
theorem dX4_riot_3 : decode cX4_riot 3 = .ok (.invokevirtual 155, 3) := by decide +kernel
theorem dX4_riot_6 : decode cX4_riot 6 = .ok (.ifCond .eq 10, 3) := by decide +kernel
theorem dX4_riot_9 : decode cX4_riot 9 = .ok (.aload_n 0, 1) := by decide +kernel
theorem dX4_riot_10 : decode cX4_riot 10 = .ok (.ldc 109, 2) := by decide +kernel
theorem dX4_riot_12 : decode cX4_riot 12 = .ok (.invokevirtual 36, 3) := by decide +kernel
theorem dX4_riot_15 : decode cX4_riot 15 = .ok (.ireturn, 1) := by decide +kernel
theorem dX4_riot_16 : decode cX4_riot 16 = .ok (.aload_n 0, 1) := by decide +kernel
theorem dX4_riot_17 : decode cX4_riot 17 = .ok (.getfield 9, 3) := by decide +kernel
theorem dX4_riot_20 : decode cX4_riot 20 = .ok (.aload_n 0, 1) := by decide +kernel
theorem dX4_riot_21 : decode cX4_riot 21 = .ok (.getfield 16, 3) := by decide +kernel
theorem dX4_riot_24 : decode cX4_riot 24 = .ok (.invokestatic 123, 3) := by decide +kernel
theorem dX4_riot_27 : decode cX4_riot 27 = .ok (.iconst (-1), 1) := by decide +kernel
theorem dX4_riot_28 : decode cX4_riot 28 = .ok (.istore_n 1, 1) := by decide +kernel
theorem dX4_riot_29 : decode cX4_riot 29 = .ok (.iconst 1, 1) := by decide +kernel
theorem dX4_riot_30 : decode cX4_riot 30 = .ok (.istore_n 2, 1) := by decide +kernel
theorem dX4_riot_31 : decode cX4_riot 31 = .ok (.iload_n 2, 1) := by decide +kernel
theorem dX4_riot_32 : decode cX4_riot 32 = .ok (.bipush 60, 2) := by decide +kernel
theorem dX4_riot_34 : decode cX4_riot 34 = .ok (.if_icmp .gt 41, 3) := by decide +kernel
theorem dX4_riot_37 : decode cX4_riot 37 = .ok (.iload_n 1, 1) := by decide +kernel
theorem dX4_riot_38 : decode cX4_riot 38 = .ok (.ifCond .ge 37, 3) := by decide +kernel
theorem dX4_riot_41 : decode cX4_riot 41 = .ok (.aload_n 0, 1) := by decide +kernel
theorem dX4_riot_42 : decode cX4_riot 42 = .ok (.invokevirtual 149, 3) := by decide +kernel
theorem dX4_riot_45 : decode cX4_riot 45 = .ok (.pop, 1) := by decide +kernel
theorem dX4_riot_46 : decode cX4_riot 46 = .ok (.aload_n 0, 1) := by decide +kernel
theorem dX4_riot_47 : decode cX4_riot 47 = .ok (.getfield 9, 3) := by decide +kernel
theorem dX4_riot_50 : decode cX4_riot 50 = .ok (.bipush 6, 2) := by decide +kernel
theorem dX4_riot_52 : decode cX4_riot 52 = .ok (.iaload, 1) := by decide +kernel
theorem dX4_riot_53 : decode cX4_riot 53 = .ok (.aload_n 0, 1) := by decide +kernel
theorem dX4_riot_54 : decode cX4_riot 54 = .ok (.getfield 16, 3) := by decide +kernel
theorem dX4_riot_57 : decode cX4_riot 57 = .ok (.bipush 6, 2) := by decide +kernel
theorem dX4_riot_59 : decode cX4_riot 59 = .ok (.iaload, 1) := by decide +kernel
theorem dX4_riot_60 : decode cX4_riot 60 = .ok (.if_icmp .le 7, 3) := by decide +kernel
theorem dX4_riot_63 : decode cX4_riot 63 = .ok (.iload_n 2, 1) := by decide +kernel
theorem dX4_riot_64 : decode cX4_riot 64 = .ok (.goto 4, 3) := by decide +kernel
theorem dX4_riot_67 : decode cX4_riot 67 = .ok (.iconst (-1), 1) := by decide +kernel
theorem dX4_riot_68 : decode cX4_riot 68 = .ok (.istore_n 1, 1) := by decide +kernel
theorem dX4_riot_69 : decode cX4_riot 69 = .ok (.iinc 2 1, 3) := by decide +kernel
theorem dX4_riot_72 : decode cX4_riot 72 = .ok (.goto (-41), 3) := by decide +kernel
theorem dX4_riot_75 : decode cX4_riot 75 = .ok (.aload_n 0, 1) := by decide +kernel
theorem dX4_riot_76 : decode cX4_riot 76 = .ok (.getfield 16, 3) := by decide +kernel
theorem dX4_riot_79 : decode cX4_riot 79 = .ok (.aload_n 0, 1) := by decide +kernel
theorem dX4_riot_80 : decode cX4_riot 80 = .ok (.getfield 9, 3) := by decide +kernel
theorem dX4_riot_83 : decode cX4_riot 83 = .ok (.invokestatic 123, 3) := by decide +kernel
theorem dX4_riot_86 : decode cX4_riot 86 = .ok (.aload_n 0, 1) := by decide +kernel
theorem dX4_riot_87 : decode cX4_riot 87 = .ok (.iload_n 1, 1) := by decide +kernel
theorem dX4_riot_88 : decode cX4_riot 88 = .ok (.invokevirtual 164, 3) := by decide +kernel
theorem dX4_riot_91 : decode cX4_riot 91 = .ok (.ireturn, 1) := by decide +kernel
theorem dX4_next_0 : decode cX4_next 0 = .ok (.aload_n 0, 1) := by decide +kernel
theorem dX4_next_1 : decode cX4_next 1 = .ok (.iload_n 1, 1) := by decide +kernel
theorem dX4_next_2 : decode cX4_next 2 = .ok (.invokevirtual 67, 3) := by decide +kernel
theorem dX4_next_5 : decode cX4_next 5 = .ok (.ifCond .ne 10, 3) := by decide +kernel
theorem dX4_next_8 : decode cX4_next 8 = .ok (.aload_n 0, 1) := by decide +kernel
theorem dX4_next_9 : decode cX4_next 9 = .ok (.ldc 34, 2) := by decide +kernel
theorem dX4_next_11 : decode cX4_next 11 = .ok (.invokevirtual 36, 3) := by decide +kernel
theorem dX4_next_14 : decode cX4_next 14 = .ok (.ireturn, 1) := by decide +kernel
theorem dX4_next_15 : decode cX4_next 15 = .ok (.aload_n 0, 1) := by decide +kernel
theorem dX4_next_16 : decode cX4_next 16 = .ok (.iconst 1, 1) := by decide +kernel
theorem dX4_next_17 : decode cX4_next 17 = .ok (.invokevirtual 155, 3) := by decide +kernel
theorem dX4_next_20 : decode cX4_next 20 = .ok (.ifCond .eq 10, 3) := by decide +kernel
theorem dX4_next_23 : decode cX4_next 23 = .ok (.aload_n 0, 1) := by decide +kernel
theorem dX4_next_24 : decode cX4_next 24 = .ok (.ldc 109, 2) := by decide +kernel
theorem dX4_next_26 : decode cX4_next 26 = .ok (.invokevirtual 36, 3) := by decide +kernel
theorem dX4_next_29 : decode cX4_next 29 = .ok (.ireturn, 1) := by decide +kernel
theorem dX4_next_30 : decode cX4_next 30 = .ok (.aload_n 0, 1) := by decide +kernel
theorem dX4_next_31 : decode cX4_next 31 = .ok (.getfield 9, 3) := by decide +kernel
theorem dX4_next_34 : decode cX4_next 34 = .ok (.aload_n 0, 1) := by decide +kernel
theorem dX4_next_35 : decode cX4_next 35 = .ok (.getfield 16, 3) := by decide +kernel
theorem dX4_next_38 : decode cX4_next 38 = .ok (.invokestatic 123, 3) := by decide +kernel
theorem dX4_next_41 : decode cX4_next 41 = .ok (.aload_n 0, 1) := by decide +kernel
theorem dX4_next_42 : decode cX4_next 42 = .ok (.invokevirtual 143, 3) := by decide +kernel
theorem dX4_next_45 : decode cX4_next 45 = .ok (.aload_n 0, 1) := by decide +kernel
theorem dX4_next_46 : decode cX4_next 46 = .ok (.invokevirtual 120, 3) := by decide +kernel
theorem dX4_next_49 : decode cX4_next 49 = .ok (.pop, 1) := by decide +kernel
theorem dX4_next_50 : decode cX4_next 50 = .ok (.aload_n 0, 1) := by decide +kernel
theorem dX4_next_51 : decode cX4_next 51 = .ok (.iload_n 1, 1) := by decide +kernel
theorem dX4_next_52 : decode cX4_next 52 = .ok (.iconst 5, 1) := by decide +kernel
theorem dX4_next_53 : decode cX4_next 53 = .ok (.invokevirtual 63, 3) := by decide +kernel
theorem dX4_next_56 : decode cX4_next 56 = .ok (.istore_n 2, 1) := by decide +kernel
theorem dX4_next_57 : decode cX4_next 57 = .ok (.aload_n 0, 1) := by decide +kernel
theorem dX4_next_58 : decode cX4_next 58 = .ok (.getfield 16, 3) := by decide +kernel
theorem dX4_next_61 : decode cX4_next 61 = .ok (.aload_n 0, 1) := by decide +kernel
theorem dX4_next_62 : decode cX4_next 62 = .ok (.getfield 9, 3) := by decide +kernel
theorem dX4_next_65 : decode cX4_next 65 = .ok (.invokestatic 123, 3) := by decide +kernel
theorem dX4_next_68 : decode cX4_next 68 = .ok (.iload_n 2, 1) := by decide +kernel
theorem dX4_next_69 : decode cX4_next 69 = .ok (.ireturn, 1) := by decide +kernel
theorem dX4_tries_0 : decode cX4_tries 0 = .ok (.aload_n 0, 1) := by decide +kernel
theorem dX4_tries_1 : decode cX4_tries 1 = .ok (.getfield 9, 3) := by decide +kernel
theorem dX4_tries_4 : decode cX4_tries 4 = .ok (.aload_n 0, 1) := by decide +kernel
theorem dX4_tries_5 : decode cX4_tries 5 = .ok (.getfield 16, 3) := by decide +kernel
theorem dX4_tries_8 : decode cX4_tries 8 = .ok (.invokestatic 123, 3) := by decide +kernel
theorem dX4_tries_11 : decode cX4_tries 11 = .ok (.aload_n 0, 1) := by decide +kernel
theorem dX4_tries_12 : decode cX4_tries 12 = .ok (.getfield 9, 3) := by decide +kernel
theorem dX4_tries_15 : decode cX4_tries 15 = .ok (.iload_n 2, 1) := by decide +kernel
theorem dX4_tries_16 : decode cX4_tries 16 = .ok (.iload_n 3, 1) := by decide +kernel
theorem dX4_tries_17 : decode cX4_tries 17 = .ok (.iastore, 1) := by decide +kernel
theorem dX4_tries_18 : decode cX4_tries 18 = .ok (.aload_n 0, 1) := by decide +kernel
theorem dX4_tries_19 : decode cX4_tries 19 = .ok (.iconst 4, 1) := by decide +kernel
theorem dX4_tries_20 : decode cX4_tries 20 = .ok (.invokevirtual 161, 3) := by decide +kernel
theorem dX4_tries_23 : decode cX4_tries 23 = .ok (.istore 4, 2) := by decide +kernel
theorem dX4_tries_25 : decode cX4_tries 25 = .ok (.aload_n 0, 1) := by decide +kernel
theorem dX4_tries_26 : decode cX4_tries 26 = .ok (.iload_n 1, 1) := by decide +kernel
theorem dX4_tries_27 : decode cX4_tries 27 = .ok (.invokevirtual 158, 3) := by decide +kernel
theorem dX4_tries_30 : decode cX4_tries 30 = .ok (.istore 5, 2) := by decide +kernel
theorem dX4_tries_32 : decode cX4_tries 32 = .ok (.aload_n 0, 1) := by decide +kernel
theorem dX4_tries_33 : decode cX4_tries 33 = .ok (.aload_n 0, 1) := by decide +kernel
theorem dX4_tries_34 : decode cX4_tries 34 = .ok (.getfield 9, 3) := by decide +kernel
theorem dX4_tries_37 : decode cX4_tries 37 = .ok (.bipush 6, 2) := by decide +kernel
theorem dX4_tries_39 : decode cX4_tries 39 = .ok (.iaload, 1) := by decide +kernel
theorem dX4_tries_40 : decode cX4_tries 40 = .ok (.aload_n 0, 1) := by decide +kernel
theorem dX4_tries_41 : decode cX4_tries 41 = .ok (.getfield 16, 3) := by decide +kernel
theorem dX4_tries_44 : decode cX4_tries 44 = .ok (.bipush 6, 2) := by decide +kernel
theorem dX4_tries_46 : decode cX4_tries 46 = .ok (.iaload, 1) := by decide +kernel
theorem dX4_tries_47 : decode cX4_tries 47 = .ok (.isub, 1) := by decide +kernel
theorem dX4_tries_48 : decode cX4_tries 48 = .ok (.putfield 167, 3) := by decide +kernel
theorem dX4_tries_51 : decode cX4_tries 51 = .ok (.aload_n 0, 1) := by decide +kernel
theorem dX4_tries_52 : decode cX4_tries 52 = .ok (.aload_n 0, 1) := by decide +kernel
theorem dX4_tries_53 : decode cX4_tries 53 = .ok (.iconst 4, 1) := by decide +kernel
theorem dX4_tries_54 : decode cX4_tries 54 = .ok (.invokevirtual 161, 3) := by decide +kernel
theorem dX4_tries_57 : decode cX4_tries 57 = .ok (.iload 4, 2) := by decide +kernel
theorem dX4_tries_59 : decode cX4_tries 59 = .ok (.isub, 1) := by decide +kernel
theorem dX4_tries_60 : decode cX4_tries 60 = .ok (.putfield 171, 3) := by decide +kernel
theorem dX4_tries_63 : decode cX4_tries 63 = .ok (.aload_n 0, 1) := by decide +kernel
theorem dX4_tries_64 : decode cX4_tries 64 = .ok (.getfield 16, 3) := by decide +kernel
theorem dX4_tries_67 : decode cX4_tries 67 = .ok (.aload_n 0, 1) := by decide +kernel
theorem dX4_tries_68 : decode cX4_tries 68 = .ok (.getfield 9, 3) := by decide +kernel
theorem dX4_tries_71 : decode cX4_tries 71 = .ok (.invokestatic 123, 3) := by decide +kernel
theorem dX4_tries_74 : decode cX4_tries 74 = .ok (.iload 5, 2) := by decide +kernel
theorem dX4_tries_76 : decode cX4_tries 76 = .ok (.ireturn, 1) := by decide +kernel
theorem dX4_loaves_0 : decode cX4_loaves 0 = .ok (.iload_n 1, 1) := by decide +kernel
theorem dX4_loaves_1 : decode cX4_loaves 1 = .ok (.invokestatic 152, 3) := by decide +kernel
theorem dX4_loaves_4 : decode cX4_loaves 4 = .ok (.ifCond .ne 10, 3) := by decide +kernel
theorem dX4_loaves_7 : decode cX4_loaves 7 = .ok (.aload_n 0, 1) := by decide +kernel
theorem dX4_loaves_8 : decode cX4_loaves 8 = .ok (.ldc 34, 2) := by decide +kernel
theorem dX4_loaves_10 : decode cX4_loaves 10 = .ok (.invokevirtual 36, 3) := by decide +kernel
theorem dX4_loaves_13 : decode cX4_loaves 13 = .ok (.ireturn, 1) := by decide +kernel
theorem dX4_loaves_14 : decode cX4_loaves 14 = .ok (.aload_n 0, 1) := by decide +kernel
theorem dX4_loaves_15 : decode cX4_loaves 15 = .ok (.iload_n 1, 1) := by decide +kernel
theorem dX4_loaves_16 : decode cX4_loaves 16 = .ok (.invokevirtual 155, 3) := by decide +kernel
theorem dX4_loaves_19 : decode cX4_loaves 19 = .ok (.ifCond .eq 10, 3) := by decide +kernel
theorem dX4_loaves_22 : decode cX4_loaves 22 = .ok (.aload_n 0, 1) := by decide +kernel
theorem dX4_loaves_23 : decode cX4_loaves 23 = .ok (.ldc 109, 2) := by decide +kernel
theorem dX4_loaves_25 : decode cX4_loaves 25 = .ok (.invokevirtual 36, 3) := by decide +kernel
theorem dX4_loaves_28 : decode cX4_loaves 28 = .ok (.ireturn, 1) := by decide +kernel
theorem dX4_loaves_29 : decode cX4_loaves 29 = .ok (.iconst 0, 1) := by decide +kernel
theorem dX4_loaves_30 : decode cX4_loaves 30 = .ok (.istore_n 2, 1) := by decide +kernel
theorem dX4_loaves_31 : decode cX4_loaves 31 = .ok (.iload_n 2, 1) := by decide +kernel
theorem dX4_loaves_32 : decode cX4_loaves 32 = .ok (.bipush 10, 2) := by decide +kernel
theorem dX4_loaves_34 : decode cX4_loaves 34 = .ok (.if_icmp .gt 26, 3) := by decide +kernel
theorem dX4_loaves_37 : decode cX4_loaves 37 = .ok (.aload_n 0, 1) := by decide +kernel
theorem dX4_loaves_38 : decode cX4_loaves 38 = .ok (.iload_n 1, 1) := by decide +kernel
theorem dX4_loaves_39 : decode cX4_loaves 39 = .ok (.iconst 0, 1) := by decide +kernel
theorem dX4_loaves_40 : decode cX4_loaves 40 = .ok (.iload_n 2, 1) := by decide +kernel
theorem dX4_loaves_41 : decode cX4_loaves 41 = .ok (.invokevirtual 174, 3) := by decide +kernel
theorem dX4_loaves_44 : decode cX4_loaves 44 = .ok (.pop, 1) := by decide +kernel
theorem dX4_loaves_45 : decode cX4_loaves 45 = .ok (.aload_n 0, 1) := by decide +kernel
theorem dX4_loaves_46 : decode cX4_loaves 46 = .ok (.getfield 167, 3) := by decide +kernel
theorem dX4_loaves_49 : decode cX4_loaves 49 = .ok (.ifCond .ne 5, 3) := by decide +kernel
theorem dX4_loaves_52 : decode cX4_loaves 52 = .ok (.iload_n 2, 1) := by decide +kernel
theorem dX4_loaves_53 : decode cX4_loaves 53 = .ok (.ireturn, 1) := by decide +kernel
theorem dX4_loaves_54 : decode cX4_loaves 54 = .ok (.iinc 2 1, 3) := by decide +kernel
theorem dX4_loaves_57 : decode cX4_loaves 57 = .ok (.goto (-26), 3) := by decide +kernel
theorem dX4_loaves_60 : decode cX4_loaves 60 = .ok (.aload_n 0, 1) := by decide +kernel
theorem dX4_loaves_61 : decode cX4_loaves 61 = .ok (.ldc 35, 2) := by decide +kernel
theorem dX4_loaves_63 : decode cX4_loaves 63 = .ok (.invokevirtual 36, 3) := by decide +kernel
theorem dX4_loaves_66 : decode cX4_loaves 66 = .ok (.ireturn, 1) := by decide +kernel
theorem dX4_cheapest_0 : decode cX4_cheapest 0 = .ok (.iload_n 1, 1) := by decide +kernel
theorem dX4_cheapest_1 : decode cX4_cheapest 1 = .ok (.invokestatic 152, 3) := by decide +kernel
theorem dX4_cheapest_4 : decode cX4_cheapest 4 = .ok (.ifCond .ne 10, 3) := by decide +kernel
theorem dX4_cheapest_7 : decode cX4_cheapest 7 = .ok (.aload_n 0, 1) := by decide +kernel
theorem dX4_cheapest_8 : decode cX4_cheapest 8 = .ok (.ldc 34, 2) := by decide +kernel
theorem dX4_cheapest_10 : decode cX4_cheapest 10 = .ok (.invokevirtual 36, 3) := by decide +kernel
theorem dX4_cheapest_13 : decode cX4_cheapest 13 = .ok (.ireturn, 1) := by decide +kernel
theorem dX4_cheapest_14 : decode cX4_cheapest 14 = .ok (.aload_n 0, 1) := by decide +kernel
theorem dX4_cheapest_15 : decode cX4_cheapest 15 = .ok (.iload_n 1, 1) := by decide +kernel
theorem dX4_cheapest_16 : decode cX4_cheapest 16 = .ok (.invokevirtual 155, 3) := by decide +kernel
theorem dX4_cheapest_19 : decode cX4_cheapest 19 = .ok (.ifCond .eq 10, 3) := by decide +kernel
theorem dX4_cheapest_22 : decode cX4_cheapest 22 = .ok (.aload_n 0, 1) := by decide +kernel
theorem dX4_cheapest_23 : decode cX4_cheapest 23 = .ok (.ldc 109, 2) := by decide +kernel
theorem dX4_cheapest_25 : decode cX4_cheapest 25 = .ok (.invokevirtual 36, 3) := by decide +kernel
theorem dX4_cheapest_28 : decode cX4_cheapest 28 = .ok (.ireturn, 1) := by decide +kernel
theorem dX4_cheapest_29 : decode cX4_cheapest 29 = .ok (.aload_n 0, 1) := by decide +kernel
theorem dX4_cheapest_30 : decode cX4_cheapest 30 = .ok (.getfield 9, 3) := by decide +kernel
theorem dX4_cheapest_33 : decode cX4_cheapest 33 = .ok (.iconst 1, 1) := by decide +kernel
theorem dX4_cheapest_34 : decode cX4_cheapest 34 = .ok (.iaload, 1) := by decide +kernel
theorem dX4_cheapest_35 : decode cX4_cheapest 35 = .ok (.istore_n 2, 1) := by decide +kernel
theorem dX4_cheapest_36 : decode cX4_cheapest 36 = .ok (.iconst (-1), 1) := by decide +kernel
theorem dX4_cheapest_37 : decode cX4_cheapest 37 = .ok (.istore_n 3, 1) := by decide +kernel
theorem dX4_cheapest_38 : decode cX4_cheapest 38 = .ok (.iconst 0, 1) := by decide +kernel
theorem dX4_cheapest_39 : decode cX4_cheapest 39 = .ok (.istore 4, 2) := by decide +kernel
theorem dX4_cheapest_41 : decode cX4_cheapest 41 = .ok (.iconst 0, 1) := by decide +kernel
theorem dX4_cheapest_42 : decode cX4_cheapest 42 = .ok (.istore 5, 2) := by decide +kernel
theorem dX4_cheapest_44 : decode cX4_cheapest 44 = .ok (.iload 5, 2) := by decide +kernel
theorem dX4_cheapest_46 : decode cX4_cheapest 46 = .ok (.bipush 10, 2) := by decide +kernel
theorem dX4_cheapest_48 : decode cX4_cheapest 48 = .ok (.if_icmp .gt 100, 3) := by decide +kernel
theorem dX4_cheapest_51 : decode cX4_cheapest 51 = .ok (.iconst 0, 1) := by decide +kernel
theorem dX4_cheapest_52 : decode cX4_cheapest 52 = .ok (.istore 6, 2) := by decide +kernel
theorem dX4_cheapest_54 : decode cX4_cheapest 54 = .ok (.iload 6, 2) := by decide +kernel
theorem dX4_cheapest_56 : decode cX4_cheapest 56 = .ok (.bipush 10, 2) := by decide +kernel
theorem dX4_cheapest_58 : decode cX4_cheapest 58 = .ok (.if_icmp .gt 84, 3) := by decide +kernel
theorem dX4_cheapest_61 : decode cX4_cheapest 61 = .ok (.iload_n 3, 1) := by decide +kernel
theorem dX4_cheapest_62 : decode cX4_cheapest 62 = .ok (.ifCond .lt 20, 3) := by decide +kernel
theorem dX4_cheapest_65 : decode cX4_cheapest 65 = .ok (.iconst 3, 1) := by decide +kernel
theorem dX4_cheapest_66 : decode cX4_cheapest 66 = .ok (.iload 5, 2) := by decide +kernel
theorem dX4_cheapest_68 : decode cX4_cheapest 68 = .ok (.imul, 1) := by decide +kernel
theorem dX4_cheapest_69 : decode cX4_cheapest 69 = .ok (.iconst 2, 1) := by decide +kernel
theorem dX4_cheapest_70 : decode cX4_cheapest 70 = .ok (.iload 6, 2) := by decide +kernel
theorem dX4_cheapest_72 : decode cX4_cheapest 72 = .ok (.imul, 1) := by decide +kernel
theorem dX4_cheapest_73 : decode cX4_cheapest 73 = .ok (.iadd, 1) := by decide +kernel
theorem dX4_cheapest_74 : decode cX4_cheapest 74 = .ok (.iload 4, 2) := by decide +kernel
theorem dX4_cheapest_76 : decode cX4_cheapest 76 = .ok (.if_icmp .lt 6, 3) := by decide +kernel
theorem dX4_cheapest_79 : decode cX4_cheapest 79 = .ok (.goto 57, 3) := by decide +kernel
theorem dX4_cheapest_82 : decode cX4_cheapest 82 = .ok (.aload_n 0, 1) := by decide +kernel
theorem dX4_cheapest_83 : decode cX4_cheapest 83 = .ok (.getfield 9, 3) := by decide +kernel
theorem dX4_cheapest_86 : decode cX4_cheapest 86 = .ok (.iconst 1, 1) := by decide +kernel
theorem dX4_cheapest_87 : decode cX4_cheapest 87 = .ok (.iload 6, 2) := by decide +kernel
theorem dX4_cheapest_89 : decode cX4_cheapest 89 = .ok (.iastore, 1) := by decide +kernel
theorem dX4_cheapest_90 : decode cX4_cheapest 90 = .ok (.aload_n 0, 1) := by decide +kernel
theorem dX4_cheapest_91 : decode cX4_cheapest 91 = .ok (.iload_n 1, 1) := by decide +kernel
theorem dX4_cheapest_92 : decode cX4_cheapest 92 = .ok (.iconst 0, 1) := by decide +kernel
theorem dX4_cheapest_93 : decode cX4_cheapest 93 = .ok (.iload 5, 2) := by decide +kernel
theorem dX4_cheapest_95 : decode cX4_cheapest 95 = .ok (.invokevirtual 174, 3) := by decide +kernel
theorem dX4_cheapest_98 : decode cX4_cheapest 98 = .ok (.pop, 1) := by decide +kernel
theorem dX4_cheapest_99 : decode cX4_cheapest 99 = .ok (.aload_n 0, 1) := by decide +kernel
theorem dX4_cheapest_100 : decode cX4_cheapest 100 = .ok (.getfield 9, 3) := by decide +kernel
theorem dX4_cheapest_103 : decode cX4_cheapest 103 = .ok (.iconst 1, 1) := by decide +kernel
theorem dX4_cheapest_104 : decode cX4_cheapest 104 = .ok (.iload_n 2, 1) := by decide +kernel
theorem dX4_cheapest_105 : decode cX4_cheapest 105 = .ok (.iastore, 1) := by decide +kernel
theorem dX4_cheapest_106 : decode cX4_cheapest 106 = .ok (.aload_n 0, 1) := by decide +kernel
theorem dX4_cheapest_107 : decode cX4_cheapest 107 = .ok (.getfield 167, 3) := by decide +kernel
theorem dX4_cheapest_110 : decode cX4_cheapest 110 = .ok (.ifCond .le 6, 3) := by decide +kernel
theorem dX4_cheapest_113 : decode cX4_cheapest 113 = .ok (.goto 23, 3) := by decide +kernel
theorem dX4_cheapest_116 : decode cX4_cheapest 116 = .ok (.bipush 100, 2) := by decide +kernel
theorem dX4_cheapest_118 : decode cX4_cheapest 118 = .ok (.iload 5, 2) := by decide +kernel
theorem dX4_cheapest_120 : decode cX4_cheapest 120 = .ok (.imul, 1) := by decide +kernel
theorem dX4_cheapest_121 : decode cX4_cheapest 121 = .ok (.iload 6, 2) := by decide +kernel
theorem dX4_cheapest_123 : decode cX4_cheapest 123 = .ok (.iadd, 1) := by decide +kernel
theorem dX4_cheapest_124 : decode cX4_cheapest 124 = .ok (.istore_n 3, 1) := by decide +kernel
theorem dX4_cheapest_125 : decode cX4_cheapest 125 = .ok (.iconst 3, 1) := by decide +kernel
theorem dX4_cheapest_126 : decode cX4_cheapest 126 = .ok (.iload 5, 2) := by decide +kernel
theorem dX4_cheapest_128 : decode cX4_cheapest 128 = .ok (.imul, 1) := by decide +kernel
theorem dX4_cheapest_129 : decode cX4_cheapest 129 = .ok (.iconst 2, 1) := by decide +kernel
theorem dX4_cheapest_130 : decode cX4_cheapest 130 = .ok (.iload 6, 2) := by decide +kernel
theorem dX4_cheapest_132 : decode cX4_cheapest 132 = .ok (.imul, 1) := by decide +kernel
theorem dX4_cheapest_133 : decode cX4_cheapest 133 = .ok (.iadd, 1) := by decide +kernel
theorem dX4_cheapest_134 : decode cX4_cheapest 134 = .ok (.istore 4, 2) := by decide +kernel
theorem dX4_cheapest_136 : decode cX4_cheapest 136 = .ok (.iinc 6 1, 3) := by decide +kernel
theorem dX4_cheapest_139 : decode cX4_cheapest 139 = .ok (.goto (-85), 3) := by decide +kernel
theorem dX4_cheapest_142 : decode cX4_cheapest 142 = .ok (.iinc 5 1, 3) := by decide +kernel
theorem dX4_cheapest_145 : decode cX4_cheapest 145 = .ok (.goto (-101), 3) := by decide +kernel
theorem dX4_cheapest_148 : decode cX4_cheapest 148 = .ok (.aload_n 0, 1) := by decide +kernel
theorem dX4_cheapest_149 : decode cX4_cheapest 149 = .ok (.iload_n 3, 1) := by decide +kernel
theorem dX4_cheapest_150 : decode cX4_cheapest 150 = .ok (.invokevirtual 164, 3) := by decide +kernel
theorem dX4_cheapest_153 : decode cX4_cheapest 153 = .ok (.ireturn, 1) := by decide +kernel
theorem dX4_leader_0 : decode cX4_leader 0 = .ok (.iload_n 1, 1) := by decide +kernel
theorem dX4_leader_1 : decode cX4_leader 1 = .ok (.invokestatic 152, 3) := by decide +kernel
theorem dX4_leader_4 : decode cX4_leader 4 = .ok (.ifCond .ne 10, 3) := by decide +kernel
theorem dX4_leader_7 : decode cX4_leader 7 = .ok (.aload_n 0, 1) := by decide +kernel
theorem dX4_leader_8 : decode cX4_leader 8 = .ok (.ldc 34, 2) := by decide +kernel
theorem dX4_leader_10 : decode cX4_leader 10 = .ok (.invokevirtual 36, 3) := by decide +kernel
theorem dX4_leader_13 : decode cX4_leader 13 = .ok (.ireturn, 1) := by decide +kernel
theorem dX4_leader_14 : decode cX4_leader 14 = .ok (.aload_n 0, 1) := by decide +kernel
theorem dX4_leader_15 : decode cX4_leader 15 = .ok (.iload_n 1, 1) := by decide +kernel
theorem dX4_leader_16 : decode cX4_leader 16 = .ok (.invokevirtual 155, 3) := by decide +kernel
theorem dX4_leader_19 : decode cX4_leader 19 = .ok (.ifCond .eq 10, 3) := by decide +kernel
theorem dX4_leader_22 : decode cX4_leader 22 = .ok (.aload_n 0, 1) := by decide +kernel
theorem dX4_leader_23 : decode cX4_leader 23 = .ok (.ldc 109, 2) := by decide +kernel
theorem dX4_leader_25 : decode cX4_leader 25 = .ok (.invokevirtual 36, 3) := by decide +kernel
theorem dX4_leader_28 : decode cX4_leader 28 = .ok (.ireturn, 1) := by decide +kernel
theorem dX4_leader_29 : decode cX4_leader 29 = .ok (.iconst 0, 1) := by decide +kernel
theorem dX4_leader_30 : decode cX4_leader 30 = .ok (.istore_n 2, 1) := by decide +kernel
theorem dX4_leader_31 : decode cX4_leader 31 = .ok (.iconst (-1), 1) := by decide +kernel
theorem dX4_leader_32 : decode cX4_leader 32 = .ok (.istore_n 3, 1) := by decide +kernel
theorem dX4_leader_33 : decode cX4_leader 33 = .ok (.iconst 0, 1) := by decide +kernel
theorem dX4_leader_34 : decode cX4_leader 34 = .ok (.istore 4, 2) := by decide +kernel
theorem dX4_leader_36 : decode cX4_leader 36 = .ok (.iload 4, 2) := by decide +kernel
theorem dX4_leader_38 : decode cX4_leader 38 = .ok (.iconst 4, 1) := by decide +kernel
theorem dX4_leader_39 : decode cX4_leader 39 = .ok (.if_icmp .ge 50, 3) := by decide +kernel
theorem dX4_leader_42 : decode cX4_leader 42 = .ok (.aload_n 0, 1) := by decide +kernel
theorem dX4_leader_43 : decode cX4_leader 43 = .ok (.iload_n 1, 1) := by decide +kernel
theorem dX4_leader_44 : decode cX4_leader 44 = .ok (.iconst 3, 1) := by decide +kernel
theorem dX4_leader_45 : decode cX4_leader 45 = .ok (.iload 4, 2) := by decide +kernel
theorem dX4_leader_47 : decode cX4_leader 47 = .ok (.invokevirtual 174, 3) := by decide +kernel
theorem dX4_leader_50 : decode cX4_leader 50 = .ok (.pop, 1) := by decide +kernel
theorem dX4_leader_51 : decode cX4_leader 51 = .ok (.aload_n 0, 1) := by decide +kernel
theorem dX4_leader_52 : decode cX4_leader 52 = .ok (.getfield 171, 3) := by decide +kernel
theorem dX4_leader_55 : decode cX4_leader 55 = .ok (.iload_n 3, 1) := by decide +kernel
theorem dX4_leader_56 : decode cX4_leader 56 = .ok (.if_icmp .le 8, 3) := by decide +kernel
theorem dX4_leader_59 : decode cX4_leader 59 = .ok (.iload 4, 2) := by decide +kernel
theorem dX4_leader_61 : decode cX4_leader 61 = .ok (.goto 4, 3) := by decide +kernel
theorem dX4_leader_64 : decode cX4_leader 64 = .ok (.iload_n 2, 1) := by decide +kernel
theorem dX4_leader_65 : decode cX4_leader 65 = .ok (.istore_n 2, 1) := by decide +kernel
theorem dX4_leader_66 : decode cX4_leader 66 = .ok (.aload_n 0, 1) := by decide +kernel
theorem dX4_leader_67 : decode cX4_leader 67 = .ok (.getfield 171, 3) := by decide +kernel
theorem dX4_leader_70 : decode cX4_leader 70 = .ok (.iload_n 3, 1) := by decide +kernel
theorem dX4_leader_71 : decode cX4_leader 71 = .ok (.if_icmp .le 10, 3) := by decide +kernel
theorem dX4_leader_74 : decode cX4_leader 74 = .ok (.aload_n 0, 1) := by decide +kernel
theorem dX4_leader_75 : decode cX4_leader 75 = .ok (.getfield 171, 3) := by decide +kernel
theorem dX4_leader_78 : decode cX4_leader 78 = .ok (.goto 4, 3) := by decide +kernel
theorem dX4_leader_81 : decode cX4_leader 81 = .ok (.iload_n 3, 1) := by decide +kernel
theorem dX4_leader_82 : decode cX4_leader 82 = .ok (.istore_n 3, 1) := by decide +kernel
theorem dX4_leader_83 : decode cX4_leader 83 = .ok (.iinc 4 1, 3) := by decide +kernel
theorem dX4_leader_86 : decode cX4_leader 86 = .ok (.goto (-50), 3) := by decide +kernel
theorem dX4_leader_89 : decode cX4_leader 89 = .ok (.iload_n 2, 1) := by decide +kernel
theorem dX4_leader_90 : decode cX4_leader 90 = .ok (.ireturn, 1) := by decide +kernel
theorem dX4_ofThen_0 : decode cX4_ofThen 0 = .ok (.aload_n 0, 1) := by decide +kernel
theorem dX4_ofThen_1 : decode cX4_ofThen 1 = .ok (.getfield 9, 3) := by decide +kernel
theorem dX4_ofThen_4 : decode cX4_ofThen 4 = .ok (.aload_n 0, 1) := by decide +kernel
theorem dX4_ofThen_5 : decode cX4_ofThen 5 = .ok (.getfield 16, 3) := by decide +kernel
theorem dX4_ofThen_8 : decode cX4_ofThen 8 = .ok (.invokestatic 123, 3) := by decide +kernel
theorem dX4_ofThen_11 : decode cX4_ofThen 11 = .ok (.aload_n 0, 1) := by decide +kernel
theorem dX4_ofThen_12 : decode cX4_ofThen 12 = .ok (.iload_n 1, 1) := by decide +kernel
theorem dX4_ofThen_13 : decode cX4_ofThen 13 = .ok (.iload_n 3, 1) := by decide +kernel
theorem dX4_ofThen_14 : decode cX4_ofThen 14 = .ok (.iload 4, 2) := by decide +kernel
theorem dX4_ofThen_16 : decode cX4_ofThen 16 = .ok (.invokevirtual 50, 3) := by decide +kernel
theorem dX4_ofThen_19 : decode cX4_ofThen 19 = .ok (.aload_n 0, 1) := by decide +kernel
theorem dX4_ofThen_20 : decode cX4_ofThen 20 = .ok (.iload_n 2, 1) := by decide +kernel
theorem dX4_ofThen_21 : decode cX4_ofThen 21 = .ok (.invokevirtual 158, 3) := by decide +kernel
theorem dX4_ofThen_24 : decode cX4_ofThen 24 = .ok (.pop, 1) := by decide +kernel
theorem dX4_ofThen_25 : decode cX4_ofThen 25 = .ok (.aload_n 0, 1) := by decide +kernel
theorem dX4_ofThen_26 : decode cX4_ofThen 26 = .ok (.iload_n 1, 1) := by decide +kernel
theorem dX4_ofThen_27 : decode cX4_ofThen 27 = .ok (.iload 5, 2) := by decide +kernel
theorem dX4_ofThen_29 : decode cX4_ofThen 29 = .ok (.invokevirtual 63, 3) := by decide +kernel
theorem dX4_ofThen_32 : decode cX4_ofThen 32 = .ok (.istore 6, 2) := by decide +kernel
theorem dX4_ofThen_34 : decode cX4_ofThen 34 = .ok (.aload_n 0, 1) := by decide +kernel
theorem dX4_ofThen_35 : decode cX4_ofThen 35 = .ok (.getfield 16, 3) := by decide +kernel
theorem dX4_ofThen_38 : decode cX4_ofThen 38 = .ok (.aload_n 0, 1) := by decide +kernel
theorem dX4_ofThen_39 : decode cX4_ofThen 39 = .ok (.getfield 9, 3) := by decide +kernel
theorem dX4_ofThen_42 : decode cX4_ofThen 42 = .ok (.invokestatic 123, 3) := by decide +kernel
theorem dX4_ofThen_45 : decode cX4_ofThen 45 = .ok (.iload 6, 2) := by decide +kernel
theorem dX4_ofThen_47 : decode cX4_ofThen 47 = .ok (.ireturn, 1) := by decide +kernel
theorem dX4_colourFor_0 : decode cX4_colourFor 0 = .ok (.aload_n 0, 1) := by decide +kernel
theorem dX4_colourFor_1 : decode cX4_colourFor 1 = .ok (.iload_n 1, 1) := by decide +kernel
theorem dX4_colourFor_2 : decode cX4_colourFor 2 = .ok (.invokevirtual 67, 3) := by decide +kernel
theorem dX4_colourFor_5 : decode cX4_colourFor 5 = .ok (.ifCond .eq 10, 3) := by decide +kernel
theorem dX4_colourFor_8 : decode cX4_colourFor 8 = .ok (.iload_n 2, 1) := by decide +kernel
theorem dX4_colourFor_9 : decode cX4_colourFor 9 = .ok (.invokestatic 152, 3) := by decide +kernel
theorem dX4_colourFor_12 : decode cX4_colourFor 12 = .ok (.ifCond .ne 10, 3) := by decide +kernel
theorem dX4_colourFor_15 : decode cX4_colourFor 15 = .ok (.aload_n 0, 1) := by decide +kernel
theorem dX4_colourFor_16 : decode cX4_colourFor 16 = .ok (.ldc 34, 2) := by decide +kernel
theorem dX4_colourFor_18 : decode cX4_colourFor 18 = .ok (.invokevirtual 36, 3) := by decide +kernel
theorem dX4_colourFor_21 : decode cX4_colourFor 21 = .ok (.ireturn, 1) := by decide +kernel
theorem dX4_colourFor_22 : decode cX4_colourFor 22 = .ok (.aload_n 0, 1) := by decide +kernel
theorem dX4_colourFor_23 : decode cX4_colourFor 23 = .ok (.iload_n 2, 1) := by decide +kernel
theorem dX4_colourFor_24 : decode cX4_colourFor 24 = .ok (.invokevirtual 155, 3) := by decide +kernel
theorem dX4_colourFor_27 : decode cX4_colourFor 27 = .ok (.ifCond .eq 10, 3) := by decide +kernel
theorem dX4_colourFor_30 : decode cX4_colourFor 30 = .ok (.aload_n 0, 1) := by decide +kernel
theorem dX4_colourFor_31 : decode cX4_colourFor 31 = .ok (.ldc 109, 2) := by decide +kernel
theorem dX4_colourFor_33 : decode cX4_colourFor 33 = .ok (.invokevirtual 36, 3) := by decide +kernel
theorem dX4_colourFor_36 : decode cX4_colourFor 36 = .ok (.ireturn, 1) := by decide +kernel
theorem dX4_colourFor_37 : decode cX4_colourFor 37 = .ok (.iconst 0, 1) := by decide +kernel
theorem dX4_colourFor_38 : decode cX4_colourFor 38 = .ok (.istore_n 3, 1) := by decide +kernel
theorem dX4_colourFor_39 : decode cX4_colourFor 39 = .ok (.iconst 1, 1) := by decide +kernel
theorem dX4_colourFor_40 : decode cX4_colourFor 40 = .ok (.istore 4, 2) := by decide +kernel
theorem dX4_colourFor_42 : decode cX4_colourFor 42 = .ok (.iload 4, 2) := by decide +kernel
theorem dX4_colourFor_44 : decode cX4_colourFor 44 = .ok (.iconst 4, 1) := by decide +kernel
theorem dX4_colourFor_45 : decode cX4_colourFor 45 = .ok (.if_icmp .ge 34, 3) := by decide +kernel
theorem dX4_colourFor_48 : decode cX4_colourFor 48 = .ok (.aload_n 0, 1) := by decide +kernel
theorem dX4_colourFor_49 : decode cX4_colourFor 49 = .ok (.iload_n 1, 1) := by decide +kernel
theorem dX4_colourFor_50 : decode cX4_colourFor 50 = .ok (.iload_n 2, 1) := by decide +kernel
theorem dX4_colourFor_51 : decode cX4_colourFor 51 = .ok (.iconst 2, 1) := by decide +kernel
theorem dX4_colourFor_52 : decode cX4_colourFor 52 = .ok (.iload 4, 2) := by decide +kernel
theorem dX4_colourFor_54 : decode cX4_colourFor 54 = .ok (.iconst 4, 1) := by decide +kernel
theorem dX4_colourFor_55 : decode cX4_colourFor 55 = .ok (.invokevirtual 178, 3) := by decide +kernel
theorem dX4_colourFor_58 : decode cX4_colourFor 58 = .ok (.aload_n 0, 1) := by decide +kernel
theorem dX4_colourFor_59 : decode cX4_colourFor 59 = .ok (.iload_n 1, 1) := by decide +kernel
theorem dX4_colourFor_60 : decode cX4_colourFor 60 = .ok (.iload_n 2, 1) := by decide +kernel
theorem dX4_colourFor_61 : decode cX4_colourFor 61 = .ok (.iconst 2, 1) := by decide +kernel
theorem dX4_colourFor_62 : decode cX4_colourFor 62 = .ok (.iload_n 3, 1) := by decide +kernel
theorem dX4_colourFor_63 : decode cX4_colourFor 63 = .ok (.iconst 4, 1) := by decide +kernel
theorem dX4_colourFor_64 : decode cX4_colourFor 64 = .ok (.invokevirtual 178, 3) := by decide +kernel
theorem dX4_colourFor_67 : decode cX4_colourFor 67 = .ok (.if_icmp .le 6, 3) := by decide +kernel
theorem dX4_colourFor_70 : decode cX4_colourFor 70 = .ok (.iload 4, 2) := by decide +kernel
theorem dX4_colourFor_72 : decode cX4_colourFor 72 = .ok (.istore_n 3, 1) := by decide +kernel
theorem dX4_colourFor_73 : decode cX4_colourFor 73 = .ok (.iinc 4 1, 3) := by decide +kernel
theorem dX4_colourFor_76 : decode cX4_colourFor 76 = .ok (.goto (-34), 3) := by decide +kernel
theorem dX4_colourFor_79 : decode cX4_colourFor 79 = .ok (.iload_n 3, 1) := by decide +kernel
theorem dX4_colourFor_80 : decode cX4_colourFor 80 = .ok (.ireturn, 1) := by decide +kernel
theorem dX4_kindFor_0 : decode cX4_kindFor 0 = .ok (.aload_n 0, 1) := by decide +kernel
theorem dX4_kindFor_1 : decode cX4_kindFor 1 = .ok (.iload_n 1, 1) := by decide +kernel
theorem dX4_kindFor_2 : decode cX4_kindFor 2 = .ok (.invokevirtual 67, 3) := by decide +kernel
theorem dX4_kindFor_5 : decode cX4_kindFor 5 = .ok (.ifCond .eq 10, 3) := by decide +kernel
theorem dX4_kindFor_8 : decode cX4_kindFor 8 = .ok (.iload_n 2, 1) := by decide +kernel
theorem dX4_kindFor_9 : decode cX4_kindFor 9 = .ok (.invokestatic 152, 3) := by decide +kernel
theorem dX4_kindFor_12 : decode cX4_kindFor 12 = .ok (.ifCond .ne 10, 3) := by decide +kernel
theorem dX4_kindFor_15 : decode cX4_kindFor 15 = .ok (.aload_n 0, 1) := by decide +kernel
theorem dX4_kindFor_16 : decode cX4_kindFor 16 = .ok (.ldc 34, 2) := by decide +kernel
theorem dX4_kindFor_18 : decode cX4_kindFor 18 = .ok (.invokevirtual 36, 3) := by decide +kernel
theorem dX4_kindFor_21 : decode cX4_kindFor 21 = .ok (.ireturn, 1) := by decide +kernel
theorem dX4_kindFor_22 : decode cX4_kindFor 22 = .ok (.aload_n 0, 1) := by decide +kernel
theorem dX4_kindFor_23 : decode cX4_kindFor 23 = .ok (.iload_n 2, 1) := by decide +kernel
theorem dX4_kindFor_24 : decode cX4_kindFor 24 = .ok (.invokevirtual 155, 3) := by decide +kernel
theorem dX4_kindFor_27 : decode cX4_kindFor 27 = .ok (.ifCond .eq 10, 3) := by decide +kernel
theorem dX4_kindFor_30 : decode cX4_kindFor 30 = .ok (.aload_n 0, 1) := by decide +kernel
theorem dX4_kindFor_31 : decode cX4_kindFor 31 = .ok (.ldc 109, 2) := by decide +kernel
theorem dX4_kindFor_33 : decode cX4_kindFor 33 = .ok (.invokevirtual 36, 3) := by decide +kernel
theorem dX4_kindFor_36 : decode cX4_kindFor 36 = .ok (.ireturn, 1) := by decide +kernel
theorem dX4_kindFor_37 : decode cX4_kindFor 37 = .ok (.iconst 0, 1) := by decide +kernel
theorem dX4_kindFor_38 : decode cX4_kindFor 38 = .ok (.istore_n 3, 1) := by decide +kernel
theorem dX4_kindFor_39 : decode cX4_kindFor 39 = .ok (.iconst 1, 1) := by decide +kernel
theorem dX4_kindFor_40 : decode cX4_kindFor 40 = .ok (.istore 4, 2) := by decide +kernel
theorem dX4_kindFor_42 : decode cX4_kindFor 42 = .ok (.iload 4, 2) := by decide +kernel
theorem dX4_kindFor_44 : decode cX4_kindFor 44 = .ok (.bipush 6, 2) := by decide +kernel
theorem dX4_kindFor_46 : decode cX4_kindFor 46 = .ok (.if_icmp .gt 34, 3) := by decide +kernel
theorem dX4_kindFor_49 : decode cX4_kindFor 49 = .ok (.aload_n 0, 1) := by decide +kernel
theorem dX4_kindFor_50 : decode cX4_kindFor 50 = .ok (.iload_n 1, 1) := by decide +kernel
theorem dX4_kindFor_51 : decode cX4_kindFor 51 = .ok (.iload_n 2, 1) := by decide +kernel
theorem dX4_kindFor_52 : decode cX4_kindFor 52 = .ok (.iconst 0, 1) := by decide +kernel
theorem dX4_kindFor_53 : decode cX4_kindFor 53 = .ok (.iload 4, 2) := by decide +kernel
theorem dX4_kindFor_55 : decode cX4_kindFor 55 = .ok (.iconst 1, 1) := by decide +kernel
theorem dX4_kindFor_56 : decode cX4_kindFor 56 = .ok (.invokevirtual 178, 3) := by decide +kernel
theorem dX4_kindFor_59 : decode cX4_kindFor 59 = .ok (.aload_n 0, 1) := by decide +kernel
theorem dX4_kindFor_60 : decode cX4_kindFor 60 = .ok (.iload_n 1, 1) := by decide +kernel
theorem dX4_kindFor_61 : decode cX4_kindFor 61 = .ok (.iload_n 2, 1) := by decide +kernel
theorem dX4_kindFor_62 : decode cX4_kindFor 62 = .ok (.iconst 0, 1) := by decide +kernel
theorem dX4_kindFor_63 : decode cX4_kindFor 63 = .ok (.iload_n 3, 1) := by decide +kernel
theorem dX4_kindFor_64 : decode cX4_kindFor 64 = .ok (.iconst 1, 1) := by decide +kernel
theorem dX4_kindFor_65 : decode cX4_kindFor 65 = .ok (.invokevirtual 178, 3) := by decide +kernel
theorem dX4_kindFor_68 : decode cX4_kindFor 68 = .ok (.if_icmp .ge 6, 3) := by decide +kernel
theorem dX4_kindFor_71 : decode cX4_kindFor 71 = .ok (.iload 4, 2) := by decide +kernel
theorem dX4_kindFor_73 : decode cX4_kindFor 73 = .ok (.istore_n 3, 1) := by decide +kernel
theorem dX4_kindFor_74 : decode cX4_kindFor 74 = .ok (.iinc 4 1, 3) := by decide +kernel
theorem dX4_kindFor_77 : decode cX4_kindFor 77 = .ok (.goto (-35), 3) := by decide +kernel
theorem dX4_kindFor_80 : decode cX4_kindFor 80 = .ok (.iload_n 3, 1) := by decide +kernel
theorem dX4_kindFor_81 : decode cX4_kindFor 81 = .ok (.ireturn, 1) := by decide +kernel
theorem dX4_stale_0 : decode cX4_stale 0 = .ok (.iload_n 1, 1) := by decide +kernel
theorem dX4_stale_1 : decode cX4_stale 1 = .ok (.invokestatic 152, 3) := by decide +kernel
theorem dX4_stale_4 : decode cX4_stale 4 = .ok (.ifCond .ne 10, 3) := by decide +kernel
theorem dX4_stale_7 : decode cX4_stale 7 = .ok (.aload_n 0, 1) := by decide +kernel
theorem dX4_stale_8 : decode cX4_stale 8 = .ok (.ldc 34, 2) := by decide +kernel
theorem dX4_stale_10 : decode cX4_stale 10 = .ok (.invokevirtual 36, 3) := by decide +kernel
theorem dX4_stale_13 : decode cX4_stale 13 = .ok (.ireturn, 1) := by decide +kernel
theorem dX4_stale_14 : decode cX4_stale 14 = .ok (.aload_n 0, 1) := by decide +kernel
theorem dX4_stale_15 : decode cX4_stale 15 = .ok (.iload_n 1, 1) := by decide +kernel
theorem dX4_stale_16 : decode cX4_stale 16 = .ok (.invokevirtual 155, 3) := by decide +kernel
theorem dX4_stale_19 : decode cX4_stale 19 = .ok (.ifCond .eq 10, 3) := by decide +kernel
theorem dX4_stale_22 : decode cX4_stale 22 = .ok (.aload_n 0, 1) := by decide +kernel
theorem dX4_stale_23 : decode cX4_stale 23 = .ok (.ldc 109, 2) := by decide +kernel
theorem dX4_stale_25 : decode cX4_stale 25 = .ok (.invokevirtual 36, 3) := by decide +kernel
theorem dX4_stale_28 : decode cX4_stale 28 = .ok (.ireturn, 1) := by decide +kernel
theorem dX4_stale_29 : decode cX4_stale 29 = .ok (.aload_n 0, 1) := by decide +kernel
theorem dX4_stale_30 : decode cX4_stale 30 = .ok (.iload_n 1, 1) := by decide +kernel
theorem dX4_stale_31 : decode cX4_stale 31 = .ok (.iconst 4, 1) := by decide +kernel
theorem dX4_stale_32 : decode cX4_stale 32 = .ok (.aload_n 0, 1) := by decide +kernel
theorem dX4_stale_33 : decode cX4_stale 33 = .ok (.getfield 9, 3) := by decide +kernel
theorem dX4_stale_36 : decode cX4_stale 36 = .ok (.iconst 4, 1) := by decide +kernel
theorem dX4_stale_37 : decode cX4_stale 37 = .ok (.iaload, 1) := by decide +kernel
theorem dX4_stale_38 : decode cX4_stale 38 = .ok (.invokevirtual 174, 3) := by decide +kernel
theorem dX4_stale_41 : decode cX4_stale 41 = .ok (.pop, 1) := by decide +kernel
theorem dX4_stale_42 : decode cX4_stale 42 = .ok (.aload_n 0, 1) := by decide +kernel
theorem dX4_stale_43 : decode cX4_stale 43 = .ok (.getfield 167, 3) := by decide +kernel
theorem dX4_stale_46 : decode cX4_stale 46 = .ok (.istore_n 2, 1) := by decide +kernel
theorem dX4_stale_47 : decode cX4_stale 47 = .ok (.aload_n 0, 1) := by decide +kernel
theorem dX4_stale_48 : decode cX4_stale 48 = .ok (.iload_n 1, 1) := by decide +kernel
theorem dX4_stale_49 : decode cX4_stale 49 = .ok (.iconst 4, 1) := by decide +kernel
theorem dX4_stale_50 : decode cX4_stale 50 = .ok (.iconst 1, 1) := by decide +kernel
theorem dX4_stale_51 : decode cX4_stale 51 = .ok (.aload_n 0, 1) := by decide +kernel
theorem dX4_stale_52 : decode cX4_stale 52 = .ok (.getfield 9, 3) := by decide +kernel
theorem dX4_stale_55 : decode cX4_stale 55 = .ok (.iconst 4, 1) := by decide +kernel
theorem dX4_stale_56 : decode cX4_stale 56 = .ok (.iaload, 1) := by decide +kernel
theorem dX4_stale_57 : decode cX4_stale 57 = .ok (.isub, 1) := by decide +kernel
theorem dX4_stale_58 : decode cX4_stale 58 = .ok (.invokevirtual 174, 3) := by decide +kernel
theorem dX4_stale_61 : decode cX4_stale 61 = .ok (.pop, 1) := by decide +kernel
theorem dX4_stale_62 : decode cX4_stale 62 = .ok (.aload_n 0, 1) := by decide +kernel
theorem dX4_stale_63 : decode cX4_stale 63 = .ok (.getfield 167, 3) := by decide +kernel
theorem dX4_stale_66 : decode cX4_stale 66 = .ok (.iload_n 2, 1) := by decide +kernel
theorem dX4_stale_67 : decode cX4_stale 67 = .ok (.isub, 1) := by decide +kernel
theorem dX4_stale_68 : decode cX4_stale 68 = .ok (.ireturn, 1) := by decide +kernel
theorem dX4_bound_0 : decode cX4_bound 0 = .ok (.iload_n 1, 1) := by decide +kernel
theorem dX4_bound_1 : decode cX4_bound 1 = .ok (.invokestatic 152, 3) := by decide +kernel
theorem dX4_bound_4 : decode cX4_bound 4 = .ok (.ifCond .ne 10, 3) := by decide +kernel
theorem dX4_bound_7 : decode cX4_bound 7 = .ok (.aload_n 0, 1) := by decide +kernel
theorem dX4_bound_8 : decode cX4_bound 8 = .ok (.ldc 34, 2) := by decide +kernel
theorem dX4_bound_10 : decode cX4_bound 10 = .ok (.invokevirtual 36, 3) := by decide +kernel
theorem dX4_bound_13 : decode cX4_bound 13 = .ok (.ireturn, 1) := by decide +kernel
theorem dX4_bound_14 : decode cX4_bound 14 = .ok (.aload_n 0, 1) := by decide +kernel
theorem dX4_bound_15 : decode cX4_bound 15 = .ok (.iload_n 1, 1) := by decide +kernel
theorem dX4_bound_16 : decode cX4_bound 16 = .ok (.invokevirtual 155, 3) := by decide +kernel
theorem dX4_bound_19 : decode cX4_bound 19 = .ok (.ifCond .eq 10, 3) := by decide +kernel
theorem dX4_bound_22 : decode cX4_bound 22 = .ok (.aload_n 0, 1) := by decide +kernel
theorem dX4_bound_23 : decode cX4_bound 23 = .ok (.ldc 109, 2) := by decide +kernel
theorem dX4_bound_25 : decode cX4_bound 25 = .ok (.invokevirtual 36, 3) := by decide +kernel
theorem dX4_bound_28 : decode cX4_bound 28 = .ok (.ireturn, 1) := by decide +kernel
theorem dX4_bound_29 : decode cX4_bound 29 = .ok (.iconst 1, 1) := by decide +kernel
theorem dX4_bound_30 : decode cX4_bound 30 = .ok (.istore_n 2, 1) := by decide +kernel
theorem dX4_bound_31 : decode cX4_bound 31 = .ok (.iload_n 2, 1) := by decide +kernel
theorem dX4_bound_32 : decode cX4_bound 32 = .ok (.bipush 10, 2) := by decide +kernel
theorem dX4_bound_34 : decode cX4_bound 34 = .ok (.if_icmp .gt 26, 3) := by decide +kernel
theorem dX4_bound_37 : decode cX4_bound 37 = .ok (.aload_n 0, 1) := by decide +kernel
theorem dX4_bound_38 : decode cX4_bound 38 = .ok (.iload_n 1, 1) := by decide +kernel
theorem dX4_bound_39 : decode cX4_bound 39 = .ok (.iconst 2, 1) := by decide +kernel
theorem dX4_bound_40 : decode cX4_bound 40 = .ok (.iload_n 2, 1) := by decide +kernel
theorem dX4_bound_41 : decode cX4_bound 41 = .ok (.invokevirtual 174, 3) := by decide +kernel
theorem dX4_bound_44 : decode cX4_bound 44 = .ok (.pop, 1) := by decide +kernel
theorem dX4_bound_45 : decode cX4_bound 45 = .ok (.aload_n 0, 1) := by decide +kernel
theorem dX4_bound_46 : decode cX4_bound 46 = .ok (.getfield 167, 3) := by decide +kernel
theorem dX4_bound_49 : decode cX4_bound 49 = .ok (.ifCond .ne 5, 3) := by decide +kernel
theorem dX4_bound_52 : decode cX4_bound 52 = .ok (.iload_n 2, 1) := by decide +kernel
theorem dX4_bound_53 : decode cX4_bound 53 = .ok (.ireturn, 1) := by decide +kernel
theorem dX4_bound_54 : decode cX4_bound 54 = .ok (.iinc 2 1, 3) := by decide +kernel
theorem dX4_bound_57 : decode cX4_bound 57 = .ok (.goto (-26), 3) := by decide +kernel
theorem dX4_bound_60 : decode cX4_bound 60 = .ok (.aload_n 0, 1) := by decide +kernel
theorem dX4_bound_61 : decode cX4_bound 61 = .ok (.ldc 35, 2) := by decide +kernel
theorem dX4_bound_63 : decode cX4_bound 63 = .ok (.invokevirtual 36, 3) := by decide +kernel
theorem dX4_bound_66 : decode cX4_bound 66 = .ok (.ireturn, 1) := by decide +kernel
theorem dX4_law_0 : decode cX4_law 0 = .ok (.iload_n 1, 1) := by decide +kernel
theorem dX4_law_1 : decode cX4_law 1 = .ok (.invokestatic 54, 3) := by decide +kernel
theorem dX4_law_4 : decode cX4_law 4 = .ok (.ifCond .eq 10, 3) := by decide +kernel
theorem dX4_law_7 : decode cX4_law 7 = .ok (.iload_n 2, 1) := by decide +kernel
theorem dX4_law_8 : decode cX4_law 8 = .ok (.invokestatic 152, 3) := by decide +kernel
theorem dX4_law_11 : decode cX4_law 11 = .ok (.ifCond .ne 10, 3) := by decide +kernel
theorem dX4_law_14 : decode cX4_law 14 = .ok (.aload_n 0, 1) := by decide +kernel
theorem dX4_law_15 : decode cX4_law 15 = .ok (.ldc 34, 2) := by decide +kernel
theorem dX4_law_17 : decode cX4_law 17 = .ok (.invokevirtual 36, 3) := by decide +kernel
theorem dX4_law_20 : decode cX4_law 20 = .ok (.ireturn, 1) := by decide +kernel
theorem dX4_law_21 : decode cX4_law 21 = .ok (.aload_n 0, 1) := by decide +kernel
theorem dX4_law_22 : decode cX4_law 22 = .ok (.iload_n 2, 1) := by decide +kernel
theorem dX4_law_23 : decode cX4_law 23 = .ok (.invokevirtual 155, 3) := by decide +kernel
theorem dX4_law_26 : decode cX4_law 26 = .ok (.ifCond .eq 10, 3) := by decide +kernel
theorem dX4_law_29 : decode cX4_law 29 = .ok (.aload_n 0, 1) := by decide +kernel
theorem dX4_law_30 : decode cX4_law 30 = .ok (.ldc 109, 2) := by decide +kernel
theorem dX4_law_32 : decode cX4_law 32 = .ok (.invokevirtual 36, 3) := by decide +kernel
theorem dX4_law_35 : decode cX4_law 35 = .ok (.ireturn, 1) := by decide +kernel
theorem dX4_law_36 : decode cX4_law 36 = .ok (.aload_n 0, 1) := by decide +kernel
theorem dX4_law_37 : decode cX4_law 37 = .ok (.iload_n 2, 1) := by decide +kernel
theorem dX4_law_38 : decode cX4_law 38 = .ok (.iconst 4, 1) := by decide +kernel
theorem dX4_law_39 : decode cX4_law 39 = .ok (.aload_n 0, 1) := by decide +kernel
theorem dX4_law_40 : decode cX4_law 40 = .ok (.getfield 9, 3) := by decide +kernel
theorem dX4_law_43 : decode cX4_law 43 = .ok (.iconst 4, 1) := by decide +kernel
theorem dX4_law_44 : decode cX4_law 44 = .ok (.iaload, 1) := by decide +kernel
theorem dX4_law_45 : decode cX4_law 45 = .ok (.invokevirtual 174, 3) := by decide +kernel
theorem dX4_law_48 : decode cX4_law 48 = .ok (.istore_n 3, 1) := by decide +kernel
theorem dX4_law_49 : decode cX4_law 49 = .ok (.aload_n 0, 1) := by decide +kernel
theorem dX4_law_50 : decode cX4_law 50 = .ok (.getfield 9, 3) := by decide +kernel
theorem dX4_law_53 : decode cX4_law 53 = .ok (.aload_n 0, 1) := by decide +kernel
theorem dX4_law_54 : decode cX4_law 54 = .ok (.getfield 16, 3) := by decide +kernel
theorem dX4_law_57 : decode cX4_law 57 = .ok (.invokestatic 123, 3) := by decide +kernel
theorem dX4_law_60 : decode cX4_law 60 = .ok (.iconst 0, 1) := by decide +kernel
theorem dX4_law_61 : decode cX4_law 61 = .ok (.istore 4, 2) := by decide +kernel
theorem dX4_law_63 : decode cX4_law 63 = .ok (.iload 4, 2) := by decide +kernel
theorem dX4_law_65 : decode cX4_law 65 = .ok (.aload_n 0, 1) := by decide +kernel
theorem dX4_law_66 : decode cX4_law 66 = .ok (.getfield 9, 3) := by decide +kernel
theorem dX4_law_69 : decode cX4_law 69 = .ok (.bipush 8, 2) := by decide +kernel
theorem dX4_law_71 : decode cX4_law 71 = .ok (.iaload, 1) := by decide +kernel
theorem dX4_law_72 : decode cX4_law 72 = .ok (.if_icmp .ge 17, 3) := by decide +kernel
theorem dX4_law_75 : decode cX4_law 75 = .ok (.aload_n 0, 1) := by decide +kernel
theorem dX4_law_76 : decode cX4_law 76 = .ok (.iload 4, 2) := by decide +kernel
theorem dX4_law_78 : decode cX4_law 78 = .ok (.iconst 0, 1) := by decide +kernel
theorem dX4_law_79 : decode cX4_law 79 = .ok (.iload_n 1, 1) := by decide +kernel
theorem dX4_law_80 : decode cX4_law 80 = .ok (.invokevirtual 50, 3) := by decide +kernel
theorem dX4_law_83 : decode cX4_law 83 = .ok (.iinc 4 1, 3) := by decide +kernel
theorem dX4_law_86 : decode cX4_law 86 = .ok (.goto (-23), 3) := by decide +kernel
theorem dX4_law_89 : decode cX4_law 89 = .ok (.aload_n 0, 1) := by decide +kernel
theorem dX4_law_90 : decode cX4_law 90 = .ok (.iload_n 2, 1) := by decide +kernel
theorem dX4_law_91 : decode cX4_law 91 = .ok (.invokevirtual 158, 3) := by decide +kernel
theorem dX4_law_94 : decode cX4_law 94 = .ok (.istore 4, 2) := by decide +kernel
theorem dX4_law_96 : decode cX4_law 96 = .ok (.aload_n 0, 1) := by decide +kernel
theorem dX4_law_97 : decode cX4_law 97 = .ok (.getfield 16, 3) := by decide +kernel
theorem dX4_law_100 : decode cX4_law 100 = .ok (.aload_n 0, 1) := by decide +kernel
theorem dX4_law_101 : decode cX4_law 101 = .ok (.getfield 9, 3) := by decide +kernel
theorem dX4_law_104 : decode cX4_law 104 = .ok (.invokestatic 123, 3) := by decide +kernel
theorem dX4_law_107 : decode cX4_law 107 = .ok (.iload_n 3, 1) := by decide +kernel
theorem dX4_law_108 : decode cX4_law 108 = .ok (.iload 4, 2) := by decide +kernel
theorem dX4_law_110 : decode cX4_law 110 = .ok (.isub, 1) := by decide +kernel
theorem dX4_law_111 : decode cX4_law 111 = .ok (.ireturn, 1) := by decide +kernel
theorem dX4_drawing_0 : decode cX4_drawing 0 = .ok (.aload_n 0, 1) := by decide +kernel
theorem dX4_drawing_1 : decode cX4_drawing 1 = .ok (.getfield 9, 3) := by decide +kernel
theorem dX4_drawing_4 : decode cX4_drawing 4 = .ok (.iconst 0, 1) := by decide +kernel
theorem dX4_drawing_5 : decode cX4_drawing 5 = .ok (.iaload, 1) := by decide +kernel
theorem dX4_drawing_6 : decode cX4_drawing 6 = .ok (.aload_n 0, 1) := by decide +kernel
theorem dX4_drawing_7 : decode cX4_drawing 7 = .ok (.getfield 9, 3) := by decide +kernel
theorem dX4_drawing_10 : decode cX4_drawing 10 = .ok (.iconst 1, 1) := by decide +kernel
theorem dX4_drawing_11 : decode cX4_drawing 11 = .ok (.iaload, 1) := by decide +kernel
theorem dX4_drawing_12 : decode cX4_drawing 12 = .ok (.iadd, 1) := by decide +kernel
theorem dX4_drawing_13 : decode cX4_drawing 13 = .ok (.istore_n 1, 1) := by decide +kernel
theorem dX4_drawing_14 : decode cX4_drawing 14 = .ok (.iload_n 1, 1) := by decide +kernel
theorem dX4_drawing_15 : decode cX4_drawing 15 = .ok (.aload_n 0, 1) := by decide +kernel
theorem dX4_drawing_16 : decode cX4_drawing 16 = .ok (.getfield 9, 3) := by decide +kernel
theorem dX4_drawing_19 : decode cX4_drawing 19 = .ok (.bipush 8, 2) := by decide +kernel
theorem dX4_drawing_21 : decode cX4_drawing 21 = .ok (.iaload, 1) := by decide +kernel
theorem dX4_drawing_22 : decode cX4_drawing 22 = .ok (.if_icmp .ge 7, 3) := by decide +kernel
theorem dX4_drawing_25 : decode cX4_drawing 25 = .ok (.iload_n 1, 1) := by decide +kernel
theorem dX4_drawing_26 : decode cX4_drawing 26 = .ok (.goto 10, 3) := by decide +kernel
theorem dX4_drawing_29 : decode cX4_drawing 29 = .ok (.aload_n 0, 1) := by decide +kernel
theorem dX4_drawing_30 : decode cX4_drawing 30 = .ok (.getfield 9, 3) := by decide +kernel
theorem dX4_drawing_33 : decode cX4_drawing 33 = .ok (.bipush 8, 2) := by decide +kernel
theorem dX4_drawing_35 : decode cX4_drawing 35 = .ok (.iaload, 1) := by decide +kernel
theorem dX4_drawing_36 : decode cX4_drawing 36 = .ok (.ireturn, 1) := by decide +kernel
theorem dX4_isWay_0 : decode cX4_isWay 0 = .ok (.iload_n 1, 1) := by decide +kernel
theorem dX4_isWay_1 : decode cX4_isWay 1 = .ok (.invokestatic 136, 3) := by decide +kernel
theorem dX4_isWay_4 : decode cX4_isWay 4 = .ok (.istore_n 2, 1) := by decide +kernel
theorem dX4_isWay_5 : decode cX4_isWay 5 = .ok (.iload_n 2, 1) := by decide +kernel
theorem dX4_isWay_6 : decode cX4_isWay 6 = .ok (.aload_n 0, 1) := by decide +kernel
theorem dX4_isWay_7 : decode cX4_isWay 7 = .ok (.getfield 9, 3) := by decide +kernel
theorem dX4_isWay_10 : decode cX4_isWay 10 = .ok (.iconst 0, 1) := by decide +kernel
theorem dX4_isWay_11 : decode cX4_isWay 11 = .ok (.iaload, 1) := by decide +kernel
theorem dX4_isWay_12 : decode cX4_isWay 12 = .ok (.if_icmp .gt 22, 3) := by decide +kernel
theorem dX4_isWay_15 : decode cX4_isWay 15 = .ok (.aload_n 0, 1) := by decide +kernel
theorem dX4_isWay_16 : decode cX4_isWay 16 = .ok (.invokevirtual 181, 3) := by decide +kernel
theorem dX4_isWay_19 : decode cX4_isWay 19 = .ok (.iload_n 2, 1) := by decide +kernel
theorem dX4_isWay_20 : decode cX4_isWay 20 = .ok (.isub, 1) := by decide +kernel
theorem dX4_isWay_21 : decode cX4_isWay 21 = .ok (.aload_n 0, 1) := by decide +kernel
theorem dX4_isWay_22 : decode cX4_isWay 22 = .ok (.getfield 9, 3) := by decide +kernel
theorem dX4_isWay_25 : decode cX4_isWay 25 = .ok (.iconst 1, 1) := by decide +kernel
theorem dX4_isWay_26 : decode cX4_isWay 26 = .ok (.iaload, 1) := by decide +kernel
theorem dX4_isWay_27 : decode cX4_isWay 27 = .ok (.if_icmp .gt 7, 3) := by decide +kernel
theorem dX4_isWay_30 : decode cX4_isWay 30 = .ok (.iconst 1, 1) := by decide +kernel
theorem dX4_isWay_31 : decode cX4_isWay 31 = .ok (.goto 4, 3) := by decide +kernel
theorem dX4_isWay_34 : decode cX4_isWay 34 = .ok (.iconst 0, 1) := by decide +kernel
theorem dX4_isWay_35 : decode cX4_isWay 35 = .ok (.ireturn, 1) := by decide +kernel
theorem dX4_lies_0 : decode cX4_lies 0 = .ok (.iconst 0, 1) := by decide +kernel
theorem dX4_lies_1 : decode cX4_lies 1 = .ok (.istore_n 2, 1) := by decide +kernel
theorem dX4_lies_2 : decode cX4_lies 2 = .ok (.iload_n 2, 1) := by decide +kernel
theorem dX4_lies_3 : decode cX4_lies 3 = .ok (.aload_n 0, 1) := by decide +kernel
theorem dX4_lies_4 : decode cX4_lies 4 = .ok (.getfield 9, 3) := by decide +kernel
theorem dX4_lies_7 : decode cX4_lies 7 = .ok (.bipush 8, 2) := by decide +kernel
theorem dX4_lies_9 : decode cX4_lies 9 = .ok (.iaload, 1) := by decide +kernel
theorem dX4_lies_10 : decode cX4_lies 10 = .ok (.if_icmp .ge 41, 3) := by decide +kernel
theorem dX4_lies_13 : decode cX4_lies 13 = .ok (.aload_n 0, 1) := by decide +kernel
theorem dX4_lies_14 : decode cX4_lies 14 = .ok (.iload_n 2, 1) := by decide +kernel
theorem dX4_lies_15 : decode cX4_lies 15 = .ok (.iconst 5, 1) := by decide +kernel
theorem dX4_lies_16 : decode cX4_lies 16 = .ok (.iload_n 2, 1) := by decide +kernel
theorem dX4_lies_17 : decode cX4_lies 17 = .ok (.aload_n 0, 1) := by decide +kernel
theorem dX4_lies_18 : decode cX4_lies 18 = .ok (.invokevirtual 181, 3) := by decide +kernel
theorem dX4_lies_21 : decode cX4_lies 21 = .ok (.if_icmp .lt 7, 3) := by decide +kernel
theorem dX4_lies_24 : decode cX4_lies 24 = .ok (.iconst 0, 1) := by decide +kernel
theorem dX4_lies_25 : decode cX4_lies 25 = .ok (.goto 17, 3) := by decide +kernel
theorem dX4_lies_28 : decode cX4_lies 28 = .ok (.iload_n 1, 1) := by decide +kernel
theorem dX4_lies_29 : decode cX4_lies 29 = .ok (.iload_n 2, 1) := by decide +kernel
theorem dX4_lies_30 : decode cX4_lies 30 = .ok (.ishr, 1) := by decide +kernel
theorem dX4_lies_31 : decode cX4_lies 31 = .ok (.iconst 1, 1) := by decide +kernel
theorem dX4_lies_32 : decode cX4_lies 32 = .ok (.iand, 1) := by decide +kernel
theorem dX4_lies_33 : decode cX4_lies 33 = .ok (.iconst 1, 1) := by decide +kernel
theorem dX4_lies_34 : decode cX4_lies 34 = .ok (.if_icmp .ne 7, 3) := by decide +kernel
theorem dX4_lies_37 : decode cX4_lies 37 = .ok (.iconst 1, 1) := by decide +kernel
theorem dX4_lies_38 : decode cX4_lies 38 = .ok (.goto 4, 3) := by decide +kernel
theorem dX4_lies_41 : decode cX4_lies 41 = .ok (.iconst 2, 1) := by decide +kernel
theorem dX4_lies_42 : decode cX4_lies 42 = .ok (.invokevirtual 50, 3) := by decide +kernel
theorem dX4_lies_45 : decode cX4_lies 45 = .ok (.iinc 2 1, 3) := by decide +kernel
theorem dX4_lies_48 : decode cX4_lies 48 = .ok (.goto (-46), 3) := by decide +kernel
theorem dX4_lies_51 : decode cX4_lies 51 = .ok (.return_, 1) := by decide +kernel
theorem dX4_ways_0 : decode cX4_ways 0 = .ok (.lconst 0, 1) := by decide +kernel
theorem dX4_ways_1 : decode cX4_ways 1 = .ok (.lstore_n 1, 1) := by decide +kernel
theorem dX4_ways_2 : decode cX4_ways 2 = .ok (.iconst 0, 1) := by decide +kernel
theorem dX4_ways_3 : decode cX4_ways 3 = .ok (.istore_n 3, 1) := by decide +kernel
theorem dX4_ways_4 : decode cX4_ways 4 = .ok (.iload_n 3, 1) := by decide +kernel
theorem dX4_ways_5 : decode cX4_ways 5 = .ok (.iconst 1, 1) := by decide +kernel
theorem dX4_ways_6 : decode cX4_ways 6 = .ok (.aload_n 0, 1) := by decide +kernel
theorem dX4_ways_7 : decode cX4_ways 7 = .ok (.invokevirtual 181, 3) := by decide +kernel
theorem dX4_ways_10 : decode cX4_ways 10 = .ok (.ishl, 1) := by decide +kernel
theorem dX4_ways_11 : decode cX4_ways 11 = .ok (.if_icmp .ge 25, 3) := by decide +kernel
theorem dX4_ways_14 : decode cX4_ways 14 = .ok (.lload_n 1, 1) := by decide +kernel
theorem dX4_ways_15 : decode cX4_ways 15 = .ok (.aload_n 0, 1) := by decide +kernel
theorem dX4_ways_16 : decode cX4_ways 16 = .ok (.iload_n 3, 1) := by decide +kernel
theorem dX4_ways_17 : decode cX4_ways 17 = .ok (.invokevirtual 184, 3) := by decide +kernel
theorem dX4_ways_20 : decode cX4_ways 20 = .ok (.ifCond .eq 7, 3) := by decide +kernel
theorem dX4_ways_23 : decode cX4_ways 23 = .ok (.lconst 1, 1) := by decide +kernel
theorem dX4_ways_24 : decode cX4_ways 24 = .ok (.goto 4, 3) := by decide +kernel
theorem dX4_ways_27 : decode cX4_ways 27 = .ok (.lconst 0, 1) := by decide +kernel
theorem dX4_ways_28 : decode cX4_ways 28 = .ok (.ladd, 1) := by decide +kernel
theorem dX4_ways_29 : decode cX4_ways 29 = .ok (.lstore_n 1, 1) := by decide +kernel
theorem dX4_ways_30 : decode cX4_ways 30 = .ok (.iinc 3 1, 3) := by decide +kernel
theorem dX4_ways_33 : decode cX4_ways 33 = .ok (.goto (-29), 3) := by decide +kernel
theorem dX4_ways_36 : decode cX4_ways 36 = .ok (.lload_n 1, 1) := by decide +kernel
theorem dX4_ways_37 : decode cX4_ways 37 = .ok (.lreturn, 1) := by decide +kernel
theorem dX4_eats_0 : decode cX4_eats 0 = .ok (.aload_n 0, 1) := by decide +kernel
theorem dX4_eats_1 : decode cX4_eats 1 = .ok (.iload_n 1, 1) := by decide +kernel
theorem dX4_eats_2 : decode cX4_eats 2 = .ok (.invokevirtual 67, 3) := by decide +kernel
theorem dX4_eats_5 : decode cX4_eats 5 = .ok (.ifCond .ne 11, 3) := by decide +kernel
theorem dX4_eats_8 : decode cX4_eats 8 = .ok (.aload_n 0, 1) := by decide +kernel
theorem dX4_eats_9 : decode cX4_eats 9 = .ok (.ldc 34, 2) := by decide +kernel
theorem dX4_eats_11 : decode cX4_eats 11 = .ok (.invokevirtual 36, 3) := by decide +kernel
theorem dX4_eats_14 : decode cX4_eats 14 = .ok (.i2l, 1) := by decide +kernel
theorem dX4_eats_15 : decode cX4_eats 15 = .ok (.lreturn, 1) := by decide +kernel
theorem dX4_eats_16 : decode cX4_eats 16 = .ok (.aload_n 0, 1) := by decide +kernel
theorem dX4_eats_17 : decode cX4_eats 17 = .ok (.getfield 9, 3) := by decide +kernel
theorem dX4_eats_20 : decode cX4_eats 20 = .ok (.aload_n 0, 1) := by decide +kernel
theorem dX4_eats_21 : decode cX4_eats 21 = .ok (.getfield 16, 3) := by decide +kernel
theorem dX4_eats_24 : decode cX4_eats 24 = .ok (.invokestatic 123, 3) := by decide +kernel
theorem dX4_eats_27 : decode cX4_eats 27 = .ok (.lconst 0, 1) := by decide +kernel
theorem dX4_eats_28 : decode cX4_eats 28 = .ok (.lstore_n 2, 1) := by decide +kernel
theorem dX4_eats_29 : decode cX4_eats 29 = .ok (.iconst 0, 1) := by decide +kernel
theorem dX4_eats_30 : decode cX4_eats 30 = .ok (.istore 4, 2) := by decide +kernel
theorem dX4_eats_32 : decode cX4_eats 32 = .ok (.iload 4, 2) := by decide +kernel
theorem dX4_eats_34 : decode cX4_eats 34 = .ok (.iconst 1, 1) := by decide +kernel
theorem dX4_eats_35 : decode cX4_eats 35 = .ok (.aload_n 0, 1) := by decide +kernel
theorem dX4_eats_36 : decode cX4_eats 36 = .ok (.invokevirtual 181, 3) := by decide +kernel
theorem dX4_eats_39 : decode cX4_eats 39 = .ok (.ishl, 1) := by decide +kernel
theorem dX4_eats_40 : decode cX4_eats 40 = .ok (.if_icmp .ge 50, 3) := by decide +kernel
theorem dX4_eats_43 : decode cX4_eats 43 = .ok (.aload_n 0, 1) := by decide +kernel
theorem dX4_eats_44 : decode cX4_eats 44 = .ok (.iload 4, 2) := by decide +kernel
theorem dX4_eats_46 : decode cX4_eats 46 = .ok (.invokevirtual 184, 3) := by decide +kernel
theorem dX4_eats_49 : decode cX4_eats 49 = .ok (.ifCond .ne 6, 3) := by decide +kernel
theorem dX4_eats_52 : decode cX4_eats 52 = .ok (.goto 32, 3) := by decide +kernel
theorem dX4_eats_55 : decode cX4_eats 55 = .ok (.aload_n 0, 1) := by decide +kernel
theorem dX4_eats_56 : decode cX4_eats 56 = .ok (.iload 4, 2) := by decide +kernel
theorem dX4_eats_58 : decode cX4_eats 58 = .ok (.invokevirtual 187, 3) := by decide +kernel
theorem dX4_eats_61 : decode cX4_eats 61 = .ok (.aload_n 0, 1) := by decide +kernel
theorem dX4_eats_62 : decode cX4_eats 62 = .ok (.invokevirtual 120, 3) := by decide +kernel
theorem dX4_eats_65 : decode cX4_eats 65 = .ok (.pop, 1) := by decide +kernel
theorem dX4_eats_66 : decode cX4_eats 66 = .ok (.lload_n 2, 1) := by decide +kernel
theorem dX4_eats_67 : decode cX4_eats 67 = .ok (.aload_n 0, 1) := by decide +kernel
theorem dX4_eats_68 : decode cX4_eats 68 = .ok (.iload_n 1, 1) := by decide +kernel
theorem dX4_eats_69 : decode cX4_eats 69 = .ok (.iconst 5, 1) := by decide +kernel
theorem dX4_eats_70 : decode cX4_eats 70 = .ok (.invokevirtual 63, 3) := by decide +kernel
theorem dX4_eats_73 : decode cX4_eats 73 = .ok (.iconst 1, 1) := by decide +kernel
theorem dX4_eats_74 : decode cX4_eats 74 = .ok (.if_icmp .ne 7, 3) := by decide +kernel
theorem dX4_eats_77 : decode cX4_eats 77 = .ok (.lconst 1, 1) := by decide +kernel
theorem dX4_eats_78 : decode cX4_eats 78 = .ok (.goto 4, 3) := by decide +kernel
theorem dX4_eats_81 : decode cX4_eats 81 = .ok (.lconst 0, 1) := by decide +kernel
theorem dX4_eats_82 : decode cX4_eats 82 = .ok (.ladd, 1) := by decide +kernel
theorem dX4_eats_83 : decode cX4_eats 83 = .ok (.lstore_n 2, 1) := by decide +kernel
theorem dX4_eats_84 : decode cX4_eats 84 = .ok (.iinc 4 1, 3) := by decide +kernel
theorem dX4_eats_87 : decode cX4_eats 87 = .ok (.goto (-55), 3) := by decide +kernel
theorem dX4_eats_90 : decode cX4_eats 90 = .ok (.aload_n 0, 1) := by decide +kernel
theorem dX4_eats_91 : decode cX4_eats 91 = .ok (.getfield 16, 3) := by decide +kernel
theorem dX4_eats_94 : decode cX4_eats 94 = .ok (.aload_n 0, 1) := by decide +kernel
theorem dX4_eats_95 : decode cX4_eats 95 = .ok (.getfield 9, 3) := by decide +kernel
theorem dX4_eats_98 : decode cX4_eats 98 = .ok (.invokestatic 123, 3) := by decide +kernel
theorem dX4_eats_101 : decode cX4_eats 101 = .ok (.lload_n 2, 1) := by decide +kernel
theorem dX4_eats_102 : decode cX4_eats 102 = .ok (.lreturn, 1) := by decide +kernel
theorem dX4_busy_0 : decode cX4_busy 0 = .ok (.iload_n 1, 1) := by decide +kernel
theorem dX4_busy_1 : decode cX4_busy 1 = .ok (.i2l, 1) := by decide +kernel
theorem dX4_busy_2 : decode cX4_busy 2 = .ok (.lconst 0, 1) := by decide +kernel
theorem dX4_busy_3 : decode cX4_busy 3 = .ok (.ldc2_w 191, 3) := by decide +kernel
theorem dX4_busy_6 : decode cX4_busy 6 = .ok (.invokestatic 40, 3) := by decide +kernel
theorem dX4_busy_9 : decode cX4_busy 9 = .ok (.ifCond .ne 11, 3) := by decide +kernel
theorem dX4_busy_12 : decode cX4_busy 12 = .ok (.aload_n 0, 1) := by decide +kernel
theorem dX4_busy_13 : decode cX4_busy 13 = .ok (.ldc 34, 2) := by decide +kernel
theorem dX4_busy_15 : decode cX4_busy 15 = .ok (.invokevirtual 36, 3) := by decide +kernel
theorem dX4_busy_18 : decode cX4_busy 18 = .ok (.i2l, 1) := by decide +kernel
theorem dX4_busy_19 : decode cX4_busy 19 = .ok (.lreturn, 1) := by decide +kernel
theorem dX4_busy_20 : decode cX4_busy 20 = .ok (.aload_n 0, 1) := by decide +kernel
theorem dX4_busy_21 : decode cX4_busy 21 = .ok (.getfield 9, 3) := by decide +kernel
theorem dX4_busy_24 : decode cX4_busy 24 = .ok (.aload_n 0, 1) := by decide +kernel
theorem dX4_busy_25 : decode cX4_busy 25 = .ok (.getfield 16, 3) := by decide +kernel
theorem dX4_busy_28 : decode cX4_busy 28 = .ok (.invokestatic 123, 3) := by decide +kernel
theorem dX4_busy_31 : decode cX4_busy 31 = .ok (.lconst 0, 1) := by decide +kernel
theorem dX4_busy_32 : decode cX4_busy 32 = .ok (.lstore_n 2, 1) := by decide +kernel
theorem dX4_busy_33 : decode cX4_busy 33 = .ok (.iconst 0, 1) := by decide +kernel
theorem dX4_busy_34 : decode cX4_busy 34 = .ok (.istore 4, 2) := by decide +kernel
theorem dX4_busy_36 : decode cX4_busy 36 = .ok (.iload 4, 2) := by decide +kernel
theorem dX4_busy_38 : decode cX4_busy 38 = .ok (.iconst 1, 1) := by decide +kernel
theorem dX4_busy_39 : decode cX4_busy 39 = .ok (.aload_n 0, 1) := by decide +kernel
theorem dX4_busy_40 : decode cX4_busy 40 = .ok (.invokevirtual 181, 3) := by decide +kernel
theorem dX4_busy_43 : decode cX4_busy 43 = .ok (.ishl, 1) := by decide +kernel
theorem dX4_busy_44 : decode cX4_busy 44 = .ok (.if_icmp .ge 43, 3) := by decide +kernel
theorem dX4_busy_47 : decode cX4_busy 47 = .ok (.aload_n 0, 1) := by decide +kernel
theorem dX4_busy_48 : decode cX4_busy 48 = .ok (.iload 4, 2) := by decide +kernel
theorem dX4_busy_50 : decode cX4_busy 50 = .ok (.invokevirtual 184, 3) := by decide +kernel
theorem dX4_busy_53 : decode cX4_busy 53 = .ok (.ifCond .ne 6, 3) := by decide +kernel
theorem dX4_busy_56 : decode cX4_busy 56 = .ok (.goto 25, 3) := by decide +kernel
theorem dX4_busy_59 : decode cX4_busy 59 = .ok (.aload_n 0, 1) := by decide +kernel
theorem dX4_busy_60 : decode cX4_busy 60 = .ok (.iload 4, 2) := by decide +kernel
theorem dX4_busy_62 : decode cX4_busy 62 = .ok (.invokevirtual 187, 3) := by decide +kernel
theorem dX4_busy_65 : decode cX4_busy 65 = .ok (.lload_n 2, 1) := by decide +kernel
theorem dX4_busy_66 : decode cX4_busy 66 = .ok (.aload_n 0, 1) := by decide +kernel
theorem dX4_busy_67 : decode cX4_busy 67 = .ok (.invokevirtual 120, 3) := by decide +kernel
theorem dX4_busy_70 : decode cX4_busy 70 = .ok (.iload_n 1, 1) := by decide +kernel
theorem dX4_busy_71 : decode cX4_busy 71 = .ok (.if_icmp .ne 7, 3) := by decide +kernel
theorem dX4_busy_74 : decode cX4_busy 74 = .ok (.lconst 1, 1) := by decide +kernel
theorem dX4_busy_75 : decode cX4_busy 75 = .ok (.goto 4, 3) := by decide +kernel
theorem dX4_busy_78 : decode cX4_busy 78 = .ok (.lconst 0, 1) := by decide +kernel
theorem dX4_busy_79 : decode cX4_busy 79 = .ok (.ladd, 1) := by decide +kernel
theorem dX4_busy_80 : decode cX4_busy 80 = .ok (.lstore_n 2, 1) := by decide +kernel
theorem dX4_busy_81 : decode cX4_busy 81 = .ok (.iinc 4 1, 3) := by decide +kernel
theorem dX4_busy_84 : decode cX4_busy 84 = .ok (.goto (-48), 3) := by decide +kernel
theorem dX4_busy_87 : decode cX4_busy 87 = .ok (.aload_n 0, 1) := by decide +kernel
theorem dX4_busy_88 : decode cX4_busy 88 = .ok (.getfield 16, 3) := by decide +kernel
theorem dX4_busy_91 : decode cX4_busy 91 = .ok (.aload_n 0, 1) := by decide +kernel
theorem dX4_busy_92 : decode cX4_busy 92 = .ok (.getfield 9, 3) := by decide +kernel
theorem dX4_busy_95 : decode cX4_busy 95 = .ok (.invokestatic 123, 3) := by decide +kernel
theorem dX4_busy_98 : decode cX4_busy 98 = .ok (.lload_n 2, 1) := by decide +kernel
theorem dX4_busy_99 : decode cX4_busy 99 = .ok (.lreturn, 1) := by decide +kernel
theorem dX4_famine_0 : decode cX4_famine 0 = .ok (.iload_n 1, 1) := by decide +kernel
theorem dX4_famine_1 : decode cX4_famine 1 = .ok (.i2l, 1) := by decide +kernel
theorem dX4_famine_2 : decode cX4_famine 2 = .ok (.lconst 1, 1) := by decide +kernel
theorem dX4_famine_3 : decode cX4_famine 3 = .ok (.ldc2_w 193, 3) := by decide +kernel
theorem dX4_famine_6 : decode cX4_famine 6 = .ok (.invokestatic 40, 3) := by decide +kernel
theorem dX4_famine_9 : decode cX4_famine 9 = .ok (.ifCond .ne 10, 3) := by decide +kernel
theorem dX4_famine_12 : decode cX4_famine 12 = .ok (.aload_n 0, 1) := by decide +kernel
theorem dX4_famine_13 : decode cX4_famine 13 = .ok (.ldc 34, 2) := by decide +kernel
theorem dX4_famine_15 : decode cX4_famine 15 = .ok (.invokevirtual 36, 3) := by decide +kernel
theorem dX4_famine_18 : decode cX4_famine 18 = .ok (.ireturn, 1) := by decide +kernel
theorem dX4_famine_19 : decode cX4_famine 19 = .ok (.aload_n 0, 1) := by decide +kernel
theorem dX4_famine_20 : decode cX4_famine 20 = .ok (.getfield 9, 3) := by decide +kernel
theorem dX4_famine_23 : decode cX4_famine 23 = .ok (.bipush 8, 2) := by decide +kernel
theorem dX4_famine_25 : decode cX4_famine 25 = .ok (.iaload, 1) := by decide +kernel
theorem dX4_famine_26 : decode cX4_famine 26 = .ok (.ifCond .ne 10, 3) := by decide +kernel
theorem dX4_famine_29 : decode cX4_famine 29 = .ok (.aload_n 0, 1) := by decide +kernel
theorem dX4_famine_30 : decode cX4_famine 30 = .ok (.ldc 109, 2) := by decide +kernel
theorem dX4_famine_32 : decode cX4_famine 32 = .ok (.invokevirtual 36, 3) := by decide +kernel
theorem dX4_famine_35 : decode cX4_famine 35 = .ok (.ireturn, 1) := by decide +kernel
theorem dX4_famine_36 : decode cX4_famine 36 = .ok (.iconst 0, 1) := by decide +kernel
theorem dX4_famine_37 : decode cX4_famine 37 = .ok (.istore_n 2, 1) := by decide +kernel
theorem dX4_famine_38 : decode cX4_famine 38 = .ok (.iload_n 2, 1) := by decide +kernel
theorem dX4_famine_39 : decode cX4_famine 39 = .ok (.iload_n 1, 1) := by decide +kernel
theorem dX4_famine_40 : decode cX4_famine 40 = .ok (.if_icmp .ge 35, 3) := by decide +kernel
theorem dX4_famine_43 : decode cX4_famine 43 = .ok (.aload_n 0, 1) := by decide +kernel
theorem dX4_famine_44 : decode cX4_famine 44 = .ok (.invokevirtual 140, 3) := by decide +kernel
theorem dX4_famine_47 : decode cX4_famine 47 = .ok (.aload_n 0, 1) := by decide +kernel
theorem dX4_famine_48 : decode cX4_famine 48 = .ok (.getfield 9, 3) := by decide +kernel
theorem dX4_famine_51 : decode cX4_famine 51 = .ok (.bipush 8, 2) := by decide +kernel
theorem dX4_famine_53 : decode cX4_famine 53 = .ok (.iaload, 1) := by decide +kernel
theorem dX4_famine_54 : decode cX4_famine 54 = .ok (.irem, 1) := by decide +kernel
theorem dX4_famine_55 : decode cX4_famine 55 = .ok (.istore_n 3, 1) := by decide +kernel
theorem dX4_famine_56 : decode cX4_famine 56 = .ok (.aload_n 0, 1) := by decide +kernel
theorem dX4_famine_57 : decode cX4_famine 57 = .ok (.iload_n 3, 1) := by decide +kernel
theorem dX4_famine_58 : decode cX4_famine 58 = .ok (.iconst 1, 1) := by decide +kernel
theorem dX4_famine_59 : decode cX4_famine 59 = .ok (.aload_n 0, 1) := by decide +kernel
theorem dX4_famine_60 : decode cX4_famine 60 = .ok (.invokevirtual 140, 3) := by decide +kernel
theorem dX4_famine_63 : decode cX4_famine 63 = .ok (.bipush 10, 2) := by decide +kernel
theorem dX4_famine_65 : decode cX4_famine 65 = .ok (.irem, 1) := by decide +kernel
theorem dX4_famine_66 : decode cX4_famine 66 = .ok (.invokevirtual 50, 3) := by decide +kernel
theorem dX4_famine_69 : decode cX4_famine 69 = .ok (.iinc 2 1, 3) := by decide +kernel
theorem dX4_famine_72 : decode cX4_famine 72 = .ok (.goto (-34), 3) := by decide +kernel
theorem dX4_famine_75 : decode cX4_famine 75 = .ok (.aload_n 0, 1) := by decide +kernel
theorem dX4_famine_76 : decode cX4_famine 76 = .ok (.invokevirtual 102, 3) := by decide +kernel
theorem dX4_famine_79 : decode cX4_famine 79 = .ok (.invokestatic 136, 3) := by decide +kernel
theorem dX4_famine_82 : decode cX4_famine 82 = .ok (.ireturn, 1) := by decide +kernel
theorem dX4_seed_0 : decode cX4_seed 0 = .ok (.aload_n 0, 1) := by decide +kernel
theorem dX4_seed_1 : decode cX4_seed 1 = .ok (.bipush 7, 2) := by decide +kernel
theorem dX4_seed_3 : decode cX4_seed 3 = .ok (.iload_n 1, 1) := by decide +kernel
theorem dX4_seed_4 : decode cX4_seed 4 = .ok (.invokevirtual 91, 3) := by decide +kernel
theorem dX4_seed_7 : decode cX4_seed 7 = .ok (.ireturn, 1) := by decide +kernel
theorem dX4_feed_0 : decode cX4_feed 0 = .ok (.iload_n 2, 1) := by decide +kernel
theorem dX4_feed_1 : decode cX4_feed 1 = .ok (.i2l, 1) := by decide +kernel
theorem dX4_feed_2 : decode cX4_feed 2 = .ok (.lconst 1, 1) := by decide +kernel
theorem dX4_feed_3 : decode cX4_feed 3 = .ok (.ldc2_w 195, 3) := by decide +kernel
theorem dX4_feed_6 : decode cX4_feed 6 = .ok (.invokestatic 40, 3) := by decide +kernel
theorem dX4_feed_9 : decode cX4_feed 9 = .ok (.ifCond .ne 10, 3) := by decide +kernel
theorem dX4_feed_12 : decode cX4_feed 12 = .ok (.aload_n 0, 1) := by decide +kernel
theorem dX4_feed_13 : decode cX4_feed 13 = .ok (.ldc 34, 2) := by decide +kernel
theorem dX4_feed_15 : decode cX4_feed 15 = .ok (.invokevirtual 36, 3) := by decide +kernel
theorem dX4_feed_18 : decode cX4_feed 18 = .ok (.ireturn, 1) := by decide +kernel
theorem dX4_feed_19 : decode cX4_feed 19 = .ok (.aload_n 0, 1) := by decide +kernel
theorem dX4_feed_20 : decode cX4_feed 20 = .ok (.getfield 197, 3) := by decide +kernel
theorem dX4_feed_23 : decode cX4_feed 23 = .ok (.iload_n 2, 1) := by decide +kernel
theorem dX4_feed_24 : decode cX4_feed 24 = .ok (.iadd, 1) := by decide +kernel
theorem dX4_feed_25 : decode cX4_feed 25 = .ok (.bipush 120, 2) := by decide +kernel
theorem dX4_feed_27 : decode cX4_feed 27 = .ok (.if_icmp .le 10, 3) := by decide +kernel
theorem dX4_feed_30 : decode cX4_feed 30 = .ok (.aload_n 0, 1) := by decide +kernel
theorem dX4_feed_31 : decode cX4_feed 31 = .ok (.ldc 58, 2) := by decide +kernel
theorem dX4_feed_33 : decode cX4_feed 33 = .ok (.invokevirtual 36, 3) := by decide +kernel
theorem dX4_feed_36 : decode cX4_feed 36 = .ok (.ireturn, 1) := by decide +kernel
theorem dX4_feed_37 : decode cX4_feed 37 = .ok (.iload_n 2, 1) := by decide +kernel
theorem dX4_feed_38 : decode cX4_feed 38 = .ok (.iconst 1, 1) := by decide +kernel
theorem dX4_feed_39 : decode cX4_feed 39 = .ok (.isub, 1) := by decide +kernel
theorem dX4_feed_40 : decode cX4_feed 40 = .ok (.istore_n 3, 1) := by decide +kernel
theorem dX4_feed_41 : decode cX4_feed 41 = .ok (.iload_n 3, 1) := by decide +kernel
theorem dX4_feed_42 : decode cX4_feed 42 = .ok (.ifCond .lt 38, 3) := by decide +kernel
theorem dX4_feed_45 : decode cX4_feed 45 = .ok (.aload_n 0, 1) := by decide +kernel
theorem dX4_feed_46 : decode cX4_feed 46 = .ok (.getfield 22, 3) := by decide +kernel
theorem dX4_feed_49 : decode cX4_feed 49 = .ok (.aload_n 0, 1) := by decide +kernel
theorem dX4_feed_50 : decode cX4_feed 50 = .ok (.getfield 197, 3) := by decide +kernel
theorem dX4_feed_53 : decode cX4_feed 53 = .ok (.iload_n 1, 1) := by decide +kernel
theorem dX4_feed_54 : decode cX4_feed 54 = .ok (.bipush 8, 2) := by decide +kernel
theorem dX4_feed_56 : decode cX4_feed 56 = .ok (.iload_n 3, 1) := by decide +kernel
theorem dX4_feed_57 : decode cX4_feed 57 = .ok (.imul, 1) := by decide +kernel
theorem dX4_feed_58 : decode cX4_feed 58 = .ok (.ishr, 1) := by decide +kernel
theorem dX4_feed_59 : decode cX4_feed 59 = .ok (.sipush 255, 3) := by decide +kernel
theorem dX4_feed_62 : decode cX4_feed 62 = .ok (.iand, 1) := by decide +kernel
theorem dX4_feed_63 : decode cX4_feed 63 = .ok (.iastore, 1) := by decide +kernel
theorem dX4_feed_64 : decode cX4_feed 64 = .ok (.aload_n 0, 1) := by decide +kernel
theorem dX4_feed_65 : decode cX4_feed 65 = .ok (.dup, 1) := by decide +kernel
theorem dX4_feed_66 : decode cX4_feed 66 = .ok (.getfield 197, 3) := by decide +kernel
theorem dX4_feed_69 : decode cX4_feed 69 = .ok (.iconst 1, 1) := by decide +kernel
theorem dX4_feed_70 : decode cX4_feed 70 = .ok (.iadd, 1) := by decide +kernel
theorem dX4_feed_71 : decode cX4_feed 71 = .ok (.putfield 197, 3) := by decide +kernel
theorem dX4_feed_74 : decode cX4_feed 74 = .ok (.iinc 3 (-1), 3) := by decide +kernel
theorem dX4_feed_77 : decode cX4_feed 77 = .ok (.goto (-36), 3) := by decide +kernel
theorem dX4_feed_80 : decode cX4_feed 80 = .ok (.aload_n 0, 1) := by decide +kernel
theorem dX4_feed_81 : decode cX4_feed 81 = .ok (.getfield 197, 3) := by decide +kernel
theorem dX4_feed_84 : decode cX4_feed 84 = .ok (.ireturn, 1) := by decide +kernel
theorem dX4_wipe_0 : decode cX4_wipe 0 = .ok (.aload_n 0, 1) := by decide +kernel
theorem dX4_wipe_1 : decode cX4_wipe 1 = .ok (.getfield 197, 3) := by decide +kernel
theorem dX4_wipe_4 : decode cX4_wipe 4 = .ok (.istore_n 1, 1) := by decide +kernel
theorem dX4_wipe_5 : decode cX4_wipe 5 = .ok (.aload_n 0, 1) := by decide +kernel
theorem dX4_wipe_6 : decode cX4_wipe 6 = .ok (.iconst 0, 1) := by decide +kernel
theorem dX4_wipe_7 : decode cX4_wipe 7 = .ok (.putfield 197, 3) := by decide +kernel
theorem dX4_wipe_10 : decode cX4_wipe 10 = .ok (.iload_n 1, 1) := by decide +kernel
theorem dX4_wipe_11 : decode cX4_wipe 11 = .ok (.ireturn, 1) := by decide +kernel
theorem dX4_isByte_0 : decode cX4_isByte 0 = .ok (.iload_n 1, 1) := by decide +kernel
theorem dX4_isByte_1 : decode cX4_isByte 1 = .ok (.aload_n 0, 1) := by decide +kernel
theorem dX4_isByte_2 : decode cX4_isByte 2 = .ok (.getfield 197, 3) := by decide +kernel
theorem dX4_isByte_5 : decode cX4_isByte 5 = .ok (.if_icmp .ge 24, 3) := by decide +kernel
theorem dX4_isByte_8 : decode cX4_isByte 8 = .ok (.aload_n 0, 1) := by decide +kernel
theorem dX4_isByte_9 : decode cX4_isByte 9 = .ok (.getfield 22, 3) := by decide +kernel
theorem dX4_isByte_12 : decode cX4_isByte 12 = .ok (.iload_n 1, 1) := by decide +kernel
theorem dX4_isByte_13 : decode cX4_isByte 13 = .ok (.iaload, 1) := by decide +kernel
theorem dX4_isByte_14 : decode cX4_isByte 14 = .ok (.i2l, 1) := by decide +kernel
theorem dX4_isByte_15 : decode cX4_isByte 15 = .ok (.iload_n 2, 1) := by decide +kernel
theorem dX4_isByte_16 : decode cX4_isByte 16 = .ok (.i2l, 1) := by decide +kernel
theorem dX4_isByte_17 : decode cX4_isByte 17 = .ok (.iload_n 3, 1) := by decide +kernel
theorem dX4_isByte_18 : decode cX4_isByte 18 = .ok (.i2l, 1) := by decide +kernel
theorem dX4_isByte_19 : decode cX4_isByte 19 = .ok (.invokestatic 40, 3) := by decide +kernel
theorem dX4_isByte_22 : decode cX4_isByte 22 = .ok (.ifCond .eq 7, 3) := by decide +kernel
theorem dX4_isByte_25 : decode cX4_isByte 25 = .ok (.iconst 1, 1) := by decide +kernel
theorem dX4_isByte_26 : decode cX4_isByte 26 = .ok (.goto 4, 3) := by decide +kernel
theorem dX4_isByte_29 : decode cX4_isByte 29 = .ok (.iconst 0, 1) := by decide +kernel
theorem dX4_isByte_30 : decode cX4_isByte 30 = .ok (.ireturn, 1) := by decide +kernel
theorem dX4_token_0 : decode cX4_token 0 = .ok (.aload_n 0, 1) := by decide +kernel
theorem dX4_token_1 : decode cX4_token 1 = .ok (.aload_n 0, 1) := by decide +kernel
theorem dX4_token_2 : decode cX4_token 2 = .ok (.getfield 200, 3) := by decide +kernel
theorem dX4_token_5 : decode cX4_token 5 = .ok (.putfield 203, 3) := by decide +kernel
theorem dX4_token_8 : decode cX4_token 8 = .ok (.aload_n 0, 1) := by decide +kernel
theorem dX4_token_9 : decode cX4_token 9 = .ok (.aload_n 0, 1) := by decide +kernel
theorem dX4_token_10 : decode cX4_token 10 = .ok (.getfield 203, 3) := by decide +kernel
theorem dX4_token_13 : decode cX4_token 13 = .ok (.bipush 32, 2) := by decide +kernel
theorem dX4_token_15 : decode cX4_token 15 = .ok (.bipush 32, 2) := by decide +kernel
theorem dX4_token_17 : decode cX4_token 17 = .ok (.invokevirtual 206, 3) := by decide +kernel
theorem dX4_token_20 : decode cX4_token 20 = .ok (.ifCond .eq 16, 3) := by decide +kernel
theorem dX4_token_23 : decode cX4_token 23 = .ok (.aload_n 0, 1) := by decide +kernel
theorem dX4_token_24 : decode cX4_token 24 = .ok (.dup, 1) := by decide +kernel
theorem dX4_token_25 : decode cX4_token 25 = .ok (.getfield 203, 3) := by decide +kernel
theorem dX4_token_28 : decode cX4_token 28 = .ok (.iconst 1, 1) := by decide +kernel
theorem dX4_token_29 : decode cX4_token 29 = .ok (.iadd, 1) := by decide +kernel
theorem dX4_token_30 : decode cX4_token 30 = .ok (.putfield 203, 3) := by decide +kernel
theorem dX4_token_33 : decode cX4_token 33 = .ok (.goto (-25), 3) := by decide +kernel
theorem dX4_token_36 : decode cX4_token 36 = .ok (.aload_n 0, 1) := by decide +kernel
theorem dX4_token_37 : decode cX4_token 37 = .ok (.aload_n 0, 1) := by decide +kernel
theorem dX4_token_38 : decode cX4_token 38 = .ok (.getfield 203, 3) := by decide +kernel
theorem dX4_token_41 : decode cX4_token 41 = .ok (.putfield 200, 3) := by decide +kernel
theorem dX4_token_44 : decode cX4_token 44 = .ok (.aload_n 0, 1) := by decide +kernel
theorem dX4_token_45 : decode cX4_token 45 = .ok (.iconst 0, 1) := by decide +kernel
theorem dX4_token_46 : decode cX4_token 46 = .ok (.putfield 209, 3) := by decide +kernel
theorem dX4_token_49 : decode cX4_token 49 = .ok (.aload_n 0, 1) := by decide +kernel
theorem dX4_token_50 : decode cX4_token 50 = .ok (.aload_n 0, 1) := by decide +kernel
theorem dX4_token_51 : decode cX4_token 51 = .ok (.getfield 203, 3) := by decide +kernel
theorem dX4_token_54 : decode cX4_token 54 = .ok (.aload_n 0, 1) := by decide +kernel
theorem dX4_token_55 : decode cX4_token 55 = .ok (.getfield 197, 3) := by decide +kernel
theorem dX4_token_58 : decode cX4_token 58 = .ok (.if_icmp .ne 7, 3) := by decide +kernel
theorem dX4_token_61 : decode cX4_token 61 = .ok (.iconst 0, 1) := by decide +kernel
theorem dX4_token_62 : decode cX4_token 62 = .ok (.goto 42, 3) := by decide +kernel
theorem dX4_token_65 : decode cX4_token 65 = .ok (.aload_n 0, 1) := by decide +kernel
theorem dX4_token_66 : decode cX4_token 66 = .ok (.aload_n 0, 1) := by decide +kernel
theorem dX4_token_67 : decode cX4_token 67 = .ok (.getfield 203, 3) := by decide +kernel
theorem dX4_token_70 : decode cX4_token 70 = .ok (.bipush 97, 2) := by decide +kernel
theorem dX4_token_72 : decode cX4_token 72 = .ok (.bipush 122, 2) := by decide +kernel
theorem dX4_token_74 : decode cX4_token 74 = .ok (.invokevirtual 206, 3) := by decide +kernel
theorem dX4_token_77 : decode cX4_token 77 = .ok (.ifCond .eq 7, 3) := by decide +kernel
theorem dX4_token_80 : decode cX4_token 80 = .ok (.iconst 1, 1) := by decide +kernel
theorem dX4_token_81 : decode cX4_token 81 = .ok (.goto 23, 3) := by decide +kernel
theorem dX4_token_84 : decode cX4_token 84 = .ok (.aload_n 0, 1) := by decide +kernel
theorem dX4_token_85 : decode cX4_token 85 = .ok (.aload_n 0, 1) := by decide +kernel
theorem dX4_token_86 : decode cX4_token 86 = .ok (.getfield 203, 3) := by decide +kernel
theorem dX4_token_89 : decode cX4_token 89 = .ok (.bipush 48, 2) := by decide +kernel
theorem dX4_token_91 : decode cX4_token 91 = .ok (.bipush 57, 2) := by decide +kernel
theorem dX4_token_93 : decode cX4_token 93 = .ok (.invokevirtual 206, 3) := by decide +kernel
theorem dX4_token_96 : decode cX4_token 96 = .ok (.ifCond .eq 7, 3) := by decide +kernel
theorem dX4_token_99 : decode cX4_token 99 = .ok (.iconst 2, 1) := by decide +kernel
theorem dX4_token_100 : decode cX4_token 100 = .ok (.goto 4, 3) := by decide +kernel
theorem dX4_token_103 : decode cX4_token 103 = .ok (.iconst 3, 1) := by decide +kernel
theorem dX4_token_104 : decode cX4_token 104 = .ok (.putfield 212, 3) := by decide +kernel
theorem dX4_token_107 : decode cX4_token 107 = .ok (.aload_n 0, 1) := by decide +kernel
theorem dX4_token_108 : decode cX4_token 108 = .ok (.getfield 212, 3) := by decide +kernel
theorem dX4_token_111 : decode cX4_token 111 = .ok (.iconst 3, 1) := by decide +kernel
theorem dX4_token_112 : decode cX4_token 112 = .ok (.if_icmp .ne 13, 3) := by decide +kernel
theorem dX4_token_115 : decode cX4_token 115 = .ok (.aload_n 0, 1) := by decide +kernel
theorem dX4_token_116 : decode cX4_token 116 = .ok (.dup, 1) := by decide +kernel
theorem dX4_token_117 : decode cX4_token 117 = .ok (.getfield 200, 3) := by decide +kernel
theorem dX4_token_120 : decode cX4_token 120 = .ok (.iconst 1, 1) := by decide +kernel
theorem dX4_token_121 : decode cX4_token 121 = .ok (.iadd, 1) := by decide +kernel
theorem dX4_token_122 : decode cX4_token 122 = .ok (.putfield 200, 3) := by decide +kernel
theorem dX4_token_125 : decode cX4_token 125 = .ok (.aload_n 0, 1) := by decide +kernel
theorem dX4_token_126 : decode cX4_token 126 = .ok (.getfield 212, 3) := by decide +kernel
theorem dX4_token_129 : decode cX4_token 129 = .ok (.iconst 1, 1) := by decide +kernel
theorem dX4_token_130 : decode cX4_token 130 = .ok (.if_icmp .ne 31, 3) := by decide +kernel
theorem dX4_token_133 : decode cX4_token 133 = .ok (.aload_n 0, 1) := by decide +kernel
theorem dX4_token_134 : decode cX4_token 134 = .ok (.aload_n 0, 1) := by decide +kernel
theorem dX4_token_135 : decode cX4_token 135 = .ok (.getfield 200, 3) := by decide +kernel
theorem dX4_token_138 : decode cX4_token 138 = .ok (.bipush 97, 2) := by decide +kernel
theorem dX4_token_140 : decode cX4_token 140 = .ok (.bipush 122, 2) := by decide +kernel
theorem dX4_token_142 : decode cX4_token 142 = .ok (.invokevirtual 206, 3) := by decide +kernel
theorem dX4_token_145 : decode cX4_token 145 = .ok (.ifCond .eq 16, 3) := by decide +kernel
theorem dX4_token_148 : decode cX4_token 148 = .ok (.aload_n 0, 1) := by decide +kernel
theorem dX4_token_149 : decode cX4_token 149 = .ok (.dup, 1) := by decide +kernel
theorem dX4_token_150 : decode cX4_token 150 = .ok (.getfield 200, 3) := by decide +kernel
theorem dX4_token_153 : decode cX4_token 153 = .ok (.iconst 1, 1) := by decide +kernel
theorem dX4_token_154 : decode cX4_token 154 = .ok (.iadd, 1) := by decide +kernel
theorem dX4_token_155 : decode cX4_token 155 = .ok (.putfield 200, 3) := by decide +kernel
theorem dX4_token_158 : decode cX4_token 158 = .ok (.goto (-33), 3) := by decide +kernel
theorem dX4_token_161 : decode cX4_token 161 = .ok (.aload_n 0, 1) := by decide +kernel
theorem dX4_token_162 : decode cX4_token 162 = .ok (.getfield 212, 3) := by decide +kernel
theorem dX4_token_165 : decode cX4_token 165 = .ok (.iconst 2, 1) := by decide +kernel
theorem dX4_token_166 : decode cX4_token 166 = .ok (.if_icmp .ne 72, 3) := by decide +kernel
theorem dX4_token_169 : decode cX4_token 169 = .ok (.aload_n 0, 1) := by decide +kernel
theorem dX4_token_170 : decode cX4_token 170 = .ok (.aload_n 0, 1) := by decide +kernel
theorem dX4_token_171 : decode cX4_token 171 = .ok (.getfield 200, 3) := by decide +kernel
theorem dX4_token_174 : decode cX4_token 174 = .ok (.bipush 48, 2) := by decide +kernel
theorem dX4_token_176 : decode cX4_token 176 = .ok (.bipush 57, 2) := by decide +kernel
theorem dX4_token_178 : decode cX4_token 178 = .ok (.invokevirtual 206, 3) := by decide +kernel
theorem dX4_token_181 : decode cX4_token 181 = .ok (.ifCond .eq 57, 3) := by decide +kernel
theorem dX4_token_184 : decode cX4_token 184 = .ok (.aload_n 0, 1) := by decide +kernel
theorem dX4_token_185 : decode cX4_token 185 = .ok (.aload_n 0, 1) := by decide +kernel
theorem dX4_token_186 : decode cX4_token 186 = .ok (.getfield 209, 3) := by decide +kernel
theorem dX4_token_189 : decode cX4_token 189 = .ok (.sipush 9999, 3) := by decide +kernel
theorem dX4_token_192 : decode cX4_token 192 = .ok (.if_icmp .le 10, 3) := by decide +kernel
theorem dX4_token_195 : decode cX4_token 195 = .ok (.aload_n 0, 1) := by decide +kernel
theorem dX4_token_196 : decode cX4_token 196 = .ok (.getfield 209, 3) := by decide +kernel
theorem dX4_token_199 : decode cX4_token 199 = .ok (.goto 23, 3) := by decide +kernel
theorem dX4_token_202 : decode cX4_token 202 = .ok (.bipush 10, 2) := by decide +kernel
theorem dX4_token_204 : decode cX4_token 204 = .ok (.aload_n 0, 1) := by decide +kernel
theorem dX4_token_205 : decode cX4_token 205 = .ok (.getfield 209, 3) := by decide +kernel
theorem dX4_token_208 : decode cX4_token 208 = .ok (.imul, 1) := by decide +kernel
theorem dX4_token_209 : decode cX4_token 209 = .ok (.aload_n 0, 1) := by decide +kernel
theorem dX4_token_210 : decode cX4_token 210 = .ok (.getfield 22, 3) := by decide +kernel
theorem dX4_token_213 : decode cX4_token 213 = .ok (.aload_n 0, 1) := by decide +kernel
theorem dX4_token_214 : decode cX4_token 214 = .ok (.getfield 200, 3) := by decide +kernel
theorem dX4_token_217 : decode cX4_token 217 = .ok (.iaload, 1) := by decide +kernel
theorem dX4_token_218 : decode cX4_token 218 = .ok (.iadd, 1) := by decide +kernel
theorem dX4_token_219 : decode cX4_token 219 = .ok (.bipush 48, 2) := by decide +kernel
theorem dX4_token_221 : decode cX4_token 221 = .ok (.isub, 1) := by decide +kernel
theorem dX4_token_222 : decode cX4_token 222 = .ok (.putfield 209, 3) := by decide +kernel
theorem dX4_token_225 : decode cX4_token 225 = .ok (.aload_n 0, 1) := by decide +kernel
theorem dX4_token_226 : decode cX4_token 226 = .ok (.dup, 1) := by decide +kernel
theorem dX4_token_227 : decode cX4_token 227 = .ok (.getfield 200, 3) := by decide +kernel
theorem dX4_token_230 : decode cX4_token 230 = .ok (.iconst 1, 1) := by decide +kernel
theorem dX4_token_231 : decode cX4_token 231 = .ok (.iadd, 1) := by decide +kernel
theorem dX4_token_232 : decode cX4_token 232 = .ok (.putfield 200, 3) := by decide +kernel
theorem dX4_token_235 : decode cX4_token 235 = .ok (.goto (-74), 3) := by decide +kernel
theorem dX4_token_238 : decode cX4_token 238 = .ok (.return_, 1) := by decide +kernel
theorem dX4_isWord_0 : decode cX4_isWord 0 = .ok (.aload_n 0, 1) := by decide +kernel
theorem dX4_isWord_1 : decode cX4_isWord 1 = .ok (.getfield 215, 3) := by decide +kernel
theorem dX4_isWord_4 : decode cX4_isWord 4 = .ok (.ifCond .ne 31, 3) := by decide +kernel
theorem dX4_isWord_7 : decode cX4_isWord 7 = .ok (.aload_n 0, 1) := by decide +kernel
theorem dX4_isWord_8 : decode cX4_isWord 8 = .ok (.getfield 212, 3) := by decide +kernel
theorem dX4_isWord_11 : decode cX4_isWord 11 = .ok (.iconst 1, 1) := by decide +kernel
theorem dX4_isWord_12 : decode cX4_isWord 12 = .ok (.if_icmp .ne 23, 3) := by decide +kernel
theorem dX4_isWord_15 : decode cX4_isWord 15 = .ok (.aload_n 0, 1) := by decide +kernel
theorem dX4_isWord_16 : decode cX4_isWord 16 = .ok (.getfield 200, 3) := by decide +kernel
theorem dX4_isWord_19 : decode cX4_isWord 19 = .ok (.aload_n 0, 1) := by decide +kernel
theorem dX4_isWord_20 : decode cX4_isWord 20 = .ok (.getfield 203, 3) := by decide +kernel
theorem dX4_isWord_23 : decode cX4_isWord 23 = .ok (.isub, 1) := by decide +kernel
theorem dX4_isWord_24 : decode cX4_isWord 24 = .ok (.aload_n 1, 1) := by decide +kernel
theorem dX4_isWord_25 : decode cX4_isWord 25 = .ok (.invokevirtual 219, 3) := by decide +kernel
theorem dX4_isWord_28 : decode cX4_isWord 28 = .ok (.if_icmp .ne 7, 3) := by decide +kernel
theorem dX4_isWord_31 : decode cX4_isWord 31 = .ok (.iconst 1, 1) := by decide +kernel
theorem dX4_isWord_32 : decode cX4_isWord 32 = .ok (.goto 4, 3) := by decide +kernel
theorem dX4_isWord_35 : decode cX4_isWord 35 = .ok (.iconst 0, 1) := by decide +kernel
theorem dX4_isWord_36 : decode cX4_isWord 36 = .ok (.istore_n 2, 1) := by decide +kernel
theorem dX4_isWord_37 : decode cX4_isWord 37 = .ok (.iconst 0, 1) := by decide +kernel
theorem dX4_isWord_38 : decode cX4_isWord 38 = .ok (.istore_n 3, 1) := by decide +kernel
theorem dX4_isWord_39 : decode cX4_isWord 39 = .ok (.iload_n 2, 1) := by decide +kernel
theorem dX4_isWord_40 : decode cX4_isWord 40 = .ok (.ifCond .eq 42, 3) := by decide +kernel
theorem dX4_isWord_43 : decode cX4_isWord 43 = .ok (.iload_n 3, 1) := by decide +kernel
theorem dX4_isWord_44 : decode cX4_isWord 44 = .ok (.aload_n 1, 1) := by decide +kernel
theorem dX4_isWord_45 : decode cX4_isWord 45 = .ok (.invokevirtual 219, 3) := by decide +kernel
theorem dX4_isWord_48 : decode cX4_isWord 48 = .ok (.if_icmp .ge 34, 3) := by decide +kernel
theorem dX4_isWord_51 : decode cX4_isWord 51 = .ok (.aload_n 0, 1) := by decide +kernel
theorem dX4_isWord_52 : decode cX4_isWord 52 = .ok (.getfield 22, 3) := by decide +kernel
theorem dX4_isWord_55 : decode cX4_isWord 55 = .ok (.aload_n 0, 1) := by decide +kernel
theorem dX4_isWord_56 : decode cX4_isWord 56 = .ok (.getfield 203, 3) := by decide +kernel
theorem dX4_isWord_59 : decode cX4_isWord 59 = .ok (.iload_n 3, 1) := by decide +kernel
theorem dX4_isWord_60 : decode cX4_isWord 60 = .ok (.iadd, 1) := by decide +kernel
theorem dX4_isWord_61 : decode cX4_isWord 61 = .ok (.iaload, 1) := by decide +kernel
theorem dX4_isWord_62 : decode cX4_isWord 62 = .ok (.aload_n 1, 1) := by decide +kernel
theorem dX4_isWord_63 : decode cX4_isWord 63 = .ok (.iload_n 3, 1) := by decide +kernel
theorem dX4_isWord_64 : decode cX4_isWord 64 = .ok (.invokevirtual 224, 3) := by decide +kernel
theorem dX4_isWord_67 : decode cX4_isWord 67 = .ok (.if_icmp .ne 7, 3) := by decide +kernel
theorem dX4_isWord_70 : decode cX4_isWord 70 = .ok (.iconst 1, 1) := by decide +kernel
theorem dX4_isWord_71 : decode cX4_isWord 71 = .ok (.goto 4, 3) := by decide +kernel
theorem dX4_isWord_74 : decode cX4_isWord 74 = .ok (.iconst 0, 1) := by decide +kernel
theorem dX4_isWord_75 : decode cX4_isWord 75 = .ok (.istore_n 2, 1) := by decide +kernel
theorem dX4_isWord_76 : decode cX4_isWord 76 = .ok (.iinc 3 1, 3) := by decide +kernel
theorem dX4_isWord_79 : decode cX4_isWord 79 = .ok (.goto (-40), 3) := by decide +kernel
theorem dX4_isWord_82 : decode cX4_isWord 82 = .ok (.iload_n 2, 1) := by decide +kernel
theorem dX4_isWord_83 : decode cX4_isWord 83 = .ok (.ireturn, 1) := by decide +kernel
theorem dX4_takes_0 : decode cX4_takes 0 = .ok (.aload_n 0, 1) := by decide +kernel
theorem dX4_takes_1 : decode cX4_takes 1 = .ok (.aload_n 1, 1) := by decide +kernel
theorem dX4_takes_2 : decode cX4_takes 2 = .ok (.invokevirtual 228, 3) := by decide +kernel
theorem dX4_takes_5 : decode cX4_takes 5 = .ok (.ifCond .ne 5, 3) := by decide +kernel
theorem dX4_takes_8 : decode cX4_takes 8 = .ok (.iconst 0, 1) := by decide +kernel
theorem dX4_takes_9 : decode cX4_takes 9 = .ok (.ireturn, 1) := by decide +kernel
theorem dX4_takes_10 : decode cX4_takes 10 = .ok (.aload_n 0, 1) := by decide +kernel
theorem dX4_takes_11 : decode cX4_takes 11 = .ok (.invokevirtual 232, 3) := by decide +kernel
theorem dX4_takes_14 : decode cX4_takes 14 = .ok (.iconst 1, 1) := by decide +kernel
theorem dX4_takes_15 : decode cX4_takes 15 = .ok (.ireturn, 1) := by decide +kernel
theorem dX4_isSign_0 : decode cX4_isSign 0 = .ok (.aload_n 0, 1) := by decide +kernel
theorem dX4_isSign_1 : decode cX4_isSign 1 = .ok (.getfield 215, 3) := by decide +kernel
theorem dX4_isSign_4 : decode cX4_isSign 4 = .ok (.ifCond .ne 28, 3) := by decide +kernel
theorem dX4_isSign_7 : decode cX4_isSign 7 = .ok (.aload_n 0, 1) := by decide +kernel
theorem dX4_isSign_8 : decode cX4_isSign 8 = .ok (.getfield 212, 3) := by decide +kernel
theorem dX4_isSign_11 : decode cX4_isSign 11 = .ok (.iconst 3, 1) := by decide +kernel
theorem dX4_isSign_12 : decode cX4_isSign 12 = .ok (.if_icmp .ne 20, 3) := by decide +kernel
theorem dX4_isSign_15 : decode cX4_isSign 15 = .ok (.aload_n 0, 1) := by decide +kernel
theorem dX4_isSign_16 : decode cX4_isSign 16 = .ok (.getfield 22, 3) := by decide +kernel
theorem dX4_isSign_19 : decode cX4_isSign 19 = .ok (.aload_n 0, 1) := by decide +kernel
theorem dX4_isSign_20 : decode cX4_isSign 20 = .ok (.getfield 203, 3) := by decide +kernel
theorem dX4_isSign_23 : decode cX4_isSign 23 = .ok (.iaload, 1) := by decide +kernel
theorem dX4_isSign_24 : decode cX4_isSign 24 = .ok (.iload_n 1, 1) := by decide +kernel
theorem dX4_isSign_25 : decode cX4_isSign 25 = .ok (.if_icmp .ne 7, 3) := by decide +kernel
theorem dX4_isSign_28 : decode cX4_isSign 28 = .ok (.iconst 1, 1) := by decide +kernel
theorem dX4_isSign_29 : decode cX4_isSign 29 = .ok (.goto 4, 3) := by decide +kernel
theorem dX4_isSign_32 : decode cX4_isSign 32 = .ok (.iconst 0, 1) := by decide +kernel
theorem dX4_isSign_33 : decode cX4_isSign 33 = .ok (.ireturn, 1) := by decide +kernel
theorem dX4_number_0 : decode cX4_number 0 = .ok (.aload_n 0, 1) := by decide +kernel
theorem dX4_number_1 : decode cX4_number 1 = .ok (.aload_n 0, 1) := by decide +kernel
theorem dX4_number_2 : decode cX4_number 2 = .ok (.getfield 215, 3) := by decide +kernel
theorem dX4_number_5 : decode cX4_number 5 = .ok (.ifCond .ne 26, 3) := by decide +kernel
theorem dX4_number_8 : decode cX4_number 8 = .ok (.aload_n 0, 1) := by decide +kernel
theorem dX4_number_9 : decode cX4_number 9 = .ok (.getfield 212, 3) := by decide +kernel
theorem dX4_number_12 : decode cX4_number 12 = .ok (.iconst 2, 1) := by decide +kernel
theorem dX4_number_13 : decode cX4_number 13 = .ok (.if_icmp .ne 18, 3) := by decide +kernel
theorem dX4_number_16 : decode cX4_number 16 = .ok (.aload_n 0, 1) := by decide +kernel
theorem dX4_number_17 : decode cX4_number 17 = .ok (.getfield 209, 3) := by decide +kernel
theorem dX4_number_20 : decode cX4_number 20 = .ok (.i2l, 1) := by decide +kernel
theorem dX4_number_21 : decode cX4_number 21 = .ok (.iload_n 1, 1) := by decide +kernel
theorem dX4_number_22 : decode cX4_number 22 = .ok (.i2l, 1) := by decide +kernel
theorem dX4_number_23 : decode cX4_number 23 = .ok (.iload_n 2, 1) := by decide +kernel
theorem dX4_number_24 : decode cX4_number 24 = .ok (.i2l, 1) := by decide +kernel
theorem dX4_number_25 : decode cX4_number 25 = .ok (.invokestatic 40, 3) := by decide +kernel
theorem dX4_number_28 : decode cX4_number 28 = .ok (.ifCond .ne 7, 3) := by decide +kernel
theorem dX4_number_31 : decode cX4_number 31 = .ok (.iconst 1, 1) := by decide +kernel
theorem dX4_number_32 : decode cX4_number 32 = .ok (.goto 4, 3) := by decide +kernel
theorem dX4_number_35 : decode cX4_number 35 = .ok (.iconst 0, 1) := by decide +kernel
theorem dX4_number_36 : decode cX4_number 36 = .ok (.putfield 215, 3) := by decide +kernel
theorem dX4_number_39 : decode cX4_number 39 = .ok (.aload_n 0, 1) := by decide +kernel
theorem dX4_number_40 : decode cX4_number 40 = .ok (.getfield 209, 3) := by decide +kernel
theorem dX4_number_43 : decode cX4_number 43 = .ok (.istore_n 3, 1) := by decide +kernel
theorem dX4_number_44 : decode cX4_number 44 = .ok (.aload_n 0, 1) := by decide +kernel
theorem dX4_number_45 : decode cX4_number 45 = .ok (.getfield 215, 3) := by decide +kernel
theorem dX4_number_48 : decode cX4_number 48 = .ok (.ifCond .ne 7, 3) := by decide +kernel
theorem dX4_number_51 : decode cX4_number 51 = .ok (.aload_n 0, 1) := by decide +kernel
theorem dX4_number_52 : decode cX4_number 52 = .ok (.invokevirtual 232, 3) := by decide +kernel
theorem dX4_number_55 : decode cX4_number 55 = .ok (.iload_n 3, 1) := by decide +kernel
theorem dX4_number_56 : decode cX4_number 56 = .ok (.ireturn, 1) := by decide +kernel
theorem dX4_kindHere_0 : decode cX4_kindHere 0 = .ok (.aload_n 0, 1) := by decide +kernel
theorem dX4_kindHere_1 : decode cX4_kindHere 1 = .ok (.ldc 235, 2) := by decide +kernel
theorem dX4_kindHere_3 : decode cX4_kindHere 3 = .ok (.invokevirtual 228, 3) := by decide +kernel
theorem dX4_kindHere_6 : decode cX4_kindHere 6 = .ok (.ifCond .eq 5, 3) := by decide +kernel
theorem dX4_kindHere_9 : decode cX4_kindHere 9 = .ok (.iconst 0, 1) := by decide +kernel
theorem dX4_kindHere_10 : decode cX4_kindHere 10 = .ok (.ireturn, 1) := by decide +kernel
theorem dX4_kindHere_11 : decode cX4_kindHere 11 = .ok (.aload_n 0, 1) := by decide +kernel
theorem dX4_kindHere_12 : decode cX4_kindHere 12 = .ok (.ldc 237, 2) := by decide +kernel
theorem dX4_kindHere_14 : decode cX4_kindHere 14 = .ok (.invokevirtual 228, 3) := by decide +kernel
theorem dX4_kindHere_17 : decode cX4_kindHere 17 = .ok (.ifCond .eq 5, 3) := by decide +kernel
theorem dX4_kindHere_20 : decode cX4_kindHere 20 = .ok (.iconst 1, 1) := by decide +kernel
theorem dX4_kindHere_21 : decode cX4_kindHere 21 = .ok (.ireturn, 1) := by decide +kernel
theorem dX4_kindHere_22 : decode cX4_kindHere 22 = .ok (.aload_n 0, 1) := by decide +kernel
theorem dX4_kindHere_23 : decode cX4_kindHere 23 = .ok (.ldc 239, 2) := by decide +kernel
theorem dX4_kindHere_25 : decode cX4_kindHere 25 = .ok (.invokevirtual 228, 3) := by decide +kernel
theorem dX4_kindHere_28 : decode cX4_kindHere 28 = .ok (.ifCond .eq 5, 3) := by decide +kernel
theorem dX4_kindHere_31 : decode cX4_kindHere 31 = .ok (.iconst 2, 1) := by decide +kernel
theorem dX4_kindHere_32 : decode cX4_kindHere 32 = .ok (.ireturn, 1) := by decide +kernel
theorem dX4_kindHere_33 : decode cX4_kindHere 33 = .ok (.aload_n 0, 1) := by decide +kernel
theorem dX4_kindHere_34 : decode cX4_kindHere 34 = .ok (.ldc 241, 2) := by decide +kernel
theorem dX4_kindHere_36 : decode cX4_kindHere 36 = .ok (.invokevirtual 228, 3) := by decide +kernel
theorem dX4_kindHere_39 : decode cX4_kindHere 39 = .ok (.ifCond .eq 5, 3) := by decide +kernel
theorem dX4_kindHere_42 : decode cX4_kindHere 42 = .ok (.iconst 3, 1) := by decide +kernel
theorem dX4_kindHere_43 : decode cX4_kindHere 43 = .ok (.ireturn, 1) := by decide +kernel
theorem dX4_kindHere_44 : decode cX4_kindHere 44 = .ok (.aload_n 0, 1) := by decide +kernel
theorem dX4_kindHere_45 : decode cX4_kindHere 45 = .ok (.ldc 243, 2) := by decide +kernel
theorem dX4_kindHere_47 : decode cX4_kindHere 47 = .ok (.invokevirtual 228, 3) := by decide +kernel
theorem dX4_kindHere_50 : decode cX4_kindHere 50 = .ok (.ifCond .eq 5, 3) := by decide +kernel
theorem dX4_kindHere_53 : decode cX4_kindHere 53 = .ok (.iconst 4, 1) := by decide +kernel
theorem dX4_kindHere_54 : decode cX4_kindHere 54 = .ok (.ireturn, 1) := by decide +kernel
theorem dX4_kindHere_55 : decode cX4_kindHere 55 = .ok (.aload_n 0, 1) := by decide +kernel
theorem dX4_kindHere_56 : decode cX4_kindHere 56 = .ok (.ldc 244, 2) := by decide +kernel
theorem dX4_kindHere_58 : decode cX4_kindHere 58 = .ok (.invokevirtual 228, 3) := by decide +kernel
theorem dX4_kindHere_61 : decode cX4_kindHere 61 = .ok (.ifCond .eq 7, 3) := by decide +kernel
theorem dX4_kindHere_64 : decode cX4_kindHere 64 = .ok (.iconst 5, 1) := by decide +kernel
theorem dX4_kindHere_65 : decode cX4_kindHere 65 = .ok (.goto 18, 3) := by decide +kernel
theorem dX4_kindHere_68 : decode cX4_kindHere 68 = .ok (.aload_n 0, 1) := by decide +kernel
theorem dX4_kindHere_69 : decode cX4_kindHere 69 = .ok (.ldc 246, 2) := by decide +kernel
theorem dX4_kindHere_71 : decode cX4_kindHere 71 = .ok (.invokevirtual 228, 3) := by decide +kernel
theorem dX4_kindHere_74 : decode cX4_kindHere 74 = .ok (.ifCond .eq 8, 3) := by decide +kernel
theorem dX4_kindHere_77 : decode cX4_kindHere 77 = .ok (.bipush 6, 2) := by decide +kernel
theorem dX4_kindHere_79 : decode cX4_kindHere 79 = .ok (.goto 4, 3) := by decide +kernel
theorem dX4_kindHere_82 : decode cX4_kindHere 82 = .ok (.iconst (-1), 1) := by decide +kernel
theorem dX4_kindHere_83 : decode cX4_kindHere 83 = .ok (.ireturn, 1) := by decide +kernel
theorem dX4_citizenItem_0 : decode cX4_citizenItem 0 = .ok (.aload_n 0, 1) := by decide +kernel
theorem dX4_citizenItem_1 : decode cX4_citizenItem 1 = .ok (.aload_n 0, 1) := by decide +kernel
theorem dX4_citizenItem_2 : decode cX4_citizenItem 2 = .ok (.getfield 215, 3) := by decide +kernel
theorem dX4_citizenItem_5 : decode cX4_citizenItem 5 = .ok (.ifCond .ne 15, 3) := by decide +kernel
theorem dX4_citizenItem_8 : decode cX4_citizenItem 8 = .ok (.aload_n 0, 1) := by decide +kernel
theorem dX4_citizenItem_9 : decode cX4_citizenItem 9 = .ok (.getfield 9, 3) := by decide +kernel
theorem dX4_citizenItem_12 : decode cX4_citizenItem 12 = .ok (.bipush 8, 2) := by decide +kernel
theorem dX4_citizenItem_14 : decode cX4_citizenItem 14 = .ok (.iaload, 1) := by decide +kernel
theorem dX4_citizenItem_15 : decode cX4_citizenItem 15 = .ok (.bipush 10, 2) := by decide +kernel
theorem dX4_citizenItem_17 : decode cX4_citizenItem 17 = .ok (.if_icmp .ne 7, 3) := by decide +kernel
theorem dX4_citizenItem_20 : decode cX4_citizenItem 20 = .ok (.iconst 1, 1) := by decide +kernel
theorem dX4_citizenItem_21 : decode cX4_citizenItem 21 = .ok (.goto 4, 3) := by decide +kernel
theorem dX4_citizenItem_24 : decode cX4_citizenItem 24 = .ok (.iconst 0, 1) := by decide +kernel
theorem dX4_citizenItem_25 : decode cX4_citizenItem 25 = .ok (.putfield 215, 3) := by decide +kernel
theorem dX4_citizenItem_28 : decode cX4_citizenItem 28 = .ok (.aload_n 0, 1) := by decide +kernel
theorem dX4_citizenItem_29 : decode cX4_citizenItem 29 = .ok (.getfield 215, 3) := by decide +kernel
theorem dX4_citizenItem_32 : decode cX4_citizenItem 32 = .ok (.ifCond .eq 4, 3) := by decide +kernel
theorem dX4_citizenItem_35 : decode cX4_citizenItem 35 = .ok (.return_, 1) := by decide +kernel
theorem dX4_citizenItem_36 : decode cX4_citizenItem 36 = .ok (.aload_n 0, 1) := by decide +kernel
theorem dX4_citizenItem_37 : decode cX4_citizenItem 37 = .ok (.invokevirtual 232, 3) := by decide +kernel
theorem dX4_citizenItem_40 : decode cX4_citizenItem 40 = .ok (.aload_n 0, 1) := by decide +kernel
theorem dX4_citizenItem_41 : decode cX4_citizenItem 41 = .ok (.ldc 248, 2) := by decide +kernel
theorem dX4_citizenItem_43 : decode cX4_citizenItem 43 = .ok (.invokevirtual 250, 3) := by decide +kernel
theorem dX4_citizenItem_46 : decode cX4_citizenItem 46 = .ok (.ifCond .eq 13, 3) := by decide +kernel
theorem dX4_citizenItem_49 : decode cX4_citizenItem 49 = .ok (.aload_n 0, 1) := by decide +kernel
theorem dX4_citizenItem_50 : decode cX4_citizenItem 50 = .ok (.iconst 0, 1) := by decide +kernel
theorem dX4_citizenItem_51 : decode cX4_citizenItem 51 = .ok (.bipush 9, 2) := by decide +kernel
theorem dX4_citizenItem_53 : decode cX4_citizenItem 53 = .ok (.invokevirtual 253, 3) := by decide +kernel
theorem dX4_citizenItem_56 : decode cX4_citizenItem 56 = .ok (.goto 4, 3) := by decide +kernel
theorem dX4_citizenItem_59 : decode cX4_citizenItem 59 = .ok (.iconst 3, 1) := by decide +kernel
theorem dX4_citizenItem_60 : decode cX4_citizenItem 60 = .ok (.istore_n 2, 1) := by decide +kernel
theorem dX4_citizenItem_61 : decode cX4_citizenItem 61 = .ok (.aload_n 0, 1) := by decide +kernel
theorem dX4_citizenItem_62 : decode cX4_citizenItem 62 = .ok (.ldc 255, 2) := by decide +kernel
theorem dX4_citizenItem_64 : decode cX4_citizenItem 64 = .ok (.invokevirtual 250, 3) := by decide +kernel
theorem dX4_citizenItem_67 : decode cX4_citizenItem 67 = .ok (.ifCond .eq 12, 3) := by decide +kernel
theorem dX4_citizenItem_70 : decode cX4_citizenItem 70 = .ok (.aload_n 0, 1) := by decide +kernel
theorem dX4_citizenItem_71 : decode cX4_citizenItem 71 = .ok (.iconst 0, 1) := by decide +kernel
theorem dX4_citizenItem_72 : decode cX4_citizenItem 72 = .ok (.iconst 3, 1) := by decide +kernel
theorem dX4_citizenItem_73 : decode cX4_citizenItem 73 = .ok (.invokevirtual 253, 3) := by decide +kernel
theorem dX4_citizenItem_76 : decode cX4_citizenItem 76 = .ok (.goto 4, 3) := by decide +kernel
theorem dX4_citizenItem_79 : decode cX4_citizenItem 79 = .ok (.iconst 0, 1) := by decide +kernel
theorem dX4_citizenItem_80 : decode cX4_citizenItem 80 = .ok (.istore_n 3, 1) := by decide +kernel
theorem dX4_citizenItem_81 : decode cX4_citizenItem 81 = .ok (.aload_n 0, 1) := by decide +kernel
theorem dX4_citizenItem_82 : decode cX4_citizenItem 82 = .ok (.ldc_w 257, 3) := by decide +kernel
theorem dX4_citizenItem_85 : decode cX4_citizenItem 85 = .ok (.invokevirtual 250, 3) := by decide +kernel
theorem dX4_citizenItem_88 : decode cX4_citizenItem 88 = .ok (.ifCond .eq 14, 3) := by decide +kernel
theorem dX4_citizenItem_91 : decode cX4_citizenItem 91 = .ok (.aload_n 0, 1) := by decide +kernel
theorem dX4_citizenItem_92 : decode cX4_citizenItem 92 = .ok (.iconst 0, 1) := by decide +kernel
theorem dX4_citizenItem_93 : decode cX4_citizenItem 93 = .ok (.sipush 9999, 3) := by decide +kernel
theorem dX4_citizenItem_96 : decode cX4_citizenItem 96 = .ok (.invokevirtual 253, 3) := by decide +kernel
theorem dX4_citizenItem_99 : decode cX4_citizenItem 99 = .ok (.goto 5, 3) := by decide +kernel
theorem dX4_citizenItem_102 : decode cX4_citizenItem 102 = .ok (.bipush 10, 2) := by decide +kernel
theorem dX4_citizenItem_104 : decode cX4_citizenItem 104 = .ok (.istore 4, 2) := by decide +kernel
theorem dX4_citizenItem_106 : decode cX4_citizenItem 106 = .ok (.aload_n 0, 1) := by decide +kernel
theorem dX4_citizenItem_107 : decode cX4_citizenItem 107 = .ok (.ldc_w 259, 3) := by decide +kernel
theorem dX4_citizenItem_110 : decode cX4_citizenItem 110 = .ok (.invokevirtual 250, 3) := by decide +kernel
theorem dX4_citizenItem_113 : decode cX4_citizenItem 113 = .ok (.ifCond .eq 7, 3) := by decide +kernel
theorem dX4_citizenItem_116 : decode cX4_citizenItem 116 = .ok (.iconst 1, 1) := by decide +kernel
theorem dX4_citizenItem_117 : decode cX4_citizenItem 117 = .ok (.goto 18, 3) := by decide +kernel
theorem dX4_citizenItem_120 : decode cX4_citizenItem 120 = .ok (.aload_n 0, 1) := by decide +kernel
theorem dX4_citizenItem_121 : decode cX4_citizenItem 121 = .ok (.ldc_w 261, 3) := by decide +kernel
theorem dX4_citizenItem_124 : decode cX4_citizenItem 124 = .ok (.invokevirtual 250, 3) := by decide +kernel
theorem dX4_citizenItem_127 : decode cX4_citizenItem 127 = .ok (.ifCond .eq 7, 3) := by decide +kernel
theorem dX4_citizenItem_130 : decode cX4_citizenItem 130 = .ok (.iconst 2, 1) := by decide +kernel
theorem dX4_citizenItem_131 : decode cX4_citizenItem 131 = .ok (.goto 4, 3) := by decide +kernel
theorem dX4_citizenItem_134 : decode cX4_citizenItem 134 = .ok (.iconst 0, 1) := by decide +kernel
theorem dX4_citizenItem_135 : decode cX4_citizenItem 135 = .ok (.istore 5, 2) := by decide +kernel
theorem dX4_citizenItem_137 : decode cX4_citizenItem 137 = .ok (.aload_n 0, 1) := by decide +kernel
theorem dX4_citizenItem_138 : decode cX4_citizenItem 138 = .ok (.getfield 215, 3) := by decide +kernel
theorem dX4_citizenItem_141 : decode cX4_citizenItem 141 = .ok (.ifCond .ne 15, 3) := by decide +kernel
theorem dX4_citizenItem_144 : decode cX4_citizenItem 144 = .ok (.aload_n 0, 1) := by decide +kernel
theorem dX4_citizenItem_145 : decode cX4_citizenItem 145 = .ok (.iload_n 1, 1) := by decide +kernel
theorem dX4_citizenItem_146 : decode cX4_citizenItem 146 = .ok (.iload_n 2, 1) := by decide +kernel
theorem dX4_citizenItem_147 : decode cX4_citizenItem 147 = .ok (.iload_n 3, 1) := by decide +kernel
theorem dX4_citizenItem_148 : decode cX4_citizenItem 148 = .ok (.iload 4, 2) := by decide +kernel
theorem dX4_citizenItem_150 : decode cX4_citizenItem 150 = .ok (.iload 5, 2) := by decide +kernel
theorem dX4_citizenItem_152 : decode cX4_citizenItem 152 = .ok (.invokevirtual 59, 3) := by decide +kernel
theorem dX4_citizenItem_155 : decode cX4_citizenItem 155 = .ok (.pop, 1) := by decide +kernel
theorem dX4_citizenItem_156 : decode cX4_citizenItem 156 = .ok (.return_, 1) := by decide +kernel
theorem dX4_ruleHere_0 : decode cX4_ruleHere 0 = .ok (.aload_n 0, 1) := by decide +kernel
theorem dX4_ruleHere_1 : decode cX4_ruleHere 1 = .ok (.ldc_w 263, 3) := by decide +kernel
theorem dX4_ruleHere_4 : decode cX4_ruleHere 4 = .ok (.invokevirtual 228, 3) := by decide +kernel
theorem dX4_ruleHere_7 : decode cX4_ruleHere 7 = .ok (.ifCond .eq 5, 3) := by decide +kernel
theorem dX4_ruleHere_10 : decode cX4_ruleHere 10 = .ok (.iconst 0, 1) := by decide +kernel
theorem dX4_ruleHere_11 : decode cX4_ruleHere 11 = .ok (.ireturn, 1) := by decide +kernel
theorem dX4_ruleHere_12 : decode cX4_ruleHere 12 = .ok (.aload_n 0, 1) := by decide +kernel
theorem dX4_ruleHere_13 : decode cX4_ruleHere 13 = .ok (.ldc_w 265, 3) := by decide +kernel
theorem dX4_ruleHere_16 : decode cX4_ruleHere 16 = .ok (.invokevirtual 228, 3) := by decide +kernel
theorem dX4_ruleHere_19 : decode cX4_ruleHere 19 = .ok (.ifCond .eq 5, 3) := by decide +kernel
theorem dX4_ruleHere_22 : decode cX4_ruleHere 22 = .ok (.iconst 1, 1) := by decide +kernel
theorem dX4_ruleHere_23 : decode cX4_ruleHere 23 = .ok (.ireturn, 1) := by decide +kernel
theorem dX4_ruleHere_24 : decode cX4_ruleHere 24 = .ok (.aload_n 0, 1) := by decide +kernel
theorem dX4_ruleHere_25 : decode cX4_ruleHere 25 = .ok (.ldc_w 267, 3) := by decide +kernel
theorem dX4_ruleHere_28 : decode cX4_ruleHere 28 = .ok (.invokevirtual 228, 3) := by decide +kernel
theorem dX4_ruleHere_31 : decode cX4_ruleHere 31 = .ok (.ifCond .eq 7, 3) := by decide +kernel
theorem dX4_ruleHere_34 : decode cX4_ruleHere 34 = .ok (.iconst 2, 1) := by decide +kernel
theorem dX4_ruleHere_35 : decode cX4_ruleHere 35 = .ok (.goto 18, 3) := by decide +kernel
theorem dX4_ruleHere_38 : decode cX4_ruleHere 38 = .ok (.aload_n 0, 1) := by decide +kernel
theorem dX4_ruleHere_39 : decode cX4_ruleHere 39 = .ok (.ldc_w 269, 3) := by decide +kernel
theorem dX4_ruleHere_42 : decode cX4_ruleHere 42 = .ok (.invokevirtual 228, 3) := by decide +kernel
theorem dX4_ruleHere_45 : decode cX4_ruleHere 45 = .ok (.ifCond .eq 7, 3) := by decide +kernel
theorem dX4_ruleHere_48 : decode cX4_ruleHere 48 = .ok (.iconst 3, 1) := by decide +kernel
theorem dX4_ruleHere_49 : decode cX4_ruleHere 49 = .ok (.goto 4, 3) := by decide +kernel
theorem dX4_ruleHere_52 : decode cX4_ruleHere 52 = .ok (.iconst (-1), 1) := by decide +kernel
theorem dX4_ruleHere_53 : decode cX4_ruleHere 53 = .ok (.ireturn, 1) := by decide +kernel
theorem dX4_ruleItem_0 : decode cX4_ruleItem 0 = .ok (.aload_n 0, 1) := by decide +kernel
theorem dX4_ruleItem_1 : decode cX4_ruleItem 1 = .ok (.aload_n 0, 1) := by decide +kernel
theorem dX4_ruleItem_2 : decode cX4_ruleItem 2 = .ok (.getfield 215, 3) := by decide +kernel
theorem dX4_ruleItem_5 : decode cX4_ruleItem 5 = .ok (.ifCond .ne 7, 3) := by decide +kernel
theorem dX4_ruleItem_8 : decode cX4_ruleItem 8 = .ok (.iload_n 1, 1) := by decide +kernel
theorem dX4_ruleItem_9 : decode cX4_ruleItem 9 = .ok (.ifCond .ge 7, 3) := by decide +kernel
theorem dX4_ruleItem_12 : decode cX4_ruleItem 12 = .ok (.iconst 1, 1) := by decide +kernel
theorem dX4_ruleItem_13 : decode cX4_ruleItem 13 = .ok (.goto 4, 3) := by decide +kernel
theorem dX4_ruleItem_16 : decode cX4_ruleItem 16 = .ok (.iconst 0, 1) := by decide +kernel
theorem dX4_ruleItem_17 : decode cX4_ruleItem 17 = .ok (.putfield 215, 3) := by decide +kernel
theorem dX4_ruleItem_20 : decode cX4_ruleItem 20 = .ok (.aload_n 0, 1) := by decide +kernel
theorem dX4_ruleItem_21 : decode cX4_ruleItem 21 = .ok (.getfield 215, 3) := by decide +kernel
theorem dX4_ruleItem_24 : decode cX4_ruleItem 24 = .ok (.ifCond .eq 4, 3) := by decide +kernel
theorem dX4_ruleItem_27 : decode cX4_ruleItem 27 = .ok (.return_, 1) := by decide +kernel
theorem dX4_ruleItem_28 : decode cX4_ruleItem 28 = .ok (.aload_n 0, 1) := by decide +kernel
theorem dX4_ruleItem_29 : decode cX4_ruleItem 29 = .ok (.invokevirtual 232, 3) := by decide +kernel
theorem dX4_ruleItem_32 : decode cX4_ruleItem 32 = .ok (.aload_n 0, 1) := by decide +kernel
theorem dX4_ruleItem_33 : decode cX4_ruleItem 33 = .ok (.iload_n 1, 1) := by decide +kernel
theorem dX4_ruleItem_34 : decode cX4_ruleItem 34 = .ok (.iconst 2, 1) := by decide +kernel
theorem dX4_ruleItem_35 : decode cX4_ruleItem 35 = .ok (.if_icmp .ne 7, 3) := by decide +kernel
theorem dX4_ruleItem_38 : decode cX4_ruleItem 38 = .ok (.iconst 1, 1) := by decide +kernel
theorem dX4_ruleItem_39 : decode cX4_ruleItem 39 = .ok (.goto 4, 3) := by decide +kernel
theorem dX4_ruleItem_42 : decode cX4_ruleItem 42 = .ok (.iconst 0, 1) := by decide +kernel
theorem dX4_ruleItem_43 : decode cX4_ruleItem 43 = .ok (.iload_n 1, 1) := by decide +kernel
theorem dX4_ruleItem_44 : decode cX4_ruleItem 44 = .ok (.iconst 3, 1) := by decide +kernel
theorem dX4_ruleItem_45 : decode cX4_ruleItem 45 = .ok (.if_icmp .ne 7, 3) := by decide +kernel
theorem dX4_ruleItem_48 : decode cX4_ruleItem 48 = .ok (.iconst 3, 1) := by decide +kernel
theorem dX4_ruleItem_49 : decode cX4_ruleItem 49 = .ok (.goto 5, 3) := by decide +kernel
theorem dX4_ruleItem_52 : decode cX4_ruleItem 52 = .ok (.bipush 10, 2) := by decide +kernel
theorem dX4_ruleItem_54 : decode cX4_ruleItem 54 = .ok (.invokevirtual 253, 3) := by decide +kernel
theorem dX4_ruleItem_57 : decode cX4_ruleItem 57 = .ok (.istore_n 2, 1) := by decide +kernel
theorem dX4_ruleItem_58 : decode cX4_ruleItem 58 = .ok (.aload_n 0, 1) := by decide +kernel
theorem dX4_ruleItem_59 : decode cX4_ruleItem 59 = .ok (.getfield 215, 3) := by decide +kernel
theorem dX4_ruleItem_62 : decode cX4_ruleItem 62 = .ok (.ifCond .ne 10, 3) := by decide +kernel
theorem dX4_ruleItem_65 : decode cX4_ruleItem 65 = .ok (.aload_n 0, 1) := by decide +kernel
theorem dX4_ruleItem_66 : decode cX4_ruleItem 66 = .ok (.getfield 9, 3) := by decide +kernel
theorem dX4_ruleItem_69 : decode cX4_ruleItem 69 = .ok (.iload_n 1, 1) := by decide +kernel
theorem dX4_ruleItem_70 : decode cX4_ruleItem 70 = .ok (.iload_n 2, 1) := by decide +kernel
theorem dX4_ruleItem_71 : decode cX4_ruleItem 71 = .ok (.iastore, 1) := by decide +kernel
theorem dX4_ruleItem_72 : decode cX4_ruleItem 72 = .ok (.return_, 1) := by decide +kernel
theorem dX4_item_0 : decode cX4_item 0 = .ok (.aload_n 0, 1) := by decide +kernel
theorem dX4_item_1 : decode cX4_item 1 = .ok (.invokevirtual 271, 3) := by decide +kernel
theorem dX4_item_4 : decode cX4_item 4 = .ok (.istore_n 1, 1) := by decide +kernel
theorem dX4_item_5 : decode cX4_item 5 = .ok (.iload_n 1, 1) := by decide +kernel
theorem dX4_item_6 : decode cX4_item 6 = .ok (.ifCond .lt 11, 3) := by decide +kernel
theorem dX4_item_9 : decode cX4_item 9 = .ok (.aload_n 0, 1) := by decide +kernel
theorem dX4_item_10 : decode cX4_item 10 = .ok (.iload_n 1, 1) := by decide +kernel
theorem dX4_item_11 : decode cX4_item 11 = .ok (.invokevirtual 274, 3) := by decide +kernel
theorem dX4_item_14 : decode cX4_item 14 = .ok (.goto 51, 3) := by decide +kernel
theorem dX4_item_17 : decode cX4_item 17 = .ok (.aload_n 0, 1) := by decide +kernel
theorem dX4_item_18 : decode cX4_item 18 = .ok (.ldc_w 277, 3) := by decide +kernel
theorem dX4_item_21 : decode cX4_item 21 = .ok (.invokevirtual 250, 3) := by decide +kernel
theorem dX4_item_24 : decode cX4_item 24 = .ok (.ifCond .eq 13, 3) := by decide +kernel
theorem dX4_item_27 : decode cX4_item 27 = .ok (.aload_n 0, 1) := by decide +kernel
theorem dX4_item_28 : decode cX4_item 28 = .ok (.getfield 9, 3) := by decide +kernel
theorem dX4_item_31 : decode cX4_item 31 = .ok (.iconst 4, 1) := by decide +kernel
theorem dX4_item_32 : decode cX4_item 32 = .ok (.iconst 1, 1) := by decide +kernel
theorem dX4_item_33 : decode cX4_item 33 = .ok (.iastore, 1) := by decide +kernel
theorem dX4_item_34 : decode cX4_item 34 = .ok (.goto 31, 3) := by decide +kernel
theorem dX4_item_37 : decode cX4_item 37 = .ok (.aload_n 0, 1) := by decide +kernel
theorem dX4_item_38 : decode cX4_item 38 = .ok (.ldc_w 279, 3) := by decide +kernel
theorem dX4_item_41 : decode cX4_item 41 = .ok (.invokevirtual 250, 3) := by decide +kernel
theorem dX4_item_44 : decode cX4_item 44 = .ok (.ifCond .eq 13, 3) := by decide +kernel
theorem dX4_item_47 : decode cX4_item 47 = .ok (.aload_n 0, 1) := by decide +kernel
theorem dX4_item_48 : decode cX4_item 48 = .ok (.getfield 9, 3) := by decide +kernel
theorem dX4_item_51 : decode cX4_item 51 = .ok (.iconst 4, 1) := by decide +kernel
theorem dX4_item_52 : decode cX4_item 52 = .ok (.iconst 0, 1) := by decide +kernel
theorem dX4_item_53 : decode cX4_item 53 = .ok (.iastore, 1) := by decide +kernel
theorem dX4_item_54 : decode cX4_item 54 = .ok (.goto 11, 3) := by decide +kernel
theorem dX4_item_57 : decode cX4_item 57 = .ok (.aload_n 0, 1) := by decide +kernel
theorem dX4_item_58 : decode cX4_item 58 = .ok (.aload_n 0, 1) := by decide +kernel
theorem dX4_item_59 : decode cX4_item 59 = .ok (.invokevirtual 281, 3) := by decide +kernel
theorem dX4_item_62 : decode cX4_item 62 = .ok (.invokevirtual 284, 3) := by decide +kernel
theorem dX4_item_65 : decode cX4_item 65 = .ok (.return_, 1) := by decide +kernel
theorem dX4_text_0 : decode cX4_text 0 = .ok (.aload_n 0, 1) := by decide +kernel
theorem dX4_text_1 : decode cX4_text 1 = .ok (.getfield 9, 3) := by decide +kernel
theorem dX4_text_4 : decode cX4_text 4 = .ok (.aload_n 0, 1) := by decide +kernel
theorem dX4_text_5 : decode cX4_text 5 = .ok (.getfield 16, 3) := by decide +kernel
theorem dX4_text_8 : decode cX4_text 8 = .ok (.invokestatic 123, 3) := by decide +kernel
theorem dX4_text_11 : decode cX4_text 11 = .ok (.aload_n 0, 1) := by decide +kernel
theorem dX4_text_12 : decode cX4_text 12 = .ok (.iconst 0, 1) := by decide +kernel
theorem dX4_text_13 : decode cX4_text 13 = .ok (.putfield 200, 3) := by decide +kernel
theorem dX4_text_16 : decode cX4_text 16 = .ok (.aload_n 0, 1) := by decide +kernel
theorem dX4_text_17 : decode cX4_text 17 = .ok (.iconst 0, 1) := by decide +kernel
theorem dX4_text_18 : decode cX4_text 18 = .ok (.putfield 215, 3) := by decide +kernel
theorem dX4_text_21 : decode cX4_text 21 = .ok (.aload_n 0, 1) := by decide +kernel
theorem dX4_text_22 : decode cX4_text 22 = .ok (.invokevirtual 232, 3) := by decide +kernel
theorem dX4_text_25 : decode cX4_text 25 = .ok (.iconst 0, 1) := by decide +kernel
theorem dX4_text_26 : decode cX4_text 26 = .ok (.istore_n 1, 1) := by decide +kernel
theorem dX4_text_27 : decode cX4_text 27 = .ok (.iconst 1, 1) := by decide +kernel
theorem dX4_text_28 : decode cX4_text 28 = .ok (.istore_n 2, 1) := by decide +kernel
theorem dX4_text_29 : decode cX4_text 29 = .ok (.iload_n 2, 1) := by decide +kernel
theorem dX4_text_30 : decode cX4_text 30 = .ok (.ifCond .eq 28, 3) := by decide +kernel
theorem dX4_text_33 : decode cX4_text 33 = .ok (.aload_n 0, 1) := by decide +kernel
theorem dX4_text_34 : decode cX4_text 34 = .ok (.invokevirtual 287, 3) := by decide +kernel
theorem dX4_text_37 : decode cX4_text 37 = .ok (.iinc 1 1, 3) := by decide +kernel
theorem dX4_text_40 : decode cX4_text 40 = .ok (.aload_n 0, 1) := by decide +kernel
theorem dX4_text_41 : decode cX4_text 41 = .ok (.bipush 59, 2) := by decide +kernel
theorem dX4_text_43 : decode cX4_text 43 = .ok (.invokevirtual 290, 3) := by decide +kernel
theorem dX4_text_46 : decode cX4_text 46 = .ok (.istore_n 2, 1) := by decide +kernel
theorem dX4_text_47 : decode cX4_text 47 = .ok (.iload_n 2, 1) := by decide +kernel
theorem dX4_text_48 : decode cX4_text 48 = .ok (.ifCond .eq (-19), 3) := by decide +kernel
theorem dX4_text_51 : decode cX4_text 51 = .ok (.aload_n 0, 1) := by decide +kernel
theorem dX4_text_52 : decode cX4_text 52 = .ok (.invokevirtual 232, 3) := by decide +kernel
theorem dX4_text_55 : decode cX4_text 55 = .ok (.goto (-26), 3) := by decide +kernel
theorem dX4_text_58 : decode cX4_text 58 = .ok (.aload_n 0, 1) := by decide +kernel
theorem dX4_text_59 : decode cX4_text 59 = .ok (.aload_n 0, 1) := by decide +kernel
theorem dX4_text_60 : decode cX4_text 60 = .ok (.getfield 215, 3) := by decide +kernel
theorem dX4_text_63 : decode cX4_text 63 = .ok (.ifCond .ne 10, 3) := by decide +kernel
theorem dX4_text_66 : decode cX4_text 66 = .ok (.aload_n 0, 1) := by decide +kernel
theorem dX4_text_67 : decode cX4_text 67 = .ok (.getfield 212, 3) := by decide +kernel
theorem dX4_text_70 : decode cX4_text 70 = .ok (.ifCond .eq 7, 3) := by decide +kernel
theorem dX4_text_73 : decode cX4_text 73 = .ok (.iconst 1, 1) := by decide +kernel
theorem dX4_text_74 : decode cX4_text 74 = .ok (.goto 4, 3) := by decide +kernel
theorem dX4_text_77 : decode cX4_text 77 = .ok (.iconst 0, 1) := by decide +kernel
theorem dX4_text_78 : decode cX4_text 78 = .ok (.putfield 215, 3) := by decide +kernel
theorem dX4_text_81 : decode cX4_text 81 = .ok (.aload_n 0, 1) := by decide +kernel
theorem dX4_text_82 : decode cX4_text 82 = .ok (.getfield 203, 3) := by decide +kernel
theorem dX4_text_85 : decode cX4_text 85 = .ok (.istore_n 3, 1) := by decide +kernel
theorem dX4_text_86 : decode cX4_text 86 = .ok (.aload_n 0, 1) := by decide +kernel
theorem dX4_text_87 : decode cX4_text 87 = .ok (.iconst 0, 1) := by decide +kernel
theorem dX4_text_88 : decode cX4_text 88 = .ok (.putfield 197, 3) := by decide +kernel
theorem dX4_text_91 : decode cX4_text 91 = .ok (.aload_n 0, 1) := by decide +kernel
theorem dX4_text_92 : decode cX4_text 92 = .ok (.getfield 215, 3) := by decide +kernel
theorem dX4_text_95 : decode cX4_text 95 = .ok (.ifCond .ne 5, 3) := by decide +kernel
theorem dX4_text_98 : decode cX4_text 98 = .ok (.iload_n 1, 1) := by decide +kernel
theorem dX4_text_99 : decode cX4_text 99 = .ok (.ireturn, 1) := by decide +kernel
theorem dX4_text_100 : decode cX4_text 100 = .ok (.aload_n 0, 1) := by decide +kernel
theorem dX4_text_101 : decode cX4_text 101 = .ok (.getfield 16, 3) := by decide +kernel
theorem dX4_text_104 : decode cX4_text 104 = .ok (.aload_n 0, 1) := by decide +kernel
theorem dX4_text_105 : decode cX4_text 105 = .ok (.getfield 9, 3) := by decide +kernel
theorem dX4_text_108 : decode cX4_text 108 = .ok (.invokestatic 123, 3) := by decide +kernel
theorem dX4_text_111 : decode cX4_text 111 = .ok (.iconst (-1), 1) := by decide +kernel
theorem dX4_text_112 : decode cX4_text 112 = .ok (.iload_n 3, 1) := by decide +kernel
theorem dX4_text_113 : decode cX4_text 113 = .ok (.isub, 1) := by decide +kernel
theorem dX4_text_114 : decode cX4_text 114 = .ok (.ireturn, 1) := by decide +kernel
theorem dX4_hold_0 : decode cX4_hold 0 = .ok (.iload_n 1, 1) := by decide +kernel
theorem dX4_hold_1 : decode cX4_hold 1 = .ok (.i2l, 1) := by decide +kernel
theorem dX4_hold_2 : decode cX4_hold 2 = .ok (.lconst 0, 1) := by decide +kernel
theorem dX4_hold_3 : decode cX4_hold 3 = .ok (.ldc2_w 46, 3) := by decide +kernel
theorem dX4_hold_6 : decode cX4_hold 6 = .ok (.invokestatic 40, 3) := by decide +kernel
theorem dX4_hold_9 : decode cX4_hold 9 = .ok (.ifCond .eq 16, 3) := by decide +kernel
theorem dX4_hold_12 : decode cX4_hold 12 = .ok (.iload_n 2, 1) := by decide +kernel
theorem dX4_hold_13 : decode cX4_hold 13 = .ok (.iconst (-1), 1) := by decide +kernel
theorem dX4_hold_14 : decode cX4_hold 14 = .ok (.if_icmp .eq 18, 3) := by decide +kernel
theorem dX4_hold_17 : decode cX4_hold 17 = .ok (.aload_n 0, 1) := by decide +kernel
theorem dX4_hold_18 : decode cX4_hold 18 = .ok (.iload_n 2, 1) := by decide +kernel
theorem dX4_hold_19 : decode cX4_hold 19 = .ok (.invokevirtual 67, 3) := by decide +kernel
theorem dX4_hold_22 : decode cX4_hold 22 = .ok (.ifCond .ne 10, 3) := by decide +kernel
theorem dX4_hold_25 : decode cX4_hold 25 = .ok (.aload_n 0, 1) := by decide +kernel
theorem dX4_hold_26 : decode cX4_hold 26 = .ok (.ldc 34, 2) := by decide +kernel
theorem dX4_hold_28 : decode cX4_hold 28 = .ok (.invokevirtual 36, 3) := by decide +kernel
theorem dX4_hold_31 : decode cX4_hold 31 = .ok (.ireturn, 1) := by decide +kernel
theorem dX4_hold_32 : decode cX4_hold 32 = .ok (.aload_n 0, 1) := by decide +kernel
theorem dX4_hold_33 : decode cX4_hold 33 = .ok (.getfield 9, 3) := by decide +kernel
theorem dX4_hold_36 : decode cX4_hold 36 = .ok (.bipush 69, 2) := by decide +kernel
theorem dX4_hold_38 : decode cX4_hold 38 = .ok (.iload_n 1, 1) := by decide +kernel
theorem dX4_hold_39 : decode cX4_hold 39 = .ok (.iadd, 1) := by decide +kernel
theorem dX4_hold_40 : decode cX4_hold 40 = .ok (.iload_n 2, 1) := by decide +kernel
theorem dX4_hold_41 : decode cX4_hold 41 = .ok (.iastore, 1) := by decide +kernel
theorem dX4_hold_42 : decode cX4_hold 42 = .ok (.iconst 1, 1) := by decide +kernel
theorem dX4_hold_43 : decode cX4_hold 43 = .ok (.ireturn, 1) := by decide +kernel
theorem dX4_above_0 : decode cX4_above 0 = .ok (.iload_n 0, 1) := by decide +kernel
theorem dX4_above_1 : decode cX4_above 1 = .ok (.tableswitch 51 0 6 #[43, 51, 51, 45, 47, 51, 49], 43) := by decide +kernel
theorem dX4_above_44 : decode cX4_above 44 = .ok (.iconst (-1), 1) := by decide +kernel
theorem dX4_above_45 : decode cX4_above 45 = .ok (.ireturn, 1) := by decide +kernel
theorem dX4_above_46 : decode cX4_above 46 = .ok (.iconst 2, 1) := by decide +kernel
theorem dX4_above_47 : decode cX4_above 47 = .ok (.ireturn, 1) := by decide +kernel
theorem dX4_above_48 : decode cX4_above 48 = .ok (.iconst 1, 1) := by decide +kernel
theorem dX4_above_49 : decode cX4_above 49 = .ok (.ireturn, 1) := by decide +kernel
theorem dX4_above_50 : decode cX4_above 50 = .ok (.iconst 5, 1) := by decide +kernel
theorem dX4_above_51 : decode cX4_above 51 = .ok (.ireturn, 1) := by decide +kernel
theorem dX4_above_52 : decode cX4_above 52 = .ok (.iconst 0, 1) := by decide +kernel
theorem dX4_above_53 : decode cX4_above 53 = .ok (.ireturn, 1) := by decide +kernel
theorem dX4_as_0 : decode cX4_as 0 = .ok (.iload_n 1, 1) := by decide +kernel
theorem dX4_as_1 : decode cX4_as 1 = .ok (.i2l, 1) := by decide +kernel
theorem dX4_as_2 : decode cX4_as 2 = .ok (.lconst 0, 1) := by decide +kernel
theorem dX4_as_3 : decode cX4_as 3 = .ok (.ldc2_w 46, 3) := by decide +kernel
theorem dX4_as_6 : decode cX4_as 6 = .ok (.invokestatic 40, 3) := by decide +kernel
theorem dX4_as_9 : decode cX4_as 9 = .ok (.ifCond .eq 10, 3) := by decide +kernel
theorem dX4_as_12 : decode cX4_as 12 = .ok (.iload_n 2, 1) := by decide +kernel
theorem dX4_as_13 : decode cX4_as 13 = .ok (.invokestatic 54, 3) := by decide +kernel
theorem dX4_as_16 : decode cX4_as 16 = .ok (.ifCond .ne 10, 3) := by decide +kernel
theorem dX4_as_19 : decode cX4_as 19 = .ok (.aload_n 0, 1) := by decide +kernel
theorem dX4_as_20 : decode cX4_as 20 = .ok (.ldc 34, 2) := by decide +kernel
theorem dX4_as_22 : decode cX4_as 22 = .ok (.invokevirtual 36, 3) := by decide +kernel
theorem dX4_as_25 : decode cX4_as 25 = .ok (.ireturn, 1) := by decide +kernel
theorem dX4_as_26 : decode cX4_as 26 = .ok (.aload_n 0, 1) := by decide +kernel
theorem dX4_as_27 : decode cX4_as 27 = .ok (.getfield 9, 3) := by decide +kernel
theorem dX4_as_30 : decode cX4_as 30 = .ok (.bipush 69, 2) := by decide +kernel
theorem dX4_as_32 : decode cX4_as 32 = .ok (.iload_n 1, 1) := by decide +kernel
theorem dX4_as_33 : decode cX4_as 33 = .ok (.iadd, 1) := by decide +kernel
theorem dX4_as_34 : decode cX4_as 34 = .ok (.iaload, 1) := by decide +kernel
theorem dX4_as_35 : decode cX4_as 35 = .ok (.istore_n 3, 1) := by decide +kernel
theorem dX4_as_36 : decode cX4_as 36 = .ok (.iload_n 3, 1) := by decide +kernel
theorem dX4_as_37 : decode cX4_as 37 = .ok (.ifCond .ge 11, 3) := by decide +kernel
theorem dX4_as_40 : decode cX4_as 40 = .ok (.aload_n 0, 1) := by decide +kernel
theorem dX4_as_41 : decode cX4_as 41 = .ok (.ldc_w 293, 3) := by decide +kernel
theorem dX4_as_44 : decode cX4_as 44 = .ok (.invokevirtual 36, 3) := by decide +kernel
theorem dX4_as_47 : decode cX4_as 47 = .ok (.ireturn, 1) := by decide +kernel
theorem dX4_as_48 : decode cX4_as 48 = .ok (.aload_n 0, 1) := by decide +kernel
theorem dX4_as_49 : decode cX4_as 49 = .ok (.iload_n 3, 1) := by decide +kernel
theorem dX4_as_50 : decode cX4_as 50 = .ok (.iconst 0, 1) := by decide +kernel
theorem dX4_as_51 : decode cX4_as 51 = .ok (.invokevirtual 63, 3) := by decide +kernel
theorem dX4_as_54 : decode cX4_as 54 = .ok (.istore 4, 2) := by decide +kernel
theorem dX4_as_56 : decode cX4_as 56 = .ok (.iload 4, 2) := by decide +kernel
theorem dX4_as_58 : decode cX4_as 58 = .ok (.ifCond .lt 21, 3) := by decide +kernel
theorem dX4_as_61 : decode cX4_as 61 = .ok (.iload 4, 2) := by decide +kernel
theorem dX4_as_63 : decode cX4_as 63 = .ok (.iload_n 2, 1) := by decide +kernel
theorem dX4_as_64 : decode cX4_as 64 = .ok (.if_icmp .ne 5, 3) := by decide +kernel
theorem dX4_as_67 : decode cX4_as 67 = .ok (.iload_n 3, 1) := by decide +kernel
theorem dX4_as_68 : decode cX4_as 68 = .ok (.ireturn, 1) := by decide +kernel
theorem dX4_as_69 : decode cX4_as 69 = .ok (.iload 4, 2) := by decide +kernel
theorem dX4_as_71 : decode cX4_as 71 = .ok (.invokestatic 294, 3) := by decide +kernel
theorem dX4_as_74 : decode cX4_as 74 = .ok (.istore 4, 2) := by decide +kernel
theorem dX4_as_76 : decode cX4_as 76 = .ok (.goto (-20), 3) := by decide +kernel
theorem dX4_as_79 : decode cX4_as 79 = .ok (.aload_n 0, 1) := by decide +kernel
theorem dX4_as_80 : decode cX4_as 80 = .ok (.ldc_w 297, 3) := by decide +kernel
theorem dX4_as_83 : decode cX4_as 83 = .ok (.invokevirtual 36, 3) := by decide +kernel
theorem dX4_as_86 : decode cX4_as 86 = .ok (.ireturn, 1) := by decide +kernel
theorem dX4_isSheet_0 : decode cX4_isSheet 0 = .ok (.iload_n 0, 1) := by decide +kernel
theorem dX4_isSheet_1 : decode cX4_isSheet 1 = .ok (.i2l, 1) := by decide +kernel
theorem dX4_isSheet_2 : decode cX4_isSheet 2 = .ok (.lconst 0, 1) := by decide +kernel
theorem dX4_isSheet_3 : decode cX4_isSheet 3 = .ok (.ldc2_w 81, 3) := by decide +kernel
theorem dX4_isSheet_6 : decode cX4_isSheet 6 = .ok (.invokestatic 40, 3) := by decide +kernel
theorem dX4_isSheet_9 : decode cX4_isSheet 9 = .ok (.ireturn, 1) := by decide +kernel
theorem dX4_sheet_0 : decode cX4_sheet 0 = .ok (.iload_n 1, 1) := by decide +kernel
theorem dX4_sheet_1 : decode cX4_sheet 1 = .ok (.invokestatic 298, 3) := by decide +kernel
theorem dX4_sheet_4 : decode cX4_sheet 4 = .ok (.ifCond .eq 25, 3) := by decide +kernel
theorem dX4_sheet_7 : decode cX4_sheet 7 = .ok (.iload_n 2, 1) := by decide +kernel
theorem dX4_sheet_8 : decode cX4_sheet 8 = .ok (.ifCond .eq 28, 3) := by decide +kernel
theorem dX4_sheet_11 : decode cX4_sheet 11 = .ok (.iload_n 2, 1) := by decide +kernel
theorem dX4_sheet_12 : decode cX4_sheet 12 = .ok (.bipush 8, 2) := by decide +kernel
theorem dX4_sheet_14 : decode cX4_sheet 14 = .ok (.if_icmp .eq 22, 3) := by decide +kernel
theorem dX4_sheet_17 : decode cX4_sheet 17 = .ok (.iload_n 2, 1) := by decide +kernel
theorem dX4_sheet_18 : decode cX4_sheet 18 = .ok (.bipush 16, 2) := by decide +kernel
theorem dX4_sheet_20 : decode cX4_sheet 20 = .ok (.if_icmp .eq 16, 3) := by decide +kernel
theorem dX4_sheet_23 : decode cX4_sheet 23 = .ok (.iload_n 2, 1) := by decide +kernel
theorem dX4_sheet_24 : decode cX4_sheet 24 = .ok (.bipush 32, 2) := by decide +kernel
theorem dX4_sheet_26 : decode cX4_sheet 26 = .ok (.if_icmp .eq 10, 3) := by decide +kernel
theorem dX4_sheet_29 : decode cX4_sheet 29 = .ok (.aload_n 0, 1) := by decide +kernel
theorem dX4_sheet_30 : decode cX4_sheet 30 = .ok (.ldc 34, 2) := by decide +kernel
theorem dX4_sheet_32 : decode cX4_sheet 32 = .ok (.invokevirtual 36, 3) := by decide +kernel
theorem dX4_sheet_35 : decode cX4_sheet 35 = .ok (.ireturn, 1) := by decide +kernel
theorem dX4_sheet_36 : decode cX4_sheet 36 = .ok (.iload_n 3, 1) := by decide +kernel
theorem dX4_sheet_37 : decode cX4_sheet 37 = .ok (.ifCond .ge 11, 3) := by decide +kernel
theorem dX4_sheet_40 : decode cX4_sheet 40 = .ok (.aload_n 0, 1) := by decide +kernel
theorem dX4_sheet_41 : decode cX4_sheet 41 = .ok (.ldc_w 301, 3) := by decide +kernel
theorem dX4_sheet_44 : decode cX4_sheet 44 = .ok (.invokevirtual 36, 3) := by decide +kernel
theorem dX4_sheet_47 : decode cX4_sheet 47 = .ok (.ireturn, 1) := by decide +kernel
theorem dX4_sheet_48 : decode cX4_sheet 48 = .ok (.iload_n 3, 1) := by decide +kernel
theorem dX4_sheet_49 : decode cX4_sheet 49 = .ok (.bipush 40, 2) := by decide +kernel
theorem dX4_sheet_51 : decode cX4_sheet 51 = .ok (.if_icmp .le 10, 3) := by decide +kernel
theorem dX4_sheet_54 : decode cX4_sheet 54 = .ok (.aload_n 0, 1) := by decide +kernel
theorem dX4_sheet_55 : decode cX4_sheet 55 = .ok (.ldc 34, 2) := by decide +kernel
theorem dX4_sheet_57 : decode cX4_sheet 57 = .ok (.invokevirtual 36, 3) := by decide +kernel
theorem dX4_sheet_60 : decode cX4_sheet 60 = .ok (.ireturn, 1) := by decide +kernel
theorem dX4_sheet_61 : decode cX4_sheet 61 = .ok (.aload_n 0, 1) := by decide +kernel
theorem dX4_sheet_62 : decode cX4_sheet 62 = .ok (.getfield 25, 3) := by decide +kernel
theorem dX4_sheet_65 : decode cX4_sheet 65 = .ok (.iload_n 1, 1) := by decide +kernel
theorem dX4_sheet_66 : decode cX4_sheet 66 = .ok (.iload_n 2, 1) := by decide +kernel
theorem dX4_sheet_67 : decode cX4_sheet 67 = .ok (.iastore, 1) := by decide +kernel
theorem dX4_sheet_68 : decode cX4_sheet 68 = .ok (.aload_n 0, 1) := by decide +kernel
theorem dX4_sheet_69 : decode cX4_sheet 69 = .ok (.getfield 28, 3) := by decide +kernel
theorem dX4_sheet_72 : decode cX4_sheet 72 = .ok (.iload_n 1, 1) := by decide +kernel
theorem dX4_sheet_73 : decode cX4_sheet 73 = .ok (.iload_n 2, 1) := by decide +kernel
theorem dX4_sheet_74 : decode cX4_sheet 74 = .ok (.ifCond .ne 7, 3) := by decide +kernel
theorem dX4_sheet_77 : decode cX4_sheet 77 = .ok (.iconst 0, 1) := by decide +kernel
theorem dX4_sheet_78 : decode cX4_sheet 78 = .ok (.goto 4, 3) := by decide +kernel
theorem dX4_sheet_81 : decode cX4_sheet 81 = .ok (.iload_n 3, 1) := by decide +kernel
theorem dX4_sheet_82 : decode cX4_sheet 82 = .ok (.iastore, 1) := by decide +kernel
theorem dX4_sheet_83 : decode cX4_sheet 83 = .ok (.iconst 0, 1) := by decide +kernel
theorem dX4_sheet_84 : decode cX4_sheet 84 = .ok (.istore 4, 2) := by decide +kernel
theorem dX4_sheet_86 : decode cX4_sheet 86 = .ok (.iload 4, 2) := by decide +kernel
theorem dX4_sheet_88 : decode cX4_sheet 88 = .ok (.bipush 40, 2) := by decide +kernel
theorem dX4_sheet_90 : decode cX4_sheet 90 = .ok (.if_icmp .ge 22, 3) := by decide +kernel
theorem dX4_sheet_93 : decode cX4_sheet 93 = .ok (.aload_n 0, 1) := by decide +kernel
theorem dX4_sheet_94 : decode cX4_sheet 94 = .ok (.getfield 31, 3) := by decide +kernel
theorem dX4_sheet_97 : decode cX4_sheet 97 = .ok (.bipush 40, 2) := by decide +kernel
theorem dX4_sheet_99 : decode cX4_sheet 99 = .ok (.iload_n 1, 1) := by decide +kernel
theorem dX4_sheet_100 : decode cX4_sheet 100 = .ok (.imul, 1) := by decide +kernel
theorem dX4_sheet_101 : decode cX4_sheet 101 = .ok (.iload 4, 2) := by decide +kernel
theorem dX4_sheet_103 : decode cX4_sheet 103 = .ok (.iadd, 1) := by decide +kernel
theorem dX4_sheet_104 : decode cX4_sheet 104 = .ok (.iconst 0, 1) := by decide +kernel
theorem dX4_sheet_105 : decode cX4_sheet 105 = .ok (.iastore, 1) := by decide +kernel
theorem dX4_sheet_106 : decode cX4_sheet 106 = .ok (.iinc 4 1, 3) := by decide +kernel
theorem dX4_sheet_109 : decode cX4_sheet 109 = .ok (.goto (-23), 3) := by decide +kernel
theorem dX4_sheet_112 : decode cX4_sheet 112 = .ok (.aload_n 0, 1) := by decide +kernel
theorem dX4_sheet_113 : decode cX4_sheet 113 = .ok (.getfield 28, 3) := by decide +kernel
theorem dX4_sheet_116 : decode cX4_sheet 116 = .ok (.iload_n 1, 1) := by decide +kernel
theorem dX4_sheet_117 : decode cX4_sheet 117 = .ok (.iaload, 1) := by decide +kernel
theorem dX4_sheet_118 : decode cX4_sheet 118 = .ok (.ireturn, 1) := by decide +kernel
theorem dX4_write_0 : decode cX4_write 0 = .ok (.iload_n 1, 1) := by decide +kernel
theorem dX4_write_1 : decode cX4_write 1 = .ok (.invokestatic 298, 3) := by decide +kernel
theorem dX4_write_4 : decode cX4_write 4 = .ok (.ifCond .ne 10, 3) := by decide +kernel
theorem dX4_write_7 : decode cX4_write 7 = .ok (.aload_n 0, 1) := by decide +kernel
theorem dX4_write_8 : decode cX4_write 8 = .ok (.ldc 34, 2) := by decide +kernel
theorem dX4_write_10 : decode cX4_write 10 = .ok (.invokevirtual 36, 3) := by decide +kernel
theorem dX4_write_13 : decode cX4_write 13 = .ok (.ireturn, 1) := by decide +kernel
theorem dX4_write_14 : decode cX4_write 14 = .ok (.aload_n 0, 1) := by decide +kernel
theorem dX4_write_15 : decode cX4_write 15 = .ok (.getfield 25, 3) := by decide +kernel
theorem dX4_write_18 : decode cX4_write 18 = .ok (.iload_n 1, 1) := by decide +kernel
theorem dX4_write_19 : decode cX4_write 19 = .ok (.iaload, 1) := by decide +kernel
theorem dX4_write_20 : decode cX4_write 20 = .ok (.ifCond .ne 11, 3) := by decide +kernel
theorem dX4_write_23 : decode cX4_write 23 = .ok (.aload_n 0, 1) := by decide +kernel
theorem dX4_write_24 : decode cX4_write 24 = .ok (.ldc_w 293, 3) := by decide +kernel
theorem dX4_write_27 : decode cX4_write 27 = .ok (.invokevirtual 36, 3) := by decide +kernel
theorem dX4_write_30 : decode cX4_write 30 = .ok (.ireturn, 1) := by decide +kernel
theorem dX4_write_31 : decode cX4_write 31 = .ok (.iload_n 2, 1) := by decide +kernel
theorem dX4_write_32 : decode cX4_write 32 = .ok (.i2l, 1) := by decide +kernel
theorem dX4_write_33 : decode cX4_write 33 = .ok (.lconst 0, 1) := by decide +kernel
theorem dX4_write_34 : decode cX4_write 34 = .ok (.aload_n 0, 1) := by decide +kernel
theorem dX4_write_35 : decode cX4_write 35 = .ok (.getfield 28, 3) := by decide +kernel
theorem dX4_write_38 : decode cX4_write 38 = .ok (.iload_n 1, 1) := by decide +kernel
theorem dX4_write_39 : decode cX4_write 39 = .ok (.iaload, 1) := by decide +kernel
theorem dX4_write_40 : decode cX4_write 40 = .ok (.iconst 1, 1) := by decide +kernel
theorem dX4_write_41 : decode cX4_write 41 = .ok (.isub, 1) := by decide +kernel
theorem dX4_write_42 : decode cX4_write 42 = .ok (.i2l, 1) := by decide +kernel
theorem dX4_write_43 : decode cX4_write 43 = .ok (.invokestatic 40, 3) := by decide +kernel
theorem dX4_write_46 : decode cX4_write 46 = .ok (.ifCond .ne 10, 3) := by decide +kernel
theorem dX4_write_49 : decode cX4_write 49 = .ok (.aload_n 0, 1) := by decide +kernel
theorem dX4_write_50 : decode cX4_write 50 = .ok (.ldc 34, 2) := by decide +kernel
theorem dX4_write_52 : decode cX4_write 52 = .ok (.invokevirtual 36, 3) := by decide +kernel
theorem dX4_write_55 : decode cX4_write 55 = .ok (.ireturn, 1) := by decide +kernel
theorem dX4_write_56 : decode cX4_write 56 = .ok (.aload_n 0, 1) := by decide +kernel
theorem dX4_write_57 : decode cX4_write 57 = .ok (.getfield 31, 3) := by decide +kernel
theorem dX4_write_60 : decode cX4_write 60 = .ok (.bipush 40, 2) := by decide +kernel
theorem dX4_write_62 : decode cX4_write 62 = .ok (.iload_n 1, 1) := by decide +kernel
theorem dX4_write_63 : decode cX4_write 63 = .ok (.imul, 1) := by decide +kernel
theorem dX4_write_64 : decode cX4_write 64 = .ok (.iload_n 2, 1) := by decide +kernel
theorem dX4_write_65 : decode cX4_write 65 = .ok (.iadd, 1) := by decide +kernel
theorem dX4_write_66 : decode cX4_write 66 = .ok (.aload_n 0, 1) := by decide +kernel
theorem dX4_write_67 : decode cX4_write 67 = .ok (.getfield 25, 3) := by decide +kernel
theorem dX4_write_70 : decode cX4_write 70 = .ok (.iload_n 1, 1) := by decide +kernel
theorem dX4_write_71 : decode cX4_write 71 = .ok (.iaload, 1) := by decide +kernel
theorem dX4_write_72 : decode cX4_write 72 = .ok (.bipush 8, 2) := by decide +kernel
theorem dX4_write_74 : decode cX4_write 74 = .ok (.if_icmp .ne 8, 3) := by decide +kernel
theorem dX4_write_77 : decode cX4_write 77 = .ok (.iload_n 3, 1) := by decide +kernel
theorem dX4_write_78 : decode cX4_write 78 = .ok (.i2b, 1) := by decide +kernel
theorem dX4_write_79 : decode cX4_write 79 = .ok (.goto 20, 3) := by decide +kernel
theorem dX4_write_82 : decode cX4_write 82 = .ok (.aload_n 0, 1) := by decide +kernel
theorem dX4_write_83 : decode cX4_write 83 = .ok (.getfield 25, 3) := by decide +kernel
theorem dX4_write_86 : decode cX4_write 86 = .ok (.iload_n 1, 1) := by decide +kernel
theorem dX4_write_87 : decode cX4_write 87 = .ok (.iaload, 1) := by decide +kernel
theorem dX4_write_88 : decode cX4_write 88 = .ok (.bipush 16, 2) := by decide +kernel
theorem dX4_write_90 : decode cX4_write 90 = .ok (.if_icmp .ne 8, 3) := by decide +kernel
theorem dX4_write_93 : decode cX4_write 93 = .ok (.iload_n 3, 1) := by decide +kernel
theorem dX4_write_94 : decode cX4_write 94 = .ok (.i2s, 1) := by decide +kernel
theorem dX4_write_95 : decode cX4_write 95 = .ok (.goto 4, 3) := by decide +kernel
theorem dX4_write_98 : decode cX4_write 98 = .ok (.iload_n 3, 1) := by decide +kernel
theorem dX4_write_99 : decode cX4_write 99 = .ok (.iastore, 1) := by decide +kernel
theorem dX4_write_100 : decode cX4_write 100 = .ok (.iconst 1, 1) := by decide +kernel
theorem dX4_write_101 : decode cX4_write 101 = .ok (.ireturn, 1) := by decide +kernel
theorem dX4_copy_0 : decode cX4_copy 0 = .ok (.iload_n 1, 1) := by decide +kernel
theorem dX4_copy_1 : decode cX4_copy 1 = .ok (.invokestatic 298, 3) := by decide +kernel
theorem dX4_copy_4 : decode cX4_copy 4 = .ok (.ifCond .eq 10, 3) := by decide +kernel
theorem dX4_copy_7 : decode cX4_copy 7 = .ok (.iload_n 3, 1) := by decide +kernel
theorem dX4_copy_8 : decode cX4_copy 8 = .ok (.invokestatic 298, 3) := by decide +kernel
theorem dX4_copy_11 : decode cX4_copy 11 = .ok (.ifCond .ne 10, 3) := by decide +kernel
theorem dX4_copy_14 : decode cX4_copy 14 = .ok (.aload_n 0, 1) := by decide +kernel
theorem dX4_copy_15 : decode cX4_copy 15 = .ok (.ldc 34, 2) := by decide +kernel
theorem dX4_copy_17 : decode cX4_copy 17 = .ok (.invokevirtual 36, 3) := by decide +kernel
theorem dX4_copy_20 : decode cX4_copy 20 = .ok (.ireturn, 1) := by decide +kernel
theorem dX4_copy_21 : decode cX4_copy 21 = .ok (.aload_n 0, 1) := by decide +kernel
theorem dX4_copy_22 : decode cX4_copy 22 = .ok (.getfield 25, 3) := by decide +kernel
theorem dX4_copy_25 : decode cX4_copy 25 = .ok (.iload_n 1, 1) := by decide +kernel
theorem dX4_copy_26 : decode cX4_copy 26 = .ok (.iaload, 1) := by decide +kernel
theorem dX4_copy_27 : decode cX4_copy 27 = .ok (.ifCond .eq 12, 3) := by decide +kernel
theorem dX4_copy_30 : decode cX4_copy 30 = .ok (.aload_n 0, 1) := by decide +kernel
theorem dX4_copy_31 : decode cX4_copy 31 = .ok (.getfield 25, 3) := by decide +kernel
theorem dX4_copy_34 : decode cX4_copy 34 = .ok (.iload_n 3, 1) := by decide +kernel
theorem dX4_copy_35 : decode cX4_copy 35 = .ok (.iaload, 1) := by decide +kernel
theorem dX4_copy_36 : decode cX4_copy 36 = .ok (.ifCond .ne 11, 3) := by decide +kernel
theorem dX4_copy_39 : decode cX4_copy 39 = .ok (.aload_n 0, 1) := by decide +kernel
theorem dX4_copy_40 : decode cX4_copy 40 = .ok (.ldc_w 293, 3) := by decide +kernel
theorem dX4_copy_43 : decode cX4_copy 43 = .ok (.invokevirtual 36, 3) := by decide +kernel
theorem dX4_copy_46 : decode cX4_copy 46 = .ok (.ireturn, 1) := by decide +kernel
theorem dX4_copy_47 : decode cX4_copy 47 = .ok (.aload_n 0, 1) := by decide +kernel
theorem dX4_copy_48 : decode cX4_copy 48 = .ok (.getfield 25, 3) := by decide +kernel
theorem dX4_copy_51 : decode cX4_copy 51 = .ok (.iload_n 1, 1) := by decide +kernel
theorem dX4_copy_52 : decode cX4_copy 52 = .ok (.iaload, 1) := by decide +kernel
theorem dX4_copy_53 : decode cX4_copy 53 = .ok (.aload_n 0, 1) := by decide +kernel
theorem dX4_copy_54 : decode cX4_copy 54 = .ok (.getfield 25, 3) := by decide +kernel
theorem dX4_copy_57 : decode cX4_copy 57 = .ok (.iload_n 3, 1) := by decide +kernel
theorem dX4_copy_58 : decode cX4_copy 58 = .ok (.iaload, 1) := by decide +kernel
theorem dX4_copy_59 : decode cX4_copy 59 = .ok (.if_icmp .eq 11, 3) := by decide +kernel
theorem dX4_copy_62 : decode cX4_copy 62 = .ok (.aload_n 0, 1) := by decide +kernel
theorem dX4_copy_63 : decode cX4_copy 63 = .ok (.ldc_w 297, 3) := by decide +kernel
theorem dX4_copy_66 : decode cX4_copy 66 = .ok (.invokevirtual 36, 3) := by decide +kernel
theorem dX4_copy_69 : decode cX4_copy 69 = .ok (.ireturn, 1) := by decide +kernel
theorem dX4_copy_70 : decode cX4_copy 70 = .ok (.iload 5, 2) := by decide +kernel
theorem dX4_copy_72 : decode cX4_copy 72 = .ok (.ifCond .lt 39, 3) := by decide +kernel
theorem dX4_copy_75 : decode cX4_copy 75 = .ok (.iload_n 2, 1) := by decide +kernel
theorem dX4_copy_76 : decode cX4_copy 76 = .ok (.ifCond .lt 35, 3) := by decide +kernel
theorem dX4_copy_79 : decode cX4_copy 79 = .ok (.iload 4, 2) := by decide +kernel
theorem dX4_copy_81 : decode cX4_copy 81 = .ok (.ifCond .lt 30, 3) := by decide +kernel
theorem dX4_copy_84 : decode cX4_copy 84 = .ok (.iload 5, 2) := by decide +kernel
theorem dX4_copy_86 : decode cX4_copy 86 = .ok (.aload_n 0, 1) := by decide +kernel
theorem dX4_copy_87 : decode cX4_copy 87 = .ok (.getfield 28, 3) := by decide +kernel
theorem dX4_copy_90 : decode cX4_copy 90 = .ok (.iload_n 1, 1) := by decide +kernel
theorem dX4_copy_91 : decode cX4_copy 91 = .ok (.iaload, 1) := by decide +kernel
theorem dX4_copy_92 : decode cX4_copy 92 = .ok (.iload_n 2, 1) := by decide +kernel
theorem dX4_copy_93 : decode cX4_copy 93 = .ok (.isub, 1) := by decide +kernel
theorem dX4_copy_94 : decode cX4_copy 94 = .ok (.if_icmp .gt 17, 3) := by decide +kernel
theorem dX4_copy_97 : decode cX4_copy 97 = .ok (.iload 5, 2) := by decide +kernel
theorem dX4_copy_99 : decode cX4_copy 99 = .ok (.aload_n 0, 1) := by decide +kernel
theorem dX4_copy_100 : decode cX4_copy 100 = .ok (.getfield 28, 3) := by decide +kernel
theorem dX4_copy_103 : decode cX4_copy 103 = .ok (.iload_n 3, 1) := by decide +kernel
theorem dX4_copy_104 : decode cX4_copy 104 = .ok (.iaload, 1) := by decide +kernel
theorem dX4_copy_105 : decode cX4_copy 105 = .ok (.iload 4, 2) := by decide +kernel
theorem dX4_copy_107 : decode cX4_copy 107 = .ok (.isub, 1) := by decide +kernel
theorem dX4_copy_108 : decode cX4_copy 108 = .ok (.if_icmp .le 10, 3) := by decide +kernel
theorem dX4_copy_111 : decode cX4_copy 111 = .ok (.aload_n 0, 1) := by decide +kernel
theorem dX4_copy_112 : decode cX4_copy 112 = .ok (.ldc 34, 2) := by decide +kernel
theorem dX4_copy_114 : decode cX4_copy 114 = .ok (.invokevirtual 36, 3) := by decide +kernel
theorem dX4_copy_117 : decode cX4_copy 117 = .ok (.ireturn, 1) := by decide +kernel
theorem dX4_copy_118 : decode cX4_copy 118 = .ok (.iload_n 1, 1) := by decide +kernel
theorem dX4_copy_119 : decode cX4_copy 119 = .ok (.iload_n 3, 1) := by decide +kernel
theorem dX4_copy_120 : decode cX4_copy 120 = .ok (.if_icmp .ne 13, 3) := by decide +kernel
theorem dX4_copy_123 : decode cX4_copy 123 = .ok (.iload_n 2, 1) := by decide +kernel
theorem dX4_copy_124 : decode cX4_copy 124 = .ok (.iload 4, 2) := by decide +kernel
theorem dX4_copy_126 : decode cX4_copy 126 = .ok (.if_icmp .ge 7, 3) := by decide +kernel
theorem dX4_copy_129 : decode cX4_copy 129 = .ok (.iconst 1, 1) := by decide +kernel
theorem dX4_copy_130 : decode cX4_copy 130 = .ok (.goto 4, 3) := by decide +kernel
theorem dX4_copy_133 : decode cX4_copy 133 = .ok (.iconst 0, 1) := by decide +kernel
theorem dX4_copy_134 : decode cX4_copy 134 = .ok (.istore 6, 2) := by decide +kernel
theorem dX4_copy_136 : decode cX4_copy 136 = .ok (.iconst 0, 1) := by decide +kernel
theorem dX4_copy_137 : decode cX4_copy 137 = .ok (.istore 7, 2) := by decide +kernel
theorem dX4_copy_139 : decode cX4_copy 139 = .ok (.iload 7, 2) := by decide +kernel
theorem dX4_copy_141 : decode cX4_copy 141 = .ok (.iload 5, 2) := by decide +kernel
theorem dX4_copy_143 : decode cX4_copy 143 = .ok (.if_icmp .ge 57, 3) := by decide +kernel
theorem dX4_copy_146 : decode cX4_copy 146 = .ok (.iload 6, 2) := by decide +kernel
theorem dX4_copy_148 : decode cX4_copy 148 = .ok (.ifCond .eq 13, 3) := by decide +kernel
theorem dX4_copy_151 : decode cX4_copy 151 = .ok (.iload 5, 2) := by decide +kernel
theorem dX4_copy_153 : decode cX4_copy 153 = .ok (.iconst 1, 1) := by decide +kernel
theorem dX4_copy_154 : decode cX4_copy 154 = .ok (.isub, 1) := by decide +kernel
theorem dX4_copy_155 : decode cX4_copy 155 = .ok (.iload 7, 2) := by decide +kernel
theorem dX4_copy_157 : decode cX4_copy 157 = .ok (.isub, 1) := by decide +kernel
theorem dX4_copy_158 : decode cX4_copy 158 = .ok (.goto 5, 3) := by decide +kernel
theorem dX4_copy_161 : decode cX4_copy 161 = .ok (.iload 7, 2) := by decide +kernel
theorem dX4_copy_163 : decode cX4_copy 163 = .ok (.istore 8, 2) := by decide +kernel
theorem dX4_copy_165 : decode cX4_copy 165 = .ok (.aload_n 0, 1) := by decide +kernel
theorem dX4_copy_166 : decode cX4_copy 166 = .ok (.getfield 31, 3) := by decide +kernel
theorem dX4_copy_169 : decode cX4_copy 169 = .ok (.bipush 40, 2) := by decide +kernel
theorem dX4_copy_171 : decode cX4_copy 171 = .ok (.iload_n 3, 1) := by decide +kernel
theorem dX4_copy_172 : decode cX4_copy 172 = .ok (.imul, 1) := by decide +kernel
theorem dX4_copy_173 : decode cX4_copy 173 = .ok (.iload 4, 2) := by decide +kernel
theorem dX4_copy_175 : decode cX4_copy 175 = .ok (.iadd, 1) := by decide +kernel
theorem dX4_copy_176 : decode cX4_copy 176 = .ok (.iload 8, 2) := by decide +kernel
theorem dX4_copy_178 : decode cX4_copy 178 = .ok (.iadd, 1) := by decide +kernel
theorem dX4_copy_179 : decode cX4_copy 179 = .ok (.aload_n 0, 1) := by decide +kernel
theorem dX4_copy_180 : decode cX4_copy 180 = .ok (.getfield 31, 3) := by decide +kernel
theorem dX4_copy_183 : decode cX4_copy 183 = .ok (.bipush 40, 2) := by decide +kernel
theorem dX4_copy_185 : decode cX4_copy 185 = .ok (.iload_n 1, 1) := by decide +kernel
theorem dX4_copy_186 : decode cX4_copy 186 = .ok (.imul, 1) := by decide +kernel
theorem dX4_copy_187 : decode cX4_copy 187 = .ok (.iload_n 2, 1) := by decide +kernel
theorem dX4_copy_188 : decode cX4_copy 188 = .ok (.iadd, 1) := by decide +kernel
theorem dX4_copy_189 : decode cX4_copy 189 = .ok (.iload 8, 2) := by decide +kernel
theorem dX4_copy_191 : decode cX4_copy 191 = .ok (.iadd, 1) := by decide +kernel
theorem dX4_copy_192 : decode cX4_copy 192 = .ok (.iaload, 1) := by decide +kernel
theorem dX4_copy_193 : decode cX4_copy 193 = .ok (.iastore, 1) := by decide +kernel
theorem dX4_copy_194 : decode cX4_copy 194 = .ok (.iinc 7 1, 3) := by decide +kernel
theorem dX4_copy_197 : decode cX4_copy 197 = .ok (.goto (-58), 3) := by decide +kernel
theorem dX4_copy_200 : decode cX4_copy 200 = .ok (.iload 5, 2) := by decide +kernel
theorem dX4_copy_202 : decode cX4_copy 202 = .ok (.ireturn, 1) := by decide +kernel
theorem dX4_load_0 : decode cX4_load 0 = .ok (.iload_n 1, 1) := by decide +kernel
theorem dX4_load_1 : decode cX4_load 1 = .ok (.invokestatic 298, 3) := by decide +kernel
theorem dX4_load_4 : decode cX4_load 4 = .ok (.ifCond .ne 10, 3) := by decide +kernel
theorem dX4_load_7 : decode cX4_load 7 = .ok (.aload_n 0, 1) := by decide +kernel
theorem dX4_load_8 : decode cX4_load 8 = .ok (.ldc 34, 2) := by decide +kernel
theorem dX4_load_10 : decode cX4_load 10 = .ok (.invokevirtual 36, 3) := by decide +kernel
theorem dX4_load_13 : decode cX4_load 13 = .ok (.ireturn, 1) := by decide +kernel
theorem dX4_load_14 : decode cX4_load 14 = .ok (.aload_n 0, 1) := by decide +kernel
theorem dX4_load_15 : decode cX4_load 15 = .ok (.getfield 25, 3) := by decide +kernel
theorem dX4_load_18 : decode cX4_load 18 = .ok (.iload_n 1, 1) := by decide +kernel
theorem dX4_load_19 : decode cX4_load 19 = .ok (.iaload, 1) := by decide +kernel
theorem dX4_load_20 : decode cX4_load 20 = .ok (.ifCond .ne 11, 3) := by decide +kernel
theorem dX4_load_23 : decode cX4_load 23 = .ok (.aload_n 0, 1) := by decide +kernel
theorem dX4_load_24 : decode cX4_load 24 = .ok (.ldc_w 293, 3) := by decide +kernel
theorem dX4_load_27 : decode cX4_load 27 = .ok (.invokevirtual 36, 3) := by decide +kernel
theorem dX4_load_30 : decode cX4_load 30 = .ok (.ireturn, 1) := by decide +kernel
theorem dX4_load_31 : decode cX4_load 31 = .ok (.iconst 0, 1) := by decide +kernel
theorem dX4_load_32 : decode cX4_load 32 = .ok (.istore_n 2, 1) := by decide +kernel
theorem dX4_load_33 : decode cX4_load 33 = .ok (.iload_n 2, 1) := by decide +kernel
theorem dX4_load_34 : decode cX4_load 34 = .ok (.aload_n 0, 1) := by decide +kernel
theorem dX4_load_35 : decode cX4_load 35 = .ok (.getfield 28, 3) := by decide +kernel
theorem dX4_load_38 : decode cX4_load 38 = .ok (.iload_n 1, 1) := by decide +kernel
theorem dX4_load_39 : decode cX4_load 39 = .ok (.iaload, 1) := by decide +kernel
theorem dX4_load_40 : decode cX4_load 40 = .ok (.if_icmp .ge 54, 3) := by decide +kernel
theorem dX4_load_43 : decode cX4_load 43 = .ok (.iload_n 2, 1) := by decide +kernel
theorem dX4_load_44 : decode cX4_load 44 = .ok (.aload_n 0, 1) := by decide +kernel
theorem dX4_load_45 : decode cX4_load 45 = .ok (.getfield 9, 3) := by decide +kernel
theorem dX4_load_48 : decode cX4_load 48 = .ok (.bipush 8, 2) := by decide +kernel
theorem dX4_load_50 : decode cX4_load 50 = .ok (.iaload, 1) := by decide +kernel
theorem dX4_load_51 : decode cX4_load 51 = .ok (.if_icmp .ge 43, 3) := by decide +kernel
theorem dX4_load_54 : decode cX4_load 54 = .ok (.aload_n 0, 1) := by decide +kernel
theorem dX4_load_55 : decode cX4_load 55 = .ok (.getfield 31, 3) := by decide +kernel
theorem dX4_load_58 : decode cX4_load 58 = .ok (.bipush 40, 2) := by decide +kernel
theorem dX4_load_60 : decode cX4_load 60 = .ok (.iload_n 1, 1) := by decide +kernel
theorem dX4_load_61 : decode cX4_load 61 = .ok (.imul, 1) := by decide +kernel
theorem dX4_load_62 : decode cX4_load 62 = .ok (.iload_n 2, 1) := by decide +kernel
theorem dX4_load_63 : decode cX4_load 63 = .ok (.iadd, 1) := by decide +kernel
theorem dX4_load_64 : decode cX4_load 64 = .ok (.iaload, 1) := by decide +kernel
theorem dX4_load_65 : decode cX4_load 65 = .ok (.invokestatic 78, 3) := by decide +kernel
theorem dX4_load_68 : decode cX4_load 68 = .ok (.ifCond .eq 26, 3) := by decide +kernel
theorem dX4_load_71 : decode cX4_load 71 = .ok (.aload_n 0, 1) := by decide +kernel
theorem dX4_load_72 : decode cX4_load 72 = .ok (.iload_n 2, 1) := by decide +kernel
theorem dX4_load_73 : decode cX4_load 73 = .ok (.iconst 1, 1) := by decide +kernel
theorem dX4_load_74 : decode cX4_load 74 = .ok (.aload_n 0, 1) := by decide +kernel
theorem dX4_load_75 : decode cX4_load 75 = .ok (.getfield 31, 3) := by decide +kernel
theorem dX4_load_78 : decode cX4_load 78 = .ok (.bipush 40, 2) := by decide +kernel
theorem dX4_load_80 : decode cX4_load 80 = .ok (.iload_n 1, 1) := by decide +kernel
theorem dX4_load_81 : decode cX4_load 81 = .ok (.imul, 1) := by decide +kernel
theorem dX4_load_82 : decode cX4_load 82 = .ok (.iload_n 2, 1) := by decide +kernel
theorem dX4_load_83 : decode cX4_load 83 = .ok (.iadd, 1) := by decide +kernel
theorem dX4_load_84 : decode cX4_load 84 = .ok (.iaload, 1) := by decide +kernel
theorem dX4_load_85 : decode cX4_load 85 = .ok (.invokevirtual 50, 3) := by decide +kernel
theorem dX4_load_88 : decode cX4_load 88 = .ok (.iinc 2 1, 3) := by decide +kernel
theorem dX4_load_91 : decode cX4_load 91 = .ok (.goto (-58), 3) := by decide +kernel
theorem dX4_load_94 : decode cX4_load 94 = .ok (.iload_n 2, 1) := by decide +kernel
theorem dX4_load_95 : decode cX4_load 95 = .ok (.ireturn, 1) := by decide +kernel
theorem dX4_tally_0 : decode cX4_tally 0 = .ok (.iload_n 1, 1) := by decide +kernel
theorem dX4_tally_1 : decode cX4_tally 1 = .ok (.invokestatic 298, 3) := by decide +kernel
theorem dX4_tally_4 : decode cX4_tally 4 = .ok (.ifCond .ne 11, 3) := by decide +kernel
theorem dX4_tally_7 : decode cX4_tally 7 = .ok (.aload_n 0, 1) := by decide +kernel
theorem dX4_tally_8 : decode cX4_tally 8 = .ok (.ldc 34, 2) := by decide +kernel
theorem dX4_tally_10 : decode cX4_tally 10 = .ok (.invokevirtual 36, 3) := by decide +kernel
theorem dX4_tally_13 : decode cX4_tally 13 = .ok (.i2l, 1) := by decide +kernel
theorem dX4_tally_14 : decode cX4_tally 14 = .ok (.lreturn, 1) := by decide +kernel
theorem dX4_tally_15 : decode cX4_tally 15 = .ok (.aload_n 0, 1) := by decide +kernel
theorem dX4_tally_16 : decode cX4_tally 16 = .ok (.getfield 25, 3) := by decide +kernel
theorem dX4_tally_19 : decode cX4_tally 19 = .ok (.iload_n 1, 1) := by decide +kernel
theorem dX4_tally_20 : decode cX4_tally 20 = .ok (.iaload, 1) := by decide +kernel
theorem dX4_tally_21 : decode cX4_tally 21 = .ok (.ifCond .ne 12, 3) := by decide +kernel
theorem dX4_tally_24 : decode cX4_tally 24 = .ok (.aload_n 0, 1) := by decide +kernel
theorem dX4_tally_25 : decode cX4_tally 25 = .ok (.ldc_w 293, 3) := by decide +kernel
theorem dX4_tally_28 : decode cX4_tally 28 = .ok (.invokevirtual 36, 3) := by decide +kernel
theorem dX4_tally_31 : decode cX4_tally 31 = .ok (.i2l, 1) := by decide +kernel
theorem dX4_tally_32 : decode cX4_tally 32 = .ok (.lreturn, 1) := by decide +kernel
theorem dX4_tally_33 : decode cX4_tally 33 = .ok (.aload_n 0, 1) := by decide +kernel
theorem dX4_tally_34 : decode cX4_tally 34 = .ok (.getfield 9, 3) := by decide +kernel
theorem dX4_tally_37 : decode cX4_tally 37 = .ok (.aload_n 0, 1) := by decide +kernel
theorem dX4_tally_38 : decode cX4_tally 38 = .ok (.getfield 16, 3) := by decide +kernel
theorem dX4_tally_41 : decode cX4_tally 41 = .ok (.invokestatic 123, 3) := by decide +kernel
theorem dX4_tally_44 : decode cX4_tally 44 = .ok (.lconst 0, 1) := by decide +kernel
theorem dX4_tally_45 : decode cX4_tally 45 = .ok (.lstore_n 2, 1) := by decide +kernel
theorem dX4_tally_46 : decode cX4_tally 46 = .ok (.iconst 0, 1) := by decide +kernel
theorem dX4_tally_47 : decode cX4_tally 47 = .ok (.istore 4, 2) := by decide +kernel
theorem dX4_tally_49 : decode cX4_tally 49 = .ok (.iload 4, 2) := by decide +kernel
theorem dX4_tally_51 : decode cX4_tally 51 = .ok (.iconst 1, 1) := by decide +kernel
theorem dX4_tally_52 : decode cX4_tally 52 = .ok (.aload_n 0, 1) := by decide +kernel
theorem dX4_tally_53 : decode cX4_tally 53 = .ok (.invokevirtual 181, 3) := by decide +kernel
theorem dX4_tally_56 : decode cX4_tally 56 = .ok (.ishl, 1) := by decide +kernel
theorem dX4_tally_57 : decode cX4_tally 57 = .ok (.if_icmp .ge 114, 3) := by decide +kernel
theorem dX4_tally_60 : decode cX4_tally 60 = .ok (.aload_n 0, 1) := by decide +kernel
theorem dX4_tally_61 : decode cX4_tally 61 = .ok (.iload 4, 2) := by decide +kernel
theorem dX4_tally_63 : decode cX4_tally 63 = .ok (.invokevirtual 184, 3) := by decide +kernel
theorem dX4_tally_66 : decode cX4_tally 66 = .ok (.ifCond .ne 6, 3) := by decide +kernel
theorem dX4_tally_69 : decode cX4_tally 69 = .ok (.goto 96, 3) := by decide +kernel
theorem dX4_tally_72 : decode cX4_tally 72 = .ok (.aload_n 0, 1) := by decide +kernel
theorem dX4_tally_73 : decode cX4_tally 73 = .ok (.iload 4, 2) := by decide +kernel
theorem dX4_tally_75 : decode cX4_tally 75 = .ok (.invokevirtual 187, 3) := by decide +kernel
theorem dX4_tally_78 : decode cX4_tally 78 = .ok (.aload_n 0, 1) := by decide +kernel
theorem dX4_tally_79 : decode cX4_tally 79 = .ok (.invokevirtual 120, 3) := by decide +kernel
theorem dX4_tally_82 : decode cX4_tally 82 = .ok (.pop, 1) := by decide +kernel
theorem dX4_tally_83 : decode cX4_tally 83 = .ok (.iconst 1, 1) := by decide +kernel
theorem dX4_tally_84 : decode cX4_tally 84 = .ok (.istore 5, 2) := by decide +kernel
theorem dX4_tally_86 : decode cX4_tally 86 = .ok (.iconst 0, 1) := by decide +kernel
theorem dX4_tally_87 : decode cX4_tally 87 = .ok (.istore 6, 2) := by decide +kernel
theorem dX4_tally_89 : decode cX4_tally 89 = .ok (.iload 6, 2) := by decide +kernel
theorem dX4_tally_91 : decode cX4_tally 91 = .ok (.aload_n 0, 1) := by decide +kernel
theorem dX4_tally_92 : decode cX4_tally 92 = .ok (.getfield 9, 3) := by decide +kernel
theorem dX4_tally_95 : decode cX4_tally 95 = .ok (.bipush 8, 2) := by decide +kernel
theorem dX4_tally_97 : decode cX4_tally 97 = .ok (.iaload, 1) := by decide +kernel
theorem dX4_tally_98 : decode cX4_tally 98 = .ok (.if_icmp .ge 54, 3) := by decide +kernel
theorem dX4_tally_101 : decode cX4_tally 101 = .ok (.iload 6, 2) := by decide +kernel
theorem dX4_tally_103 : decode cX4_tally 103 = .ok (.aload_n 0, 1) := by decide +kernel
theorem dX4_tally_104 : decode cX4_tally 104 = .ok (.getfield 28, 3) := by decide +kernel
theorem dX4_tally_107 : decode cX4_tally 107 = .ok (.iload_n 1, 1) := by decide +kernel
theorem dX4_tally_108 : decode cX4_tally 108 = .ok (.iaload, 1) := by decide +kernel
theorem dX4_tally_109 : decode cX4_tally 109 = .ok (.if_icmp .ge 43, 3) := by decide +kernel
theorem dX4_tally_112 : decode cX4_tally 112 = .ok (.iload 5, 2) := by decide +kernel
theorem dX4_tally_114 : decode cX4_tally 114 = .ok (.ifCond .eq 29, 3) := by decide +kernel
theorem dX4_tally_117 : decode cX4_tally 117 = .ok (.aload_n 0, 1) := by decide +kernel
theorem dX4_tally_118 : decode cX4_tally 118 = .ok (.iload 6, 2) := by decide +kernel
theorem dX4_tally_120 : decode cX4_tally 120 = .ok (.iconst 5, 1) := by decide +kernel
theorem dX4_tally_121 : decode cX4_tally 121 = .ok (.invokevirtual 63, 3) := by decide +kernel
theorem dX4_tally_124 : decode cX4_tally 124 = .ok (.aload_n 0, 1) := by decide +kernel
theorem dX4_tally_125 : decode cX4_tally 125 = .ok (.getfield 31, 3) := by decide +kernel
theorem dX4_tally_128 : decode cX4_tally 128 = .ok (.bipush 40, 2) := by decide +kernel
theorem dX4_tally_130 : decode cX4_tally 130 = .ok (.iload_n 1, 1) := by decide +kernel
theorem dX4_tally_131 : decode cX4_tally 131 = .ok (.imul, 1) := by decide +kernel
theorem dX4_tally_132 : decode cX4_tally 132 = .ok (.iload 6, 2) := by decide +kernel
theorem dX4_tally_134 : decode cX4_tally 134 = .ok (.iadd, 1) := by decide +kernel
theorem dX4_tally_135 : decode cX4_tally 135 = .ok (.iaload, 1) := by decide +kernel
theorem dX4_tally_136 : decode cX4_tally 136 = .ok (.if_icmp .ne 7, 3) := by decide +kernel
theorem dX4_tally_139 : decode cX4_tally 139 = .ok (.iconst 1, 1) := by decide +kernel
theorem dX4_tally_140 : decode cX4_tally 140 = .ok (.goto 4, 3) := by decide +kernel
theorem dX4_tally_143 : decode cX4_tally 143 = .ok (.iconst 0, 1) := by decide +kernel
theorem dX4_tally_144 : decode cX4_tally 144 = .ok (.istore 5, 2) := by decide +kernel
theorem dX4_tally_146 : decode cX4_tally 146 = .ok (.iinc 6 1, 3) := by decide +kernel
theorem dX4_tally_149 : decode cX4_tally 149 = .ok (.goto (-60), 3) := by decide +kernel
theorem dX4_tally_152 : decode cX4_tally 152 = .ok (.lload_n 2, 1) := by decide +kernel
theorem dX4_tally_153 : decode cX4_tally 153 = .ok (.iload 5, 2) := by decide +kernel
theorem dX4_tally_155 : decode cX4_tally 155 = .ok (.ifCond .eq 7, 3) := by decide +kernel
theorem dX4_tally_158 : decode cX4_tally 158 = .ok (.lconst 1, 1) := by decide +kernel
theorem dX4_tally_159 : decode cX4_tally 159 = .ok (.goto 4, 3) := by decide +kernel
theorem dX4_tally_162 : decode cX4_tally 162 = .ok (.lconst 0, 1) := by decide +kernel
theorem dX4_tally_163 : decode cX4_tally 163 = .ok (.ladd, 1) := by decide +kernel
theorem dX4_tally_164 : decode cX4_tally 164 = .ok (.lstore_n 2, 1) := by decide +kernel
theorem dX4_tally_165 : decode cX4_tally 165 = .ok (.iinc 4 1, 3) := by decide +kernel
theorem dX4_tally_168 : decode cX4_tally 168 = .ok (.goto (-119), 3) := by decide +kernel
theorem dX4_tally_171 : decode cX4_tally 171 = .ok (.aload_n 0, 1) := by decide +kernel
theorem dX4_tally_172 : decode cX4_tally 172 = .ok (.getfield 16, 3) := by decide +kernel
theorem dX4_tally_175 : decode cX4_tally 175 = .ok (.aload_n 0, 1) := by decide +kernel
theorem dX4_tally_176 : decode cX4_tally 176 = .ok (.getfield 9, 3) := by decide +kernel
theorem dX4_tally_179 : decode cX4_tally 179 = .ok (.invokestatic 123, 3) := by decide +kernel
theorem dX4_tally_182 : decode cX4_tally 182 = .ok (.lload_n 2, 1) := by decide +kernel
theorem dX4_tally_183 : decode cX4_tally 183 = .ok (.lreturn, 1) := by decide +kernel
theorem dX4_judge_0 : decode cX4_judge 0 = .ok (.iload_n 1, 1) := by decide +kernel
theorem dX4_judge_1 : decode cX4_judge 1 = .ok (.invokestatic 298, 3) := by decide +kernel
theorem dX4_judge_4 : decode cX4_judge 4 = .ok (.ifCond .ne 10, 3) := by decide +kernel
theorem dX4_judge_7 : decode cX4_judge 7 = .ok (.aload_n 0, 1) := by decide +kernel
theorem dX4_judge_8 : decode cX4_judge 8 = .ok (.ldc 34, 2) := by decide +kernel
theorem dX4_judge_10 : decode cX4_judge 10 = .ok (.invokevirtual 36, 3) := by decide +kernel
theorem dX4_judge_13 : decode cX4_judge 13 = .ok (.ireturn, 1) := by decide +kernel
theorem dX4_judge_14 : decode cX4_judge 14 = .ok (.aload_n 0, 1) := by decide +kernel
theorem dX4_judge_15 : decode cX4_judge 15 = .ok (.getfield 25, 3) := by decide +kernel
theorem dX4_judge_18 : decode cX4_judge 18 = .ok (.iload_n 1, 1) := by decide +kernel
theorem dX4_judge_19 : decode cX4_judge 19 = .ok (.iaload, 1) := by decide +kernel
theorem dX4_judge_20 : decode cX4_judge 20 = .ok (.ifCond .ne 11, 3) := by decide +kernel
theorem dX4_judge_23 : decode cX4_judge 23 = .ok (.aload_n 0, 1) := by decide +kernel
theorem dX4_judge_24 : decode cX4_judge 24 = .ok (.ldc_w 293, 3) := by decide +kernel
theorem dX4_judge_27 : decode cX4_judge 27 = .ok (.invokevirtual 36, 3) := by decide +kernel
theorem dX4_judge_30 : decode cX4_judge 30 = .ok (.ireturn, 1) := by decide +kernel
theorem dX4_judge_31 : decode cX4_judge 31 = .ok (.aload_n 0, 1) := by decide +kernel
theorem dX4_judge_32 : decode cX4_judge 32 = .ok (.aload_n 0, 1) := by decide +kernel
theorem dX4_judge_33 : decode cX4_judge 33 = .ok (.getfield 28, 3) := by decide +kernel
theorem dX4_judge_36 : decode cX4_judge 36 = .ok (.iload_n 1, 1) := by decide +kernel
theorem dX4_judge_37 : decode cX4_judge 37 = .ok (.iaload, 1) := by decide +kernel
theorem dX4_judge_38 : decode cX4_judge 38 = .ok (.invokevirtual 155, 3) := by decide +kernel
theorem dX4_judge_41 : decode cX4_judge 41 = .ok (.ifCond .eq 10, 3) := by decide +kernel
theorem dX4_judge_44 : decode cX4_judge 44 = .ok (.aload_n 0, 1) := by decide +kernel
theorem dX4_judge_45 : decode cX4_judge 45 = .ok (.ldc 109, 2) := by decide +kernel
theorem dX4_judge_47 : decode cX4_judge 47 = .ok (.invokevirtual 36, 3) := by decide +kernel
theorem dX4_judge_50 : decode cX4_judge 50 = .ok (.ireturn, 1) := by decide +kernel
theorem dX4_judge_51 : decode cX4_judge 51 = .ok (.aload_n 0, 1) := by decide +kernel
theorem dX4_judge_52 : decode cX4_judge 52 = .ok (.getfield 9, 3) := by decide +kernel
theorem dX4_judge_55 : decode cX4_judge 55 = .ok (.aload_n 0, 1) := by decide +kernel
theorem dX4_judge_56 : decode cX4_judge 56 = .ok (.getfield 16, 3) := by decide +kernel
theorem dX4_judge_59 : decode cX4_judge 59 = .ok (.invokestatic 123, 3) := by decide +kernel
theorem dX4_judge_62 : decode cX4_judge 62 = .ok (.iconst 0, 1) := by decide +kernel
theorem dX4_judge_63 : decode cX4_judge 63 = .ok (.istore_n 2, 1) := by decide +kernel
theorem dX4_judge_64 : decode cX4_judge 64 = .ok (.iconst 1, 1) := by decide +kernel
theorem dX4_judge_65 : decode cX4_judge 65 = .ok (.istore_n 3, 1) := by decide +kernel
theorem dX4_judge_66 : decode cX4_judge 66 = .ok (.iload_n 3, 1) := by decide +kernel
theorem dX4_judge_67 : decode cX4_judge 67 = .ok (.ifCond .eq 60, 3) := by decide +kernel
theorem dX4_judge_70 : decode cX4_judge 70 = .ok (.iload_n 2, 1) := by decide +kernel
theorem dX4_judge_71 : decode cX4_judge 71 = .ok (.aload_n 0, 1) := by decide +kernel
theorem dX4_judge_72 : decode cX4_judge 72 = .ok (.getfield 28, 3) := by decide +kernel
theorem dX4_judge_75 : decode cX4_judge 75 = .ok (.iload_n 1, 1) := by decide +kernel
theorem dX4_judge_76 : decode cX4_judge 76 = .ok (.iaload, 1) := by decide +kernel
theorem dX4_judge_77 : decode cX4_judge 77 = .ok (.if_icmp .ge 50, 3) := by decide +kernel
theorem dX4_judge_80 : decode cX4_judge 80 = .ok (.aload_n 0, 1) := by decide +kernel
theorem dX4_judge_81 : decode cX4_judge 81 = .ok (.invokevirtual 149, 3) := by decide +kernel
theorem dX4_judge_84 : decode cX4_judge 84 = .ok (.pop, 1) := by decide +kernel
theorem dX4_judge_85 : decode cX4_judge 85 = .ok (.aload_n 0, 1) := by decide +kernel
theorem dX4_judge_86 : decode cX4_judge 86 = .ok (.getfield 31, 3) := by decide +kernel
theorem dX4_judge_89 : decode cX4_judge 89 = .ok (.bipush 40, 2) := by decide +kernel
theorem dX4_judge_91 : decode cX4_judge 91 = .ok (.iload_n 1, 1) := by decide +kernel
theorem dX4_judge_92 : decode cX4_judge 92 = .ok (.imul, 1) := by decide +kernel
theorem dX4_judge_93 : decode cX4_judge 93 = .ok (.iload_n 2, 1) := by decide +kernel
theorem dX4_judge_94 : decode cX4_judge 94 = .ok (.iadd, 1) := by decide +kernel
theorem dX4_judge_95 : decode cX4_judge 95 = .ok (.iaload, 1) := by decide +kernel
theorem dX4_judge_96 : decode cX4_judge 96 = .ok (.aload_n 0, 1) := by decide +kernel
theorem dX4_judge_97 : decode cX4_judge 97 = .ok (.getfield 9, 3) := by decide +kernel
theorem dX4_judge_100 : decode cX4_judge 100 = .ok (.bipush 6, 2) := by decide +kernel
theorem dX4_judge_102 : decode cX4_judge 102 = .ok (.iaload, 1) := by decide +kernel
theorem dX4_judge_103 : decode cX4_judge 103 = .ok (.if_icmp .ne 7, 3) := by decide +kernel
theorem dX4_judge_106 : decode cX4_judge 106 = .ok (.iconst 1, 1) := by decide +kernel
theorem dX4_judge_107 : decode cX4_judge 107 = .ok (.goto 4, 3) := by decide +kernel
theorem dX4_judge_110 : decode cX4_judge 110 = .ok (.iconst 0, 1) := by decide +kernel
theorem dX4_judge_111 : decode cX4_judge 111 = .ok (.istore_n 3, 1) := by decide +kernel
theorem dX4_judge_112 : decode cX4_judge 112 = .ok (.iload_n 2, 1) := by decide +kernel
theorem dX4_judge_113 : decode cX4_judge 113 = .ok (.iload_n 3, 1) := by decide +kernel
theorem dX4_judge_114 : decode cX4_judge 114 = .ok (.ifCond .eq 7, 3) := by decide +kernel
theorem dX4_judge_117 : decode cX4_judge 117 = .ok (.iconst 1, 1) := by decide +kernel
theorem dX4_judge_118 : decode cX4_judge 118 = .ok (.goto 4, 3) := by decide +kernel
theorem dX4_judge_121 : decode cX4_judge 121 = .ok (.iconst 0, 1) := by decide +kernel
theorem dX4_judge_122 : decode cX4_judge 122 = .ok (.iadd, 1) := by decide +kernel
theorem dX4_judge_123 : decode cX4_judge 123 = .ok (.istore_n 2, 1) := by decide +kernel
theorem dX4_judge_124 : decode cX4_judge 124 = .ok (.goto (-58), 3) := by decide +kernel
theorem dX4_judge_127 : decode cX4_judge 127 = .ok (.aload_n 0, 1) := by decide +kernel
theorem dX4_judge_128 : decode cX4_judge 128 = .ok (.getfield 16, 3) := by decide +kernel
theorem dX4_judge_131 : decode cX4_judge 131 = .ok (.aload_n 0, 1) := by decide +kernel
theorem dX4_judge_132 : decode cX4_judge 132 = .ok (.getfield 9, 3) := by decide +kernel
theorem dX4_judge_135 : decode cX4_judge 135 = .ok (.invokestatic 123, 3) := by decide +kernel
theorem dX4_judge_138 : decode cX4_judge 138 = .ok (.iload_n 3, 1) := by decide +kernel
theorem dX4_judge_139 : decode cX4_judge 139 = .ok (.ifCond .eq 7, 3) := by decide +kernel
theorem dX4_judge_142 : decode cX4_judge 142 = .ok (.iconst 0, 1) := by decide +kernel
theorem dX4_judge_143 : decode cX4_judge 143 = .ok (.goto 6, 3) := by decide +kernel
theorem dX4_judge_146 : decode cX4_judge 146 = .ok (.iconst 1, 1) := by decide +kernel
theorem dX4_judge_147 : decode cX4_judge 147 = .ok (.iload_n 2, 1) := by decide +kernel
theorem dX4_judge_148 : decode cX4_judge 148 = .ok (.iadd, 1) := by decide +kernel
theorem dX4_judge_149 : decode cX4_judge 149 = .ok (.ireturn, 1) := by decide +kernel
theorem dX4_image_0 : decode cX4_image 0 = .ok (.aload_n 0, 1) := by decide +kernel
theorem dX4_image_1 : decode cX4_image 1 = .ok (.getfield 9, 3) := by decide +kernel
theorem dX4_image_4 : decode cX4_image 4 = .ok (.aload_n 0, 1) := by decide +kernel
theorem dX4_image_5 : decode cX4_image 5 = .ok (.getfield 13, 3) := by decide +kernel
theorem dX4_image_8 : decode cX4_image 8 = .ok (.invokestatic 123, 3) := by decide +kernel
theorem dX4_image_11 : decode cX4_image 11 = .ok (.aload_n 0, 1) := by decide +kernel
theorem dX4_image_12 : decode cX4_image 12 = .ok (.iconst 1, 1) := by decide +kernel
theorem dX4_image_13 : decode cX4_image 13 = .ok (.putfield 302, 3) := by decide +kernel
theorem dX4_image_16 : decode cX4_image 16 = .ok (.iconst 1, 1) := by decide +kernel
theorem dX4_image_17 : decode cX4_image 17 = .ok (.ireturn, 1) := by decide +kernel
theorem dX4_undo_0 : decode cX4_undo 0 = .ok (.aload_n 0, 1) := by decide +kernel
theorem dX4_undo_1 : decode cX4_undo 1 = .ok (.getfield 302, 3) := by decide +kernel
theorem dX4_undo_4 : decode cX4_undo 4 = .ok (.ifCond .ne 10, 3) := by decide +kernel
theorem dX4_undo_7 : decode cX4_undo 7 = .ok (.aload_n 0, 1) := by decide +kernel
theorem dX4_undo_8 : decode cX4_undo 8 = .ok (.ldc 35, 2) := by decide +kernel
theorem dX4_undo_10 : decode cX4_undo 10 = .ok (.invokevirtual 36, 3) := by decide +kernel
theorem dX4_undo_13 : decode cX4_undo 13 = .ok (.ireturn, 1) := by decide +kernel
theorem dX4_undo_14 : decode cX4_undo 14 = .ok (.aload_n 0, 1) := by decide +kernel
theorem dX4_undo_15 : decode cX4_undo 15 = .ok (.getfield 13, 3) := by decide +kernel
theorem dX4_undo_18 : decode cX4_undo 18 = .ok (.aload_n 0, 1) := by decide +kernel
theorem dX4_undo_19 : decode cX4_undo 19 = .ok (.getfield 9, 3) := by decide +kernel
theorem dX4_undo_22 : decode cX4_undo 22 = .ok (.invokestatic 123, 3) := by decide +kernel
theorem dX4_undo_25 : decode cX4_undo 25 = .ok (.aload_n 0, 1) := by decide +kernel
theorem dX4_undo_26 : decode cX4_undo 26 = .ok (.getfield 9, 3) := by decide +kernel
theorem dX4_undo_29 : decode cX4_undo 29 = .ok (.iconst 5, 1) := by decide +kernel
theorem dX4_undo_30 : decode cX4_undo 30 = .ok (.iaload, 1) := by decide +kernel
theorem dX4_undo_31 : decode cX4_undo 31 = .ok (.ireturn, 1) := by decide +kernel
theorem dX4_tear_0 : decode cX4_tear 0 = .ok (.aload_n 0, 1) := by decide +kernel
theorem dX4_tear_1 : decode cX4_tear 1 = .ok (.getfield 302, 3) := by decide +kernel
theorem dX4_tear_4 : decode cX4_tear 4 = .ok (.ifCond .eq 7, 3) := by decide +kernel
theorem dX4_tear_7 : decode cX4_tear 7 = .ok (.iconst 1, 1) := by decide +kernel
theorem dX4_tear_8 : decode cX4_tear 8 = .ok (.goto 4, 3) := by decide +kernel
theorem dX4_tear_11 : decode cX4_tear 11 = .ok (.iconst 0, 1) := by decide +kernel
theorem dX4_tear_12 : decode cX4_tear 12 = .ok (.istore_n 1, 1) := by decide +kernel
theorem dX4_tear_13 : decode cX4_tear 13 = .ok (.aload_n 0, 1) := by decide +kernel
theorem dX4_tear_14 : decode cX4_tear 14 = .ok (.iconst 0, 1) := by decide +kernel
theorem dX4_tear_15 : decode cX4_tear 15 = .ok (.putfield 302, 3) := by decide +kernel
theorem dX4_tear_18 : decode cX4_tear 18 = .ok (.iload_n 1, 1) := by decide +kernel
theorem dX4_tear_19 : decode cX4_tear 19 = .ok (.ireturn, 1) := by decide +kernel
theorem dX4_holding_0 : decode cX4_holding 0 = .ok (.iconst 0, 1) := by decide +kernel
theorem dX4_holding_1 : decode cX4_holding 1 = .ok (.istore_n 1, 1) := by decide +kernel
theorem dX4_holding_2 : decode cX4_holding 2 = .ok (.iconst 0, 1) := by decide +kernel
theorem dX4_holding_3 : decode cX4_holding 3 = .ok (.istore_n 2, 1) := by decide +kernel
theorem dX4_holding_4 : decode cX4_holding 4 = .ok (.iload_n 2, 1) := by decide +kernel
theorem dX4_holding_5 : decode cX4_holding 5 = .ok (.bipush 10, 2) := by decide +kernel
theorem dX4_holding_7 : decode cX4_holding 7 = .ok (.if_icmp .ge 29, 3) := by decide +kernel
theorem dX4_holding_10 : decode cX4_holding 10 = .ok (.iload_n 1, 1) := by decide +kernel
theorem dX4_holding_11 : decode cX4_holding 11 = .ok (.aload_n 0, 1) := by decide +kernel
theorem dX4_holding_12 : decode cX4_holding 12 = .ok (.getfield 9, 3) := by decide +kernel
theorem dX4_holding_15 : decode cX4_holding 15 = .ok (.bipush 69, 2) := by decide +kernel
theorem dX4_holding_17 : decode cX4_holding 17 = .ok (.iload_n 2, 1) := by decide +kernel
theorem dX4_holding_18 : decode cX4_holding 18 = .ok (.iadd, 1) := by decide +kernel
theorem dX4_holding_19 : decode cX4_holding 19 = .ok (.iaload, 1) := by decide +kernel
theorem dX4_holding_20 : decode cX4_holding 20 = .ok (.ifCond .ge 7, 3) := by decide +kernel
theorem dX4_holding_23 : decode cX4_holding 23 = .ok (.iconst 0, 1) := by decide +kernel
theorem dX4_holding_24 : decode cX4_holding 24 = .ok (.goto 4, 3) := by decide +kernel
theorem dX4_holding_27 : decode cX4_holding 27 = .ok (.iconst 1, 1) := by decide +kernel
theorem dX4_holding_28 : decode cX4_holding 28 = .ok (.iadd, 1) := by decide +kernel
theorem dX4_holding_29 : decode cX4_holding 29 = .ok (.istore_n 1, 1) := by decide +kernel
theorem dX4_holding_30 : decode cX4_holding 30 = .ok (.iinc 2 1, 3) := by decide +kernel
theorem dX4_holding_33 : decode cX4_holding 33 = .ok (.goto (-29), 3) := by decide +kernel
theorem dX4_holding_36 : decode cX4_holding 36 = .ok (.iload_n 1, 1) := by decide +kernel
theorem dX4_holding_37 : decode cX4_holding 37 = .ok (.ireturn, 1) := by decide +kernel
theorem dX4_count_0 : decode cX4_count 0 = .ok (.iload_n 1, 1) := by decide +kernel
theorem dX4_count_1 : decode cX4_count 1 = .ok (.tableswitch 98 0 7 #[47, 54, 62, 68, 74, 80, 85, 93], 47) := by decide +kernel
theorem dX4_count_48 : decode cX4_count 48 = .ok (.aload_n 0, 1) := by decide +kernel
theorem dX4_count_49 : decode cX4_count 49 = .ok (.getfield 9, 3) := by decide +kernel
theorem dX4_count_52 : decode cX4_count 52 = .ok (.iconst 5, 1) := by decide +kernel
theorem dX4_count_53 : decode cX4_count 53 = .ok (.iaload, 1) := by decide +kernel
theorem dX4_count_54 : decode cX4_count 54 = .ok (.ireturn, 1) := by decide +kernel
theorem dX4_count_55 : decode cX4_count 55 = .ok (.aload_n 0, 1) := by decide +kernel
theorem dX4_count_56 : decode cX4_count 56 = .ok (.getfield 9, 3) := by decide +kernel
theorem dX4_count_59 : decode cX4_count 59 = .ok (.bipush 8, 2) := by decide +kernel
theorem dX4_count_61 : decode cX4_count 61 = .ok (.iaload, 1) := by decide +kernel
theorem dX4_count_62 : decode cX4_count 62 = .ok (.ireturn, 1) := by decide +kernel
theorem dX4_count_63 : decode cX4_count 63 = .ok (.aload_n 0, 1) := by decide +kernel
theorem dX4_count_64 : decode cX4_count 64 = .ok (.iconst 1, 1) := by decide +kernel
theorem dX4_count_65 : decode cX4_count 65 = .ok (.invokevirtual 161, 3) := by decide +kernel
theorem dX4_count_68 : decode cX4_count 68 = .ok (.ireturn, 1) := by decide +kernel
theorem dX4_count_69 : decode cX4_count 69 = .ok (.aload_n 0, 1) := by decide +kernel
theorem dX4_count_70 : decode cX4_count 70 = .ok (.iconst 3, 1) := by decide +kernel
theorem dX4_count_71 : decode cX4_count 71 = .ok (.invokevirtual 161, 3) := by decide +kernel
theorem dX4_count_74 : decode cX4_count 74 = .ok (.ireturn, 1) := by decide +kernel
theorem dX4_count_75 : decode cX4_count 75 = .ok (.aload_n 0, 1) := by decide +kernel
theorem dX4_count_76 : decode cX4_count 76 = .ok (.iconst 4, 1) := by decide +kernel
theorem dX4_count_77 : decode cX4_count 77 = .ok (.invokevirtual 161, 3) := by decide +kernel
theorem dX4_count_80 : decode cX4_count 80 = .ok (.ireturn, 1) := by decide +kernel
theorem dX4_count_81 : decode cX4_count 81 = .ok (.aload_n 0, 1) := by decide +kernel
theorem dX4_count_82 : decode cX4_count 82 = .ok (.getfield 197, 3) := by decide +kernel
theorem dX4_count_85 : decode cX4_count 85 = .ok (.ireturn, 1) := by decide +kernel
theorem dX4_count_86 : decode cX4_count 86 = .ok (.aload_n 0, 1) := by decide +kernel
theorem dX4_count_87 : decode cX4_count 87 = .ok (.getfield 9, 3) := by decide +kernel
theorem dX4_count_90 : decode cX4_count 90 = .ok (.bipush 7, 2) := by decide +kernel
theorem dX4_count_92 : decode cX4_count 92 = .ok (.iaload, 1) := by decide +kernel
theorem dX4_count_93 : decode cX4_count 93 = .ok (.ireturn, 1) := by decide +kernel
theorem dX4_count_94 : decode cX4_count 94 = .ok (.aload_n 0, 1) := by decide +kernel
theorem dX4_count_95 : decode cX4_count 95 = .ok (.invokevirtual 305, 3) := by decide +kernel
theorem dX4_count_98 : decode cX4_count 98 = .ok (.ireturn, 1) := by decide +kernel
theorem dX4_count_99 : decode cX4_count 99 = .ok (.aload_n 0, 1) := by decide +kernel
theorem dX4_count_100 : decode cX4_count 100 = .ok (.ldc 34, 2) := by decide +kernel
theorem dX4_count_102 : decode cX4_count 102 = .ok (.invokevirtual 36, 3) := by decide +kernel
theorem dX4_count_105 : decode cX4_count 105 = .ok (.ireturn, 1) := by decide +kernel
theorem dX4_status_0 : decode cX4_status 0 = .ok (.iload_n 1, 1) := by decide +kernel
theorem dX4_status_1 : decode cX4_status 1 = .ok (.i2l, 1) := by decide +kernel
theorem dX4_status_2 : decode cX4_status 2 = .ok (.ldc2_w 308, 3) := by decide +kernel
theorem dX4_status_5 : decode cX4_status 5 = .ok (.ldc2_w 44, 3) := by decide +kernel
theorem dX4_status_8 : decode cX4_status 8 = .ok (.invokestatic 40, 3) := by decide +kernel
theorem dX4_status_11 : decode cX4_status 11 = .ok (.ifCond .ne 10, 3) := by decide +kernel
theorem dX4_status_14 : decode cX4_status 14 = .ok (.aload_n 0, 1) := by decide +kernel
theorem dX4_status_15 : decode cX4_status 15 = .ok (.ldc 34, 2) := by decide +kernel
theorem dX4_status_17 : decode cX4_status 17 = .ok (.invokevirtual 36, 3) := by decide +kernel
theorem dX4_status_20 : decode cX4_status 20 = .ok (.ireturn, 1) := by decide +kernel
theorem dX4_status_21 : decode cX4_status 21 = .ok (.iconst 0, 1) := by decide +kernel
theorem dX4_status_22 : decode cX4_status 22 = .ok (.istore_n 2, 1) := by decide +kernel
theorem dX4_status_23 : decode cX4_status 23 = .ok (.iconst 0, 1) := by decide +kernel
theorem dX4_status_24 : decode cX4_status 24 = .ok (.istore_n 3, 1) := by decide +kernel
theorem dX4_status_25 : decode cX4_status 25 = .ok (.iload_n 3, 1) := by decide +kernel
theorem dX4_status_26 : decode cX4_status 26 = .ok (.bipush 7, 2) := by decide +kernel
theorem dX4_status_28 : decode cX4_status 28 = .ok (.if_icmp .ge 31, 3) := by decide +kernel
theorem dX4_status_31 : decode cX4_status 31 = .ok (.iload_n 2, 1) := by decide +kernel
theorem dX4_status_32 : decode cX4_status 32 = .ok (.iload_n 1, 1) := by decide +kernel
theorem dX4_status_33 : decode cX4_status 33 = .ok (.ifCond .lt 8, 3) := by decide +kernel
theorem dX4_status_36 : decode cX4_status 36 = .ok (.iload_n 1, 1) := by decide +kernel
theorem dX4_status_37 : decode cX4_status 37 = .ok (.iload_n 3, 1) := by decide +kernel
theorem dX4_status_38 : decode cX4_status 38 = .ok (.if_icmp .ne 12, 3) := by decide +kernel
theorem dX4_status_41 : decode cX4_status 41 = .ok (.aload_n 0, 1) := by decide +kernel
theorem dX4_status_42 : decode cX4_status 42 = .ok (.getfield 19, 3) := by decide +kernel
theorem dX4_status_45 : decode cX4_status 45 = .ok (.iload_n 3, 1) := by decide +kernel
theorem dX4_status_46 : decode cX4_status 46 = .ok (.iaload, 1) := by decide +kernel
theorem dX4_status_47 : decode cX4_status 47 = .ok (.goto 4, 3) := by decide +kernel
theorem dX4_status_50 : decode cX4_status 50 = .ok (.iconst 0, 1) := by decide +kernel
theorem dX4_status_51 : decode cX4_status 51 = .ok (.iadd, 1) := by decide +kernel
theorem dX4_status_52 : decode cX4_status 52 = .ok (.istore_n 2, 1) := by decide +kernel
theorem dX4_status_53 : decode cX4_status 53 = .ok (.iinc 3 1, 3) := by decide +kernel
theorem dX4_status_56 : decode cX4_status 56 = .ok (.goto (-31), 3) := by decide +kernel
theorem dX4_status_59 : decode cX4_status 59 = .ok (.iload_n 2, 1) := by decide +kernel
theorem dX4_status_60 : decode cX4_status 60 = .ok (.ireturn, 1) := by decide +kernel
theorem dL_law_0 : decode cL_law 0 = .ok (.new 7, 3) := by decide +kernel
theorem dL_law_3 : decode cL_law 3 = .ok (.dup, 1) := by decide +kernel
theorem dL_law_4 : decode cL_law 4 = .ok (.invokespecial 9, 3) := by decide +kernel
theorem dL_law_7 : decode cL_law 7 = .ok (.astore_n 1, 1) := by decide +kernel
theorem dL_law_8 : decode cL_law 8 = .ok (.new 10, 3) := by decide +kernel
theorem dL_law_11 : decode cL_law 11 = .ok (.dup, 1) := by decide +kernel
theorem dL_law_12 : decode cL_law 12 = .ok (.invokespecial 12, 3) := by decide +kernel
theorem dL_law_15 : decode cL_law 15 = .ok (.astore_n 2, 1) := by decide +kernel
theorem dL_law_16 : decode cL_law 16 = .ok (.iconst 0, 1) := by decide +kernel
theorem dL_law_17 : decode cL_law 17 = .ok (.istore_n 3, 1) := by decide +kernel
theorem dL_law_18 : decode cL_law 18 = .ok (.iload_n 3, 1) := by decide +kernel
theorem dL_law_19 : decode cL_law 19 = .ok (.aload_n 0, 1) := by decide +kernel
theorem dL_law_20 : decode cL_law 20 = .ok (.arraylength, 1) := by decide +kernel
theorem dL_law_21 : decode cL_law 21 = .ok (.bipush 6, 2) := by decide +kernel
theorem dL_law_23 : decode cL_law 23 = .ok (.isub, 1) := by decide +kernel
theorem dL_law_24 : decode cL_law 24 = .ok (.if_icmp .gt 1376, 3) := by decide +kernel
theorem dL_law_27 : decode cL_law 27 = .ok (.aload_n 0, 1) := by decide +kernel
theorem dL_law_28 : decode cL_law 28 = .ok (.iload_n 3, 1) := by decide +kernel
theorem dL_law_29 : decode cL_law 29 = .ok (.iaload, 1) := by decide +kernel
theorem dL_law_30 : decode cL_law 30 = .ok (.bipush 63, 2) := by decide +kernel
theorem dL_law_32 : decode cL_law 32 = .ok (.iand, 1) := by decide +kernel
theorem dL_law_33 : decode cL_law 33 = .ok (.tableswitch 1361 0 45 #[199, 222, 255, 298, 331, 354, 377, 410, 423, 436, 479, 492, 505, 518, 541, 574, 587, 610, 633, 656, 679, 712, 745, 768, 791, 824, 838, 862, 886, 909, 932, 965, 978, 991, 1024, 1057, 1100, 1143, 1206, 1229, 1253, 1276, 1289, 1302, 1315, 1338], 199) := by decide +kernel
theorem dL_law_232 : decode cL_law 232 = .ok (.aload_n 1, 1) := by decide +kernel
theorem dL_law_233 : decode cL_law 233 = .ok (.aload_n 0, 1) := by decide +kernel
theorem dL_law_234 : decode cL_law 234 = .ok (.iload_n 3, 1) := by decide +kernel
theorem dL_law_235 : decode cL_law 235 = .ok (.iconst 1, 1) := by decide +kernel
theorem dL_law_236 : decode cL_law 236 = .ok (.iadd, 1) := by decide +kernel
theorem dL_law_237 : decode cL_law 237 = .ok (.iaload, 1) := by decide +kernel
theorem dL_law_238 : decode cL_law 238 = .ok (.invokevirtual 13, 3) := by decide +kernel
theorem dL_law_241 : decode cL_law 241 = .ok (.aload_n 2, 1) := by decide +kernel
theorem dL_law_242 : decode cL_law 242 = .ok (.aload_n 0, 1) := by decide +kernel
theorem dL_law_243 : decode cL_law 243 = .ok (.iload_n 3, 1) := by decide +kernel
theorem dL_law_244 : decode cL_law 244 = .ok (.iconst 1, 1) := by decide +kernel
theorem dL_law_245 : decode cL_law 245 = .ok (.iadd, 1) := by decide +kernel
theorem dL_law_246 : decode cL_law 246 = .ok (.iaload, 1) := by decide +kernel
theorem dL_law_247 : decode cL_law 247 = .ok (.invokevirtual 17, 3) := by decide +kernel
theorem dL_law_250 : decode cL_law 250 = .ok (.if_icmp .eq 1144, 3) := by decide +kernel
theorem dL_law_253 : decode cL_law 253 = .ok (.iconst 0, 1) := by decide +kernel
theorem dL_law_254 : decode cL_law 254 = .ok (.ireturn, 1) := by decide +kernel
theorem dL_law_255 : decode cL_law 255 = .ok (.aload_n 1, 1) := by decide +kernel
theorem dL_law_256 : decode cL_law 256 = .ok (.aload_n 0, 1) := by decide +kernel
theorem dL_law_257 : decode cL_law 257 = .ok (.iload_n 3, 1) := by decide +kernel
theorem dL_law_258 : decode cL_law 258 = .ok (.iconst 1, 1) := by decide +kernel
theorem dL_law_259 : decode cL_law 259 = .ok (.iadd, 1) := by decide +kernel
theorem dL_law_260 : decode cL_law 260 = .ok (.iaload, 1) := by decide +kernel
theorem dL_law_261 : decode cL_law 261 = .ok (.aload_n 0, 1) := by decide +kernel
theorem dL_law_262 : decode cL_law 262 = .ok (.iload_n 3, 1) := by decide +kernel
theorem dL_law_263 : decode cL_law 263 = .ok (.iconst 2, 1) := by decide +kernel
theorem dL_law_264 : decode cL_law 264 = .ok (.iadd, 1) := by decide +kernel
theorem dL_law_265 : decode cL_law 265 = .ok (.iaload, 1) := by decide +kernel
theorem dL_law_266 : decode cL_law 266 = .ok (.invokevirtual 18, 3) := by decide +kernel
theorem dL_law_269 : decode cL_law 269 = .ok (.aload_n 2, 1) := by decide +kernel
theorem dL_law_270 : decode cL_law 270 = .ok (.aload_n 0, 1) := by decide +kernel
theorem dL_law_271 : decode cL_law 271 = .ok (.iload_n 3, 1) := by decide +kernel
theorem dL_law_272 : decode cL_law 272 = .ok (.iconst 1, 1) := by decide +kernel
theorem dL_law_273 : decode cL_law 273 = .ok (.iadd, 1) := by decide +kernel
theorem dL_law_274 : decode cL_law 274 = .ok (.iaload, 1) := by decide +kernel
theorem dL_law_275 : decode cL_law 275 = .ok (.aload_n 0, 1) := by decide +kernel
theorem dL_law_276 : decode cL_law 276 = .ok (.iload_n 3, 1) := by decide +kernel
theorem dL_law_277 : decode cL_law 277 = .ok (.iconst 2, 1) := by decide +kernel
theorem dL_law_278 : decode cL_law 278 = .ok (.iadd, 1) := by decide +kernel
theorem dL_law_279 : decode cL_law 279 = .ok (.iaload, 1) := by decide +kernel
theorem dL_law_280 : decode cL_law 280 = .ok (.invokevirtual 22, 3) := by decide +kernel
theorem dL_law_283 : decode cL_law 283 = .ok (.if_icmp .eq 1111, 3) := by decide +kernel
theorem dL_law_286 : decode cL_law 286 = .ok (.iconst 0, 1) := by decide +kernel
theorem dL_law_287 : decode cL_law 287 = .ok (.ireturn, 1) := by decide +kernel
theorem dL_law_288 : decode cL_law 288 = .ok (.aload_n 1, 1) := by decide +kernel
theorem dL_law_289 : decode cL_law 289 = .ok (.aload_n 0, 1) := by decide +kernel
theorem dL_law_290 : decode cL_law 290 = .ok (.iload_n 3, 1) := by decide +kernel
theorem dL_law_291 : decode cL_law 291 = .ok (.iconst 1, 1) := by decide +kernel
theorem dL_law_292 : decode cL_law 292 = .ok (.iadd, 1) := by decide +kernel
theorem dL_law_293 : decode cL_law 293 = .ok (.iaload, 1) := by decide +kernel
theorem dL_law_294 : decode cL_law 294 = .ok (.aload_n 0, 1) := by decide +kernel
theorem dL_law_295 : decode cL_law 295 = .ok (.iload_n 3, 1) := by decide +kernel
theorem dL_law_296 : decode cL_law 296 = .ok (.iconst 2, 1) := by decide +kernel
theorem dL_law_297 : decode cL_law 297 = .ok (.iadd, 1) := by decide +kernel
theorem dL_law_298 : decode cL_law 298 = .ok (.iaload, 1) := by decide +kernel
theorem dL_law_299 : decode cL_law 299 = .ok (.aload_n 0, 1) := by decide +kernel
theorem dL_law_300 : decode cL_law 300 = .ok (.iload_n 3, 1) := by decide +kernel
theorem dL_law_301 : decode cL_law 301 = .ok (.iconst 3, 1) := by decide +kernel
theorem dL_law_302 : decode cL_law 302 = .ok (.iadd, 1) := by decide +kernel
theorem dL_law_303 : decode cL_law 303 = .ok (.iaload, 1) := by decide +kernel
theorem dL_law_304 : decode cL_law 304 = .ok (.invokevirtual 23, 3) := by decide +kernel
theorem dL_law_307 : decode cL_law 307 = .ok (.aload_n 2, 1) := by decide +kernel
theorem dL_law_308 : decode cL_law 308 = .ok (.aload_n 0, 1) := by decide +kernel
theorem dL_law_309 : decode cL_law 309 = .ok (.iload_n 3, 1) := by decide +kernel
theorem dL_law_310 : decode cL_law 310 = .ok (.iconst 1, 1) := by decide +kernel
theorem dL_law_311 : decode cL_law 311 = .ok (.iadd, 1) := by decide +kernel
theorem dL_law_312 : decode cL_law 312 = .ok (.iaload, 1) := by decide +kernel
theorem dL_law_313 : decode cL_law 313 = .ok (.aload_n 0, 1) := by decide +kernel
theorem dL_law_314 : decode cL_law 314 = .ok (.iload_n 3, 1) := by decide +kernel
theorem dL_law_315 : decode cL_law 315 = .ok (.iconst 2, 1) := by decide +kernel
theorem dL_law_316 : decode cL_law 316 = .ok (.iadd, 1) := by decide +kernel
theorem dL_law_317 : decode cL_law 317 = .ok (.iaload, 1) := by decide +kernel
theorem dL_law_318 : decode cL_law 318 = .ok (.aload_n 0, 1) := by decide +kernel
theorem dL_law_319 : decode cL_law 319 = .ok (.iload_n 3, 1) := by decide +kernel
theorem dL_law_320 : decode cL_law 320 = .ok (.iconst 3, 1) := by decide +kernel
theorem dL_law_321 : decode cL_law 321 = .ok (.iadd, 1) := by decide +kernel
theorem dL_law_322 : decode cL_law 322 = .ok (.iaload, 1) := by decide +kernel
theorem dL_law_323 : decode cL_law 323 = .ok (.invokevirtual 27, 3) := by decide +kernel
theorem dL_law_326 : decode cL_law 326 = .ok (.if_icmp .eq 1068, 3) := by decide +kernel
theorem dL_law_329 : decode cL_law 329 = .ok (.iconst 0, 1) := by decide +kernel
theorem dL_law_330 : decode cL_law 330 = .ok (.ireturn, 1) := by decide +kernel
theorem dL_law_331 : decode cL_law 331 = .ok (.aload_n 1, 1) := by decide +kernel
theorem dL_law_332 : decode cL_law 332 = .ok (.aload_n 0, 1) := by decide +kernel
theorem dL_law_333 : decode cL_law 333 = .ok (.iload_n 3, 1) := by decide +kernel
theorem dL_law_334 : decode cL_law 334 = .ok (.iconst 1, 1) := by decide +kernel
theorem dL_law_335 : decode cL_law 335 = .ok (.iadd, 1) := by decide +kernel
theorem dL_law_336 : decode cL_law 336 = .ok (.iaload, 1) := by decide +kernel
theorem dL_law_337 : decode cL_law 337 = .ok (.aload_n 0, 1) := by decide +kernel
theorem dL_law_338 : decode cL_law 338 = .ok (.iload_n 3, 1) := by decide +kernel
theorem dL_law_339 : decode cL_law 339 = .ok (.iconst 2, 1) := by decide +kernel
theorem dL_law_340 : decode cL_law 340 = .ok (.iadd, 1) := by decide +kernel
theorem dL_law_341 : decode cL_law 341 = .ok (.iaload, 1) := by decide +kernel
theorem dL_law_342 : decode cL_law 342 = .ok (.invokevirtual 28, 3) := by decide +kernel
theorem dL_law_345 : decode cL_law 345 = .ok (.aload_n 2, 1) := by decide +kernel
theorem dL_law_346 : decode cL_law 346 = .ok (.aload_n 0, 1) := by decide +kernel
theorem dL_law_347 : decode cL_law 347 = .ok (.iload_n 3, 1) := by decide +kernel
theorem dL_law_348 : decode cL_law 348 = .ok (.iconst 1, 1) := by decide +kernel
theorem dL_law_349 : decode cL_law 349 = .ok (.iadd, 1) := by decide +kernel
theorem dL_law_350 : decode cL_law 350 = .ok (.iaload, 1) := by decide +kernel
theorem dL_law_351 : decode cL_law 351 = .ok (.aload_n 0, 1) := by decide +kernel
theorem dL_law_352 : decode cL_law 352 = .ok (.iload_n 3, 1) := by decide +kernel
theorem dL_law_353 : decode cL_law 353 = .ok (.iconst 2, 1) := by decide +kernel
theorem dL_law_354 : decode cL_law 354 = .ok (.iadd, 1) := by decide +kernel
theorem dL_law_355 : decode cL_law 355 = .ok (.iaload, 1) := by decide +kernel
theorem dL_law_356 : decode cL_law 356 = .ok (.invokevirtual 31, 3) := by decide +kernel
theorem dL_law_359 : decode cL_law 359 = .ok (.if_icmp .eq 1035, 3) := by decide +kernel
theorem dL_law_362 : decode cL_law 362 = .ok (.iconst 0, 1) := by decide +kernel
theorem dL_law_363 : decode cL_law 363 = .ok (.ireturn, 1) := by decide +kernel
theorem dL_law_364 : decode cL_law 364 = .ok (.aload_n 1, 1) := by decide +kernel
theorem dL_law_365 : decode cL_law 365 = .ok (.aload_n 0, 1) := by decide +kernel
theorem dL_law_366 : decode cL_law 366 = .ok (.iload_n 3, 1) := by decide +kernel
theorem dL_law_367 : decode cL_law 367 = .ok (.iconst 1, 1) := by decide +kernel
theorem dL_law_368 : decode cL_law 368 = .ok (.iadd, 1) := by decide +kernel
theorem dL_law_369 : decode cL_law 369 = .ok (.iaload, 1) := by decide +kernel
theorem dL_law_370 : decode cL_law 370 = .ok (.invokevirtual 32, 3) := by decide +kernel
theorem dL_law_373 : decode cL_law 373 = .ok (.aload_n 2, 1) := by decide +kernel
theorem dL_law_374 : decode cL_law 374 = .ok (.aload_n 0, 1) := by decide +kernel
theorem dL_law_375 : decode cL_law 375 = .ok (.iload_n 3, 1) := by decide +kernel
theorem dL_law_376 : decode cL_law 376 = .ok (.iconst 1, 1) := by decide +kernel
theorem dL_law_377 : decode cL_law 377 = .ok (.iadd, 1) := by decide +kernel
theorem dL_law_378 : decode cL_law 378 = .ok (.iaload, 1) := by decide +kernel
theorem dL_law_379 : decode cL_law 379 = .ok (.invokevirtual 35, 3) := by decide +kernel
theorem dL_law_382 : decode cL_law 382 = .ok (.if_icmp .eq 1012, 3) := by decide +kernel
theorem dL_law_385 : decode cL_law 385 = .ok (.iconst 0, 1) := by decide +kernel
theorem dL_law_386 : decode cL_law 386 = .ok (.ireturn, 1) := by decide +kernel
theorem dL_law_387 : decode cL_law 387 = .ok (.aload_n 1, 1) := by decide +kernel
theorem dL_law_388 : decode cL_law 388 = .ok (.aload_n 0, 1) := by decide +kernel
theorem dL_law_389 : decode cL_law 389 = .ok (.iload_n 3, 1) := by decide +kernel
theorem dL_law_390 : decode cL_law 390 = .ok (.iconst 1, 1) := by decide +kernel
theorem dL_law_391 : decode cL_law 391 = .ok (.iadd, 1) := by decide +kernel
theorem dL_law_392 : decode cL_law 392 = .ok (.iaload, 1) := by decide +kernel
theorem dL_law_393 : decode cL_law 393 = .ok (.invokevirtual 36, 3) := by decide +kernel
theorem dL_law_396 : decode cL_law 396 = .ok (.aload_n 2, 1) := by decide +kernel
theorem dL_law_397 : decode cL_law 397 = .ok (.aload_n 0, 1) := by decide +kernel
theorem dL_law_398 : decode cL_law 398 = .ok (.iload_n 3, 1) := by decide +kernel
theorem dL_law_399 : decode cL_law 399 = .ok (.iconst 1, 1) := by decide +kernel
theorem dL_law_400 : decode cL_law 400 = .ok (.iadd, 1) := by decide +kernel
theorem dL_law_401 : decode cL_law 401 = .ok (.iaload, 1) := by decide +kernel
theorem dL_law_402 : decode cL_law 402 = .ok (.invokevirtual 39, 3) := by decide +kernel
theorem dL_law_405 : decode cL_law 405 = .ok (.if_icmp .eq 989, 3) := by decide +kernel
theorem dL_law_408 : decode cL_law 408 = .ok (.iconst 0, 1) := by decide +kernel
theorem dL_law_409 : decode cL_law 409 = .ok (.ireturn, 1) := by decide +kernel
theorem dL_law_410 : decode cL_law 410 = .ok (.aload_n 1, 1) := by decide +kernel
theorem dL_law_411 : decode cL_law 411 = .ok (.aload_n 0, 1) := by decide +kernel
theorem dL_law_412 : decode cL_law 412 = .ok (.iload_n 3, 1) := by decide +kernel
theorem dL_law_413 : decode cL_law 413 = .ok (.iconst 1, 1) := by decide +kernel
theorem dL_law_414 : decode cL_law 414 = .ok (.iadd, 1) := by decide +kernel
theorem dL_law_415 : decode cL_law 415 = .ok (.iaload, 1) := by decide +kernel
theorem dL_law_416 : decode cL_law 416 = .ok (.aload_n 0, 1) := by decide +kernel
theorem dL_law_417 : decode cL_law 417 = .ok (.iload_n 3, 1) := by decide +kernel
theorem dL_law_418 : decode cL_law 418 = .ok (.iconst 2, 1) := by decide +kernel
theorem dL_law_419 : decode cL_law 419 = .ok (.iadd, 1) := by decide +kernel
theorem dL_law_420 : decode cL_law 420 = .ok (.iaload, 1) := by decide +kernel
theorem dL_law_421 : decode cL_law 421 = .ok (.invokevirtual 40, 3) := by decide +kernel
theorem dL_law_424 : decode cL_law 424 = .ok (.aload_n 2, 1) := by decide +kernel
theorem dL_law_425 : decode cL_law 425 = .ok (.aload_n 0, 1) := by decide +kernel
theorem dL_law_426 : decode cL_law 426 = .ok (.iload_n 3, 1) := by decide +kernel
theorem dL_law_427 : decode cL_law 427 = .ok (.iconst 1, 1) := by decide +kernel
theorem dL_law_428 : decode cL_law 428 = .ok (.iadd, 1) := by decide +kernel
theorem dL_law_429 : decode cL_law 429 = .ok (.iaload, 1) := by decide +kernel
theorem dL_law_430 : decode cL_law 430 = .ok (.aload_n 0, 1) := by decide +kernel
theorem dL_law_431 : decode cL_law 431 = .ok (.iload_n 3, 1) := by decide +kernel
theorem dL_law_432 : decode cL_law 432 = .ok (.iconst 2, 1) := by decide +kernel
theorem dL_law_433 : decode cL_law 433 = .ok (.iadd, 1) := by decide +kernel
theorem dL_law_434 : decode cL_law 434 = .ok (.iaload, 1) := by decide +kernel
theorem dL_law_435 : decode cL_law 435 = .ok (.invokevirtual 43, 3) := by decide +kernel
theorem dL_law_438 : decode cL_law 438 = .ok (.if_icmp .eq 956, 3) := by decide +kernel
theorem dL_law_441 : decode cL_law 441 = .ok (.iconst 0, 1) := by decide +kernel
theorem dL_law_442 : decode cL_law 442 = .ok (.ireturn, 1) := by decide +kernel
theorem dL_law_443 : decode cL_law 443 = .ok (.aload_n 1, 1) := by decide +kernel
theorem dL_law_444 : decode cL_law 444 = .ok (.invokevirtual 44, 3) := by decide +kernel
theorem dL_law_447 : decode cL_law 447 = .ok (.aload_n 2, 1) := by decide +kernel
theorem dL_law_448 : decode cL_law 448 = .ok (.invokevirtual 48, 3) := by decide +kernel
theorem dL_law_451 : decode cL_law 451 = .ok (.if_icmp .eq 943, 3) := by decide +kernel
theorem dL_law_454 : decode cL_law 454 = .ok (.iconst 0, 1) := by decide +kernel
theorem dL_law_455 : decode cL_law 455 = .ok (.ireturn, 1) := by decide +kernel
theorem dL_law_456 : decode cL_law 456 = .ok (.aload_n 1, 1) := by decide +kernel
theorem dL_law_457 : decode cL_law 457 = .ok (.invokevirtual 49, 3) := by decide +kernel
theorem dL_law_460 : decode cL_law 460 = .ok (.aload_n 2, 1) := by decide +kernel
theorem dL_law_461 : decode cL_law 461 = .ok (.invokevirtual 52, 3) := by decide +kernel
theorem dL_law_464 : decode cL_law 464 = .ok (.if_icmp .eq 930, 3) := by decide +kernel
theorem dL_law_467 : decode cL_law 467 = .ok (.iconst 0, 1) := by decide +kernel
theorem dL_law_468 : decode cL_law 468 = .ok (.ireturn, 1) := by decide +kernel
theorem dL_law_469 : decode cL_law 469 = .ok (.aload_n 1, 1) := by decide +kernel
theorem dL_law_470 : decode cL_law 470 = .ok (.aload_n 0, 1) := by decide +kernel
theorem dL_law_471 : decode cL_law 471 = .ok (.iload_n 3, 1) := by decide +kernel
theorem dL_law_472 : decode cL_law 472 = .ok (.iconst 1, 1) := by decide +kernel
theorem dL_law_473 : decode cL_law 473 = .ok (.iadd, 1) := by decide +kernel
theorem dL_law_474 : decode cL_law 474 = .ok (.iaload, 1) := by decide +kernel
theorem dL_law_475 : decode cL_law 475 = .ok (.aload_n 0, 1) := by decide +kernel
theorem dL_law_476 : decode cL_law 476 = .ok (.iload_n 3, 1) := by decide +kernel
theorem dL_law_477 : decode cL_law 477 = .ok (.iconst 2, 1) := by decide +kernel
theorem dL_law_478 : decode cL_law 478 = .ok (.iadd, 1) := by decide +kernel
theorem dL_law_479 : decode cL_law 479 = .ok (.iaload, 1) := by decide +kernel
theorem dL_law_480 : decode cL_law 480 = .ok (.aload_n 0, 1) := by decide +kernel
theorem dL_law_481 : decode cL_law 481 = .ok (.iload_n 3, 1) := by decide +kernel
theorem dL_law_482 : decode cL_law 482 = .ok (.iconst 3, 1) := by decide +kernel
theorem dL_law_483 : decode cL_law 483 = .ok (.iadd, 1) := by decide +kernel
theorem dL_law_484 : decode cL_law 484 = .ok (.iaload, 1) := by decide +kernel
theorem dL_law_485 : decode cL_law 485 = .ok (.invokevirtual 53, 3) := by decide +kernel
theorem dL_law_488 : decode cL_law 488 = .ok (.aload_n 2, 1) := by decide +kernel
theorem dL_law_489 : decode cL_law 489 = .ok (.aload_n 0, 1) := by decide +kernel
theorem dL_law_490 : decode cL_law 490 = .ok (.iload_n 3, 1) := by decide +kernel
theorem dL_law_491 : decode cL_law 491 = .ok (.iconst 1, 1) := by decide +kernel
theorem dL_law_492 : decode cL_law 492 = .ok (.iadd, 1) := by decide +kernel
theorem dL_law_493 : decode cL_law 493 = .ok (.iaload, 1) := by decide +kernel
theorem dL_law_494 : decode cL_law 494 = .ok (.aload_n 0, 1) := by decide +kernel
theorem dL_law_495 : decode cL_law 495 = .ok (.iload_n 3, 1) := by decide +kernel
theorem dL_law_496 : decode cL_law 496 = .ok (.iconst 2, 1) := by decide +kernel
theorem dL_law_497 : decode cL_law 497 = .ok (.iadd, 1) := by decide +kernel
theorem dL_law_498 : decode cL_law 498 = .ok (.iaload, 1) := by decide +kernel
theorem dL_law_499 : decode cL_law 499 = .ok (.aload_n 0, 1) := by decide +kernel
theorem dL_law_500 : decode cL_law 500 = .ok (.iload_n 3, 1) := by decide +kernel
theorem dL_law_501 : decode cL_law 501 = .ok (.iconst 3, 1) := by decide +kernel
theorem dL_law_502 : decode cL_law 502 = .ok (.iadd, 1) := by decide +kernel
theorem dL_law_503 : decode cL_law 503 = .ok (.iaload, 1) := by decide +kernel
theorem dL_law_504 : decode cL_law 504 = .ok (.invokevirtual 56, 3) := by decide +kernel
theorem dL_law_507 : decode cL_law 507 = .ok (.if_icmp .eq 887, 3) := by decide +kernel
theorem dL_law_510 : decode cL_law 510 = .ok (.iconst 0, 1) := by decide +kernel
theorem dL_law_511 : decode cL_law 511 = .ok (.ireturn, 1) := by decide +kernel
theorem dL_law_512 : decode cL_law 512 = .ok (.aload_n 1, 1) := by decide +kernel
theorem dL_law_513 : decode cL_law 513 = .ok (.invokevirtual 57, 3) := by decide +kernel
theorem dL_law_516 : decode cL_law 516 = .ok (.aload_n 2, 1) := by decide +kernel
theorem dL_law_517 : decode cL_law 517 = .ok (.invokevirtual 60, 3) := by decide +kernel
theorem dL_law_520 : decode cL_law 520 = .ok (.if_icmp .eq 874, 3) := by decide +kernel
theorem dL_law_523 : decode cL_law 523 = .ok (.iconst 0, 1) := by decide +kernel
theorem dL_law_524 : decode cL_law 524 = .ok (.ireturn, 1) := by decide +kernel
theorem dL_law_525 : decode cL_law 525 = .ok (.aload_n 1, 1) := by decide +kernel
theorem dL_law_526 : decode cL_law 526 = .ok (.invokevirtual 61, 3) := by decide +kernel
theorem dL_law_529 : decode cL_law 529 = .ok (.aload_n 2, 1) := by decide +kernel
theorem dL_law_530 : decode cL_law 530 = .ok (.invokevirtual 64, 3) := by decide +kernel
theorem dL_law_533 : decode cL_law 533 = .ok (.if_icmp .eq 861, 3) := by decide +kernel
theorem dL_law_536 : decode cL_law 536 = .ok (.iconst 0, 1) := by decide +kernel
theorem dL_law_537 : decode cL_law 537 = .ok (.ireturn, 1) := by decide +kernel
theorem dL_law_538 : decode cL_law 538 = .ok (.aload_n 1, 1) := by decide +kernel
theorem dL_law_539 : decode cL_law 539 = .ok (.invokevirtual 65, 3) := by decide +kernel
theorem dL_law_542 : decode cL_law 542 = .ok (.aload_n 2, 1) := by decide +kernel
theorem dL_law_543 : decode cL_law 543 = .ok (.invokevirtual 68, 3) := by decide +kernel
theorem dL_law_546 : decode cL_law 546 = .ok (.if_icmp .eq 848, 3) := by decide +kernel
theorem dL_law_549 : decode cL_law 549 = .ok (.iconst 0, 1) := by decide +kernel
theorem dL_law_550 : decode cL_law 550 = .ok (.ireturn, 1) := by decide +kernel
theorem dL_law_551 : decode cL_law 551 = .ok (.aload_n 1, 1) := by decide +kernel
theorem dL_law_552 : decode cL_law 552 = .ok (.aload_n 0, 1) := by decide +kernel
theorem dL_law_553 : decode cL_law 553 = .ok (.iload_n 3, 1) := by decide +kernel
theorem dL_law_554 : decode cL_law 554 = .ok (.iconst 1, 1) := by decide +kernel
theorem dL_law_555 : decode cL_law 555 = .ok (.iadd, 1) := by decide +kernel
theorem dL_law_556 : decode cL_law 556 = .ok (.iaload, 1) := by decide +kernel
theorem dL_law_557 : decode cL_law 557 = .ok (.invokevirtual 69, 3) := by decide +kernel
theorem dL_law_560 : decode cL_law 560 = .ok (.aload_n 2, 1) := by decide +kernel
theorem dL_law_561 : decode cL_law 561 = .ok (.aload_n 0, 1) := by decide +kernel
theorem dL_law_562 : decode cL_law 562 = .ok (.iload_n 3, 1) := by decide +kernel
theorem dL_law_563 : decode cL_law 563 = .ok (.iconst 1, 1) := by decide +kernel
theorem dL_law_564 : decode cL_law 564 = .ok (.iadd, 1) := by decide +kernel
theorem dL_law_565 : decode cL_law 565 = .ok (.iaload, 1) := by decide +kernel
theorem dL_law_566 : decode cL_law 566 = .ok (.invokevirtual 72, 3) := by decide +kernel
theorem dL_law_569 : decode cL_law 569 = .ok (.if_icmp .eq 825, 3) := by decide +kernel
theorem dL_law_572 : decode cL_law 572 = .ok (.iconst 0, 1) := by decide +kernel
theorem dL_law_573 : decode cL_law 573 = .ok (.ireturn, 1) := by decide +kernel
theorem dL_law_574 : decode cL_law 574 = .ok (.aload_n 1, 1) := by decide +kernel
theorem dL_law_575 : decode cL_law 575 = .ok (.aload_n 0, 1) := by decide +kernel
theorem dL_law_576 : decode cL_law 576 = .ok (.iload_n 3, 1) := by decide +kernel
theorem dL_law_577 : decode cL_law 577 = .ok (.iconst 1, 1) := by decide +kernel
theorem dL_law_578 : decode cL_law 578 = .ok (.iadd, 1) := by decide +kernel
theorem dL_law_579 : decode cL_law 579 = .ok (.iaload, 1) := by decide +kernel
theorem dL_law_580 : decode cL_law 580 = .ok (.aload_n 0, 1) := by decide +kernel
theorem dL_law_581 : decode cL_law 581 = .ok (.iload_n 3, 1) := by decide +kernel
theorem dL_law_582 : decode cL_law 582 = .ok (.iconst 2, 1) := by decide +kernel
theorem dL_law_583 : decode cL_law 583 = .ok (.iadd, 1) := by decide +kernel
theorem dL_law_584 : decode cL_law 584 = .ok (.iaload, 1) := by decide +kernel
theorem dL_law_585 : decode cL_law 585 = .ok (.invokevirtual 73, 3) := by decide +kernel
theorem dL_law_588 : decode cL_law 588 = .ok (.aload_n 2, 1) := by decide +kernel
theorem dL_law_589 : decode cL_law 589 = .ok (.aload_n 0, 1) := by decide +kernel
theorem dL_law_590 : decode cL_law 590 = .ok (.iload_n 3, 1) := by decide +kernel
theorem dL_law_591 : decode cL_law 591 = .ok (.iconst 1, 1) := by decide +kernel
theorem dL_law_592 : decode cL_law 592 = .ok (.iadd, 1) := by decide +kernel
theorem dL_law_593 : decode cL_law 593 = .ok (.iaload, 1) := by decide +kernel
theorem dL_law_594 : decode cL_law 594 = .ok (.aload_n 0, 1) := by decide +kernel
theorem dL_law_595 : decode cL_law 595 = .ok (.iload_n 3, 1) := by decide +kernel
theorem dL_law_596 : decode cL_law 596 = .ok (.iconst 2, 1) := by decide +kernel
theorem dL_law_597 : decode cL_law 597 = .ok (.iadd, 1) := by decide +kernel
theorem dL_law_598 : decode cL_law 598 = .ok (.iaload, 1) := by decide +kernel
theorem dL_law_599 : decode cL_law 599 = .ok (.invokevirtual 76, 3) := by decide +kernel
theorem dL_law_602 : decode cL_law 602 = .ok (.if_icmp .eq 792, 3) := by decide +kernel
theorem dL_law_605 : decode cL_law 605 = .ok (.iconst 0, 1) := by decide +kernel
theorem dL_law_606 : decode cL_law 606 = .ok (.ireturn, 1) := by decide +kernel
theorem dL_law_607 : decode cL_law 607 = .ok (.aload_n 1, 1) := by decide +kernel
theorem dL_law_608 : decode cL_law 608 = .ok (.invokevirtual 77, 3) := by decide +kernel
theorem dL_law_611 : decode cL_law 611 = .ok (.aload_n 2, 1) := by decide +kernel
theorem dL_law_612 : decode cL_law 612 = .ok (.invokevirtual 80, 3) := by decide +kernel
theorem dL_law_615 : decode cL_law 615 = .ok (.if_icmp .eq 779, 3) := by decide +kernel
theorem dL_law_618 : decode cL_law 618 = .ok (.iconst 0, 1) := by decide +kernel
theorem dL_law_619 : decode cL_law 619 = .ok (.ireturn, 1) := by decide +kernel
theorem dL_law_620 : decode cL_law 620 = .ok (.aload_n 1, 1) := by decide +kernel
theorem dL_law_621 : decode cL_law 621 = .ok (.aload_n 0, 1) := by decide +kernel
theorem dL_law_622 : decode cL_law 622 = .ok (.iload_n 3, 1) := by decide +kernel
theorem dL_law_623 : decode cL_law 623 = .ok (.iconst 1, 1) := by decide +kernel
theorem dL_law_624 : decode cL_law 624 = .ok (.iadd, 1) := by decide +kernel
theorem dL_law_625 : decode cL_law 625 = .ok (.iaload, 1) := by decide +kernel
theorem dL_law_626 : decode cL_law 626 = .ok (.invokevirtual 81, 3) := by decide +kernel
theorem dL_law_629 : decode cL_law 629 = .ok (.aload_n 2, 1) := by decide +kernel
theorem dL_law_630 : decode cL_law 630 = .ok (.aload_n 0, 1) := by decide +kernel
theorem dL_law_631 : decode cL_law 631 = .ok (.iload_n 3, 1) := by decide +kernel
theorem dL_law_632 : decode cL_law 632 = .ok (.iconst 1, 1) := by decide +kernel
theorem dL_law_633 : decode cL_law 633 = .ok (.iadd, 1) := by decide +kernel
theorem dL_law_634 : decode cL_law 634 = .ok (.iaload, 1) := by decide +kernel
theorem dL_law_635 : decode cL_law 635 = .ok (.invokevirtual 84, 3) := by decide +kernel
theorem dL_law_638 : decode cL_law 638 = .ok (.if_icmp .eq 756, 3) := by decide +kernel
theorem dL_law_641 : decode cL_law 641 = .ok (.iconst 0, 1) := by decide +kernel
theorem dL_law_642 : decode cL_law 642 = .ok (.ireturn, 1) := by decide +kernel
theorem dL_law_643 : decode cL_law 643 = .ok (.aload_n 1, 1) := by decide +kernel
theorem dL_law_644 : decode cL_law 644 = .ok (.aload_n 0, 1) := by decide +kernel
theorem dL_law_645 : decode cL_law 645 = .ok (.iload_n 3, 1) := by decide +kernel
theorem dL_law_646 : decode cL_law 646 = .ok (.iconst 1, 1) := by decide +kernel
theorem dL_law_647 : decode cL_law 647 = .ok (.iadd, 1) := by decide +kernel
theorem dL_law_648 : decode cL_law 648 = .ok (.iaload, 1) := by decide +kernel
theorem dL_law_649 : decode cL_law 649 = .ok (.invokevirtual 85, 3) := by decide +kernel
theorem dL_law_652 : decode cL_law 652 = .ok (.aload_n 2, 1) := by decide +kernel
theorem dL_law_653 : decode cL_law 653 = .ok (.aload_n 0, 1) := by decide +kernel
theorem dL_law_654 : decode cL_law 654 = .ok (.iload_n 3, 1) := by decide +kernel
theorem dL_law_655 : decode cL_law 655 = .ok (.iconst 1, 1) := by decide +kernel
theorem dL_law_656 : decode cL_law 656 = .ok (.iadd, 1) := by decide +kernel
theorem dL_law_657 : decode cL_law 657 = .ok (.iaload, 1) := by decide +kernel
theorem dL_law_658 : decode cL_law 658 = .ok (.invokevirtual 88, 3) := by decide +kernel
theorem dL_law_661 : decode cL_law 661 = .ok (.if_icmp .eq 733, 3) := by decide +kernel
theorem dL_law_664 : decode cL_law 664 = .ok (.iconst 0, 1) := by decide +kernel
theorem dL_law_665 : decode cL_law 665 = .ok (.ireturn, 1) := by decide +kernel
theorem dL_law_666 : decode cL_law 666 = .ok (.aload_n 1, 1) := by decide +kernel
theorem dL_law_667 : decode cL_law 667 = .ok (.aload_n 0, 1) := by decide +kernel
theorem dL_law_668 : decode cL_law 668 = .ok (.iload_n 3, 1) := by decide +kernel
theorem dL_law_669 : decode cL_law 669 = .ok (.iconst 1, 1) := by decide +kernel
theorem dL_law_670 : decode cL_law 670 = .ok (.iadd, 1) := by decide +kernel
theorem dL_law_671 : decode cL_law 671 = .ok (.iaload, 1) := by decide +kernel
theorem dL_law_672 : decode cL_law 672 = .ok (.invokevirtual 89, 3) := by decide +kernel
theorem dL_law_675 : decode cL_law 675 = .ok (.aload_n 2, 1) := by decide +kernel
theorem dL_law_676 : decode cL_law 676 = .ok (.aload_n 0, 1) := by decide +kernel
theorem dL_law_677 : decode cL_law 677 = .ok (.iload_n 3, 1) := by decide +kernel
theorem dL_law_678 : decode cL_law 678 = .ok (.iconst 1, 1) := by decide +kernel
theorem dL_law_679 : decode cL_law 679 = .ok (.iadd, 1) := by decide +kernel
theorem dL_law_680 : decode cL_law 680 = .ok (.iaload, 1) := by decide +kernel
theorem dL_law_681 : decode cL_law 681 = .ok (.invokevirtual 92, 3) := by decide +kernel
theorem dL_law_684 : decode cL_law 684 = .ok (.if_icmp .eq 710, 3) := by decide +kernel
theorem dL_law_687 : decode cL_law 687 = .ok (.iconst 0, 1) := by decide +kernel
theorem dL_law_688 : decode cL_law 688 = .ok (.ireturn, 1) := by decide +kernel
theorem dL_law_689 : decode cL_law 689 = .ok (.aload_n 1, 1) := by decide +kernel
theorem dL_law_690 : decode cL_law 690 = .ok (.aload_n 0, 1) := by decide +kernel
theorem dL_law_691 : decode cL_law 691 = .ok (.iload_n 3, 1) := by decide +kernel
theorem dL_law_692 : decode cL_law 692 = .ok (.iconst 1, 1) := by decide +kernel
theorem dL_law_693 : decode cL_law 693 = .ok (.iadd, 1) := by decide +kernel
theorem dL_law_694 : decode cL_law 694 = .ok (.iaload, 1) := by decide +kernel
theorem dL_law_695 : decode cL_law 695 = .ok (.invokevirtual 93, 3) := by decide +kernel
theorem dL_law_698 : decode cL_law 698 = .ok (.aload_n 2, 1) := by decide +kernel
theorem dL_law_699 : decode cL_law 699 = .ok (.aload_n 0, 1) := by decide +kernel
theorem dL_law_700 : decode cL_law 700 = .ok (.iload_n 3, 1) := by decide +kernel
theorem dL_law_701 : decode cL_law 701 = .ok (.iconst 1, 1) := by decide +kernel
theorem dL_law_702 : decode cL_law 702 = .ok (.iadd, 1) := by decide +kernel
theorem dL_law_703 : decode cL_law 703 = .ok (.iaload, 1) := by decide +kernel
theorem dL_law_704 : decode cL_law 704 = .ok (.invokevirtual 96, 3) := by decide +kernel
theorem dL_law_707 : decode cL_law 707 = .ok (.if_icmp .eq 687, 3) := by decide +kernel
theorem dL_law_710 : decode cL_law 710 = .ok (.iconst 0, 1) := by decide +kernel
theorem dL_law_711 : decode cL_law 711 = .ok (.ireturn, 1) := by decide +kernel
theorem dL_law_712 : decode cL_law 712 = .ok (.aload_n 1, 1) := by decide +kernel
theorem dL_law_713 : decode cL_law 713 = .ok (.aload_n 0, 1) := by decide +kernel
theorem dL_law_714 : decode cL_law 714 = .ok (.iload_n 3, 1) := by decide +kernel
theorem dL_law_715 : decode cL_law 715 = .ok (.iconst 1, 1) := by decide +kernel
theorem dL_law_716 : decode cL_law 716 = .ok (.iadd, 1) := by decide +kernel
theorem dL_law_717 : decode cL_law 717 = .ok (.iaload, 1) := by decide +kernel
theorem dL_law_718 : decode cL_law 718 = .ok (.aload_n 0, 1) := by decide +kernel
theorem dL_law_719 : decode cL_law 719 = .ok (.iload_n 3, 1) := by decide +kernel
theorem dL_law_720 : decode cL_law 720 = .ok (.iconst 2, 1) := by decide +kernel
theorem dL_law_721 : decode cL_law 721 = .ok (.iadd, 1) := by decide +kernel
theorem dL_law_722 : decode cL_law 722 = .ok (.iaload, 1) := by decide +kernel
theorem dL_law_723 : decode cL_law 723 = .ok (.invokevirtual 97, 3) := by decide +kernel
theorem dL_law_726 : decode cL_law 726 = .ok (.aload_n 2, 1) := by decide +kernel
theorem dL_law_727 : decode cL_law 727 = .ok (.aload_n 0, 1) := by decide +kernel
theorem dL_law_728 : decode cL_law 728 = .ok (.iload_n 3, 1) := by decide +kernel
theorem dL_law_729 : decode cL_law 729 = .ok (.iconst 1, 1) := by decide +kernel
theorem dL_law_730 : decode cL_law 730 = .ok (.iadd, 1) := by decide +kernel
theorem dL_law_731 : decode cL_law 731 = .ok (.iaload, 1) := by decide +kernel
theorem dL_law_732 : decode cL_law 732 = .ok (.aload_n 0, 1) := by decide +kernel
theorem dL_law_733 : decode cL_law 733 = .ok (.iload_n 3, 1) := by decide +kernel
theorem dL_law_734 : decode cL_law 734 = .ok (.iconst 2, 1) := by decide +kernel
theorem dL_law_735 : decode cL_law 735 = .ok (.iadd, 1) := by decide +kernel
theorem dL_law_736 : decode cL_law 736 = .ok (.iaload, 1) := by decide +kernel
theorem dL_law_737 : decode cL_law 737 = .ok (.invokevirtual 100, 3) := by decide +kernel
theorem dL_law_740 : decode cL_law 740 = .ok (.if_icmp .eq 654, 3) := by decide +kernel
theorem dL_law_743 : decode cL_law 743 = .ok (.iconst 0, 1) := by decide +kernel
theorem dL_law_744 : decode cL_law 744 = .ok (.ireturn, 1) := by decide +kernel
theorem dL_law_745 : decode cL_law 745 = .ok (.aload_n 1, 1) := by decide +kernel
theorem dL_law_746 : decode cL_law 746 = .ok (.aload_n 0, 1) := by decide +kernel
theorem dL_law_747 : decode cL_law 747 = .ok (.iload_n 3, 1) := by decide +kernel
theorem dL_law_748 : decode cL_law 748 = .ok (.iconst 1, 1) := by decide +kernel
theorem dL_law_749 : decode cL_law 749 = .ok (.iadd, 1) := by decide +kernel
theorem dL_law_750 : decode cL_law 750 = .ok (.iaload, 1) := by decide +kernel
theorem dL_law_751 : decode cL_law 751 = .ok (.aload_n 0, 1) := by decide +kernel
theorem dL_law_752 : decode cL_law 752 = .ok (.iload_n 3, 1) := by decide +kernel
theorem dL_law_753 : decode cL_law 753 = .ok (.iconst 2, 1) := by decide +kernel
theorem dL_law_754 : decode cL_law 754 = .ok (.iadd, 1) := by decide +kernel
theorem dL_law_755 : decode cL_law 755 = .ok (.iaload, 1) := by decide +kernel
theorem dL_law_756 : decode cL_law 756 = .ok (.invokevirtual 101, 3) := by decide +kernel
theorem dL_law_759 : decode cL_law 759 = .ok (.aload_n 2, 1) := by decide +kernel
theorem dL_law_760 : decode cL_law 760 = .ok (.aload_n 0, 1) := by decide +kernel
theorem dL_law_761 : decode cL_law 761 = .ok (.iload_n 3, 1) := by decide +kernel
theorem dL_law_762 : decode cL_law 762 = .ok (.iconst 1, 1) := by decide +kernel
theorem dL_law_763 : decode cL_law 763 = .ok (.iadd, 1) := by decide +kernel
theorem dL_law_764 : decode cL_law 764 = .ok (.iaload, 1) := by decide +kernel
theorem dL_law_765 : decode cL_law 765 = .ok (.aload_n 0, 1) := by decide +kernel
theorem dL_law_766 : decode cL_law 766 = .ok (.iload_n 3, 1) := by decide +kernel
theorem dL_law_767 : decode cL_law 767 = .ok (.iconst 2, 1) := by decide +kernel
theorem dL_law_768 : decode cL_law 768 = .ok (.iadd, 1) := by decide +kernel
theorem dL_law_769 : decode cL_law 769 = .ok (.iaload, 1) := by decide +kernel
theorem dL_law_770 : decode cL_law 770 = .ok (.invokevirtual 104, 3) := by decide +kernel
theorem dL_law_773 : decode cL_law 773 = .ok (.if_icmp .eq 621, 3) := by decide +kernel
theorem dL_law_776 : decode cL_law 776 = .ok (.iconst 0, 1) := by decide +kernel
theorem dL_law_777 : decode cL_law 777 = .ok (.ireturn, 1) := by decide +kernel
theorem dL_law_778 : decode cL_law 778 = .ok (.aload_n 1, 1) := by decide +kernel
theorem dL_law_779 : decode cL_law 779 = .ok (.aload_n 0, 1) := by decide +kernel
theorem dL_law_780 : decode cL_law 780 = .ok (.iload_n 3, 1) := by decide +kernel
theorem dL_law_781 : decode cL_law 781 = .ok (.iconst 1, 1) := by decide +kernel
theorem dL_law_782 : decode cL_law 782 = .ok (.iadd, 1) := by decide +kernel
theorem dL_law_783 : decode cL_law 783 = .ok (.iaload, 1) := by decide +kernel
theorem dL_law_784 : decode cL_law 784 = .ok (.invokevirtual 105, 3) := by decide +kernel
theorem dL_law_787 : decode cL_law 787 = .ok (.aload_n 2, 1) := by decide +kernel
theorem dL_law_788 : decode cL_law 788 = .ok (.aload_n 0, 1) := by decide +kernel
theorem dL_law_789 : decode cL_law 789 = .ok (.iload_n 3, 1) := by decide +kernel
theorem dL_law_790 : decode cL_law 790 = .ok (.iconst 1, 1) := by decide +kernel
theorem dL_law_791 : decode cL_law 791 = .ok (.iadd, 1) := by decide +kernel
theorem dL_law_792 : decode cL_law 792 = .ok (.iaload, 1) := by decide +kernel
theorem dL_law_793 : decode cL_law 793 = .ok (.invokevirtual 108, 3) := by decide +kernel
theorem dL_law_796 : decode cL_law 796 = .ok (.if_icmp .eq 598, 3) := by decide +kernel
theorem dL_law_799 : decode cL_law 799 = .ok (.iconst 0, 1) := by decide +kernel
theorem dL_law_800 : decode cL_law 800 = .ok (.ireturn, 1) := by decide +kernel
theorem dL_law_801 : decode cL_law 801 = .ok (.aload_n 1, 1) := by decide +kernel
theorem dL_law_802 : decode cL_law 802 = .ok (.aload_n 0, 1) := by decide +kernel
theorem dL_law_803 : decode cL_law 803 = .ok (.iload_n 3, 1) := by decide +kernel
theorem dL_law_804 : decode cL_law 804 = .ok (.iconst 1, 1) := by decide +kernel
theorem dL_law_805 : decode cL_law 805 = .ok (.iadd, 1) := by decide +kernel
theorem dL_law_806 : decode cL_law 806 = .ok (.iaload, 1) := by decide +kernel
theorem dL_law_807 : decode cL_law 807 = .ok (.invokevirtual 109, 3) := by decide +kernel
theorem dL_law_810 : decode cL_law 810 = .ok (.aload_n 2, 1) := by decide +kernel
theorem dL_law_811 : decode cL_law 811 = .ok (.aload_n 0, 1) := by decide +kernel
theorem dL_law_812 : decode cL_law 812 = .ok (.iload_n 3, 1) := by decide +kernel
theorem dL_law_813 : decode cL_law 813 = .ok (.iconst 1, 1) := by decide +kernel
theorem dL_law_814 : decode cL_law 814 = .ok (.iadd, 1) := by decide +kernel
theorem dL_law_815 : decode cL_law 815 = .ok (.iaload, 1) := by decide +kernel
theorem dL_law_816 : decode cL_law 816 = .ok (.invokevirtual 112, 3) := by decide +kernel
theorem dL_law_819 : decode cL_law 819 = .ok (.if_icmp .eq 575, 3) := by decide +kernel
theorem dL_law_822 : decode cL_law 822 = .ok (.iconst 0, 1) := by decide +kernel
theorem dL_law_823 : decode cL_law 823 = .ok (.ireturn, 1) := by decide +kernel
theorem dL_law_824 : decode cL_law 824 = .ok (.aload_n 1, 1) := by decide +kernel
theorem dL_law_825 : decode cL_law 825 = .ok (.aload_n 0, 1) := by decide +kernel
theorem dL_law_826 : decode cL_law 826 = .ok (.iload_n 3, 1) := by decide +kernel
theorem dL_law_827 : decode cL_law 827 = .ok (.iconst 1, 1) := by decide +kernel
theorem dL_law_828 : decode cL_law 828 = .ok (.iadd, 1) := by decide +kernel
theorem dL_law_829 : decode cL_law 829 = .ok (.iaload, 1) := by decide +kernel
theorem dL_law_830 : decode cL_law 830 = .ok (.aload_n 0, 1) := by decide +kernel
theorem dL_law_831 : decode cL_law 831 = .ok (.iload_n 3, 1) := by decide +kernel
theorem dL_law_832 : decode cL_law 832 = .ok (.iconst 2, 1) := by decide +kernel
theorem dL_law_833 : decode cL_law 833 = .ok (.iadd, 1) := by decide +kernel
theorem dL_law_834 : decode cL_law 834 = .ok (.iaload, 1) := by decide +kernel
theorem dL_law_835 : decode cL_law 835 = .ok (.invokevirtual 113, 3) := by decide +kernel
theorem dL_law_838 : decode cL_law 838 = .ok (.aload_n 2, 1) := by decide +kernel
theorem dL_law_839 : decode cL_law 839 = .ok (.aload_n 0, 1) := by decide +kernel
theorem dL_law_840 : decode cL_law 840 = .ok (.iload_n 3, 1) := by decide +kernel
theorem dL_law_841 : decode cL_law 841 = .ok (.iconst 1, 1) := by decide +kernel
theorem dL_law_842 : decode cL_law 842 = .ok (.iadd, 1) := by decide +kernel
theorem dL_law_843 : decode cL_law 843 = .ok (.iaload, 1) := by decide +kernel
theorem dL_law_844 : decode cL_law 844 = .ok (.aload_n 0, 1) := by decide +kernel
theorem dL_law_845 : decode cL_law 845 = .ok (.iload_n 3, 1) := by decide +kernel
theorem dL_law_846 : decode cL_law 846 = .ok (.iconst 2, 1) := by decide +kernel
theorem dL_law_847 : decode cL_law 847 = .ok (.iadd, 1) := by decide +kernel
theorem dL_law_848 : decode cL_law 848 = .ok (.iaload, 1) := by decide +kernel
theorem dL_law_849 : decode cL_law 849 = .ok (.invokevirtual 116, 3) := by decide +kernel
theorem dL_law_852 : decode cL_law 852 = .ok (.if_icmp .eq 542, 3) := by decide +kernel
theorem dL_law_855 : decode cL_law 855 = .ok (.iconst 0, 1) := by decide +kernel
theorem dL_law_856 : decode cL_law 856 = .ok (.ireturn, 1) := by decide +kernel
theorem dL_law_857 : decode cL_law 857 = .ok (.aload_n 1, 1) := by decide +kernel
theorem dL_law_858 : decode cL_law 858 = .ok (.invokevirtual 117, 3) := by decide +kernel
theorem dL_law_861 : decode cL_law 861 = .ok (.aload_n 2, 1) := by decide +kernel
theorem dL_law_862 : decode cL_law 862 = .ok (.invokevirtual 121, 3) := by decide +kernel
theorem dL_law_865 : decode cL_law 865 = .ok (.lcmp, 1) := by decide +kernel
theorem dL_law_866 : decode cL_law 866 = .ok (.ifCond .eq 528, 3) := by decide +kernel
theorem dL_law_869 : decode cL_law 869 = .ok (.iconst 0, 1) := by decide +kernel
theorem dL_law_870 : decode cL_law 870 = .ok (.ireturn, 1) := by decide +kernel
theorem dL_law_871 : decode cL_law 871 = .ok (.aload_n 1, 1) := by decide +kernel
theorem dL_law_872 : decode cL_law 872 = .ok (.aload_n 0, 1) := by decide +kernel
theorem dL_law_873 : decode cL_law 873 = .ok (.iload_n 3, 1) := by decide +kernel
theorem dL_law_874 : decode cL_law 874 = .ok (.iconst 1, 1) := by decide +kernel
theorem dL_law_875 : decode cL_law 875 = .ok (.iadd, 1) := by decide +kernel
theorem dL_law_876 : decode cL_law 876 = .ok (.iaload, 1) := by decide +kernel
theorem dL_law_877 : decode cL_law 877 = .ok (.invokevirtual 122, 3) := by decide +kernel
theorem dL_law_880 : decode cL_law 880 = .ok (.aload_n 2, 1) := by decide +kernel
theorem dL_law_881 : decode cL_law 881 = .ok (.aload_n 0, 1) := by decide +kernel
theorem dL_law_882 : decode cL_law 882 = .ok (.iload_n 3, 1) := by decide +kernel
theorem dL_law_883 : decode cL_law 883 = .ok (.iconst 1, 1) := by decide +kernel
theorem dL_law_884 : decode cL_law 884 = .ok (.iadd, 1) := by decide +kernel
theorem dL_law_885 : decode cL_law 885 = .ok (.iaload, 1) := by decide +kernel
theorem dL_law_886 : decode cL_law 886 = .ok (.invokevirtual 126, 3) := by decide +kernel
theorem dL_law_889 : decode cL_law 889 = .ok (.lcmp, 1) := by decide +kernel
theorem dL_law_890 : decode cL_law 890 = .ok (.ifCond .eq 504, 3) := by decide +kernel
theorem dL_law_893 : decode cL_law 893 = .ok (.iconst 0, 1) := by decide +kernel
theorem dL_law_894 : decode cL_law 894 = .ok (.ireturn, 1) := by decide +kernel
theorem dL_law_895 : decode cL_law 895 = .ok (.aload_n 1, 1) := by decide +kernel
theorem dL_law_896 : decode cL_law 896 = .ok (.aload_n 0, 1) := by decide +kernel
theorem dL_law_897 : decode cL_law 897 = .ok (.iload_n 3, 1) := by decide +kernel
theorem dL_law_898 : decode cL_law 898 = .ok (.iconst 1, 1) := by decide +kernel
theorem dL_law_899 : decode cL_law 899 = .ok (.iadd, 1) := by decide +kernel
theorem dL_law_900 : decode cL_law 900 = .ok (.iaload, 1) := by decide +kernel
theorem dL_law_901 : decode cL_law 901 = .ok (.invokevirtual 127, 3) := by decide +kernel
theorem dL_law_904 : decode cL_law 904 = .ok (.aload_n 2, 1) := by decide +kernel
theorem dL_law_905 : decode cL_law 905 = .ok (.aload_n 0, 1) := by decide +kernel
theorem dL_law_906 : decode cL_law 906 = .ok (.iload_n 3, 1) := by decide +kernel
theorem dL_law_907 : decode cL_law 907 = .ok (.iconst 1, 1) := by decide +kernel
theorem dL_law_908 : decode cL_law 908 = .ok (.iadd, 1) := by decide +kernel
theorem dL_law_909 : decode cL_law 909 = .ok (.iaload, 1) := by decide +kernel
theorem dL_law_910 : decode cL_law 910 = .ok (.invokevirtual 130, 3) := by decide +kernel
theorem dL_law_913 : decode cL_law 913 = .ok (.lcmp, 1) := by decide +kernel
theorem dL_law_914 : decode cL_law 914 = .ok (.ifCond .eq 480, 3) := by decide +kernel
theorem dL_law_917 : decode cL_law 917 = .ok (.iconst 0, 1) := by decide +kernel
theorem dL_law_918 : decode cL_law 918 = .ok (.ireturn, 1) := by decide +kernel
theorem dL_law_919 : decode cL_law 919 = .ok (.aload_n 1, 1) := by decide +kernel
theorem dL_law_920 : decode cL_law 920 = .ok (.aload_n 0, 1) := by decide +kernel
theorem dL_law_921 : decode cL_law 921 = .ok (.iload_n 3, 1) := by decide +kernel
theorem dL_law_922 : decode cL_law 922 = .ok (.iconst 1, 1) := by decide +kernel
theorem dL_law_923 : decode cL_law 923 = .ok (.iadd, 1) := by decide +kernel
theorem dL_law_924 : decode cL_law 924 = .ok (.iaload, 1) := by decide +kernel
theorem dL_law_925 : decode cL_law 925 = .ok (.invokevirtual 131, 3) := by decide +kernel
theorem dL_law_928 : decode cL_law 928 = .ok (.aload_n 2, 1) := by decide +kernel
theorem dL_law_929 : decode cL_law 929 = .ok (.aload_n 0, 1) := by decide +kernel
theorem dL_law_930 : decode cL_law 930 = .ok (.iload_n 3, 1) := by decide +kernel
theorem dL_law_931 : decode cL_law 931 = .ok (.iconst 1, 1) := by decide +kernel
theorem dL_law_932 : decode cL_law 932 = .ok (.iadd, 1) := by decide +kernel
theorem dL_law_933 : decode cL_law 933 = .ok (.iaload, 1) := by decide +kernel
theorem dL_law_934 : decode cL_law 934 = .ok (.invokevirtual 134, 3) := by decide +kernel
theorem dL_law_937 : decode cL_law 937 = .ok (.if_icmp .eq 457, 3) := by decide +kernel
theorem dL_law_940 : decode cL_law 940 = .ok (.iconst 0, 1) := by decide +kernel
theorem dL_law_941 : decode cL_law 941 = .ok (.ireturn, 1) := by decide +kernel
theorem dL_law_942 : decode cL_law 942 = .ok (.aload_n 1, 1) := by decide +kernel
theorem dL_law_943 : decode cL_law 943 = .ok (.aload_n 0, 1) := by decide +kernel
theorem dL_law_944 : decode cL_law 944 = .ok (.iload_n 3, 1) := by decide +kernel
theorem dL_law_945 : decode cL_law 945 = .ok (.iconst 1, 1) := by decide +kernel
theorem dL_law_946 : decode cL_law 946 = .ok (.iadd, 1) := by decide +kernel
theorem dL_law_947 : decode cL_law 947 = .ok (.iaload, 1) := by decide +kernel
theorem dL_law_948 : decode cL_law 948 = .ok (.invokevirtual 135, 3) := by decide +kernel
theorem dL_law_951 : decode cL_law 951 = .ok (.aload_n 2, 1) := by decide +kernel
theorem dL_law_952 : decode cL_law 952 = .ok (.aload_n 0, 1) := by decide +kernel
theorem dL_law_953 : decode cL_law 953 = .ok (.iload_n 3, 1) := by decide +kernel
theorem dL_law_954 : decode cL_law 954 = .ok (.iconst 1, 1) := by decide +kernel
theorem dL_law_955 : decode cL_law 955 = .ok (.iadd, 1) := by decide +kernel
theorem dL_law_956 : decode cL_law 956 = .ok (.iaload, 1) := by decide +kernel
theorem dL_law_957 : decode cL_law 957 = .ok (.invokevirtual 138, 3) := by decide +kernel
theorem dL_law_960 : decode cL_law 960 = .ok (.if_icmp .eq 434, 3) := by decide +kernel
theorem dL_law_963 : decode cL_law 963 = .ok (.iconst 0, 1) := by decide +kernel
theorem dL_law_964 : decode cL_law 964 = .ok (.ireturn, 1) := by decide +kernel
theorem dL_law_965 : decode cL_law 965 = .ok (.aload_n 1, 1) := by decide +kernel
theorem dL_law_966 : decode cL_law 966 = .ok (.aload_n 0, 1) := by decide +kernel
theorem dL_law_967 : decode cL_law 967 = .ok (.iload_n 3, 1) := by decide +kernel
theorem dL_law_968 : decode cL_law 968 = .ok (.iconst 1, 1) := by decide +kernel
theorem dL_law_969 : decode cL_law 969 = .ok (.iadd, 1) := by decide +kernel
theorem dL_law_970 : decode cL_law 970 = .ok (.iaload, 1) := by decide +kernel
theorem dL_law_971 : decode cL_law 971 = .ok (.aload_n 0, 1) := by decide +kernel
theorem dL_law_972 : decode cL_law 972 = .ok (.iload_n 3, 1) := by decide +kernel
theorem dL_law_973 : decode cL_law 973 = .ok (.iconst 2, 1) := by decide +kernel
theorem dL_law_974 : decode cL_law 974 = .ok (.iadd, 1) := by decide +kernel
theorem dL_law_975 : decode cL_law 975 = .ok (.iaload, 1) := by decide +kernel
theorem dL_law_976 : decode cL_law 976 = .ok (.invokevirtual 139, 3) := by decide +kernel
theorem dL_law_979 : decode cL_law 979 = .ok (.aload_n 2, 1) := by decide +kernel
theorem dL_law_980 : decode cL_law 980 = .ok (.aload_n 0, 1) := by decide +kernel
theorem dL_law_981 : decode cL_law 981 = .ok (.iload_n 3, 1) := by decide +kernel
theorem dL_law_982 : decode cL_law 982 = .ok (.iconst 1, 1) := by decide +kernel
theorem dL_law_983 : decode cL_law 983 = .ok (.iadd, 1) := by decide +kernel
theorem dL_law_984 : decode cL_law 984 = .ok (.iaload, 1) := by decide +kernel
theorem dL_law_985 : decode cL_law 985 = .ok (.aload_n 0, 1) := by decide +kernel
theorem dL_law_986 : decode cL_law 986 = .ok (.iload_n 3, 1) := by decide +kernel
theorem dL_law_987 : decode cL_law 987 = .ok (.iconst 2, 1) := by decide +kernel
theorem dL_law_988 : decode cL_law 988 = .ok (.iadd, 1) := by decide +kernel
theorem dL_law_989 : decode cL_law 989 = .ok (.iaload, 1) := by decide +kernel
theorem dL_law_990 : decode cL_law 990 = .ok (.invokevirtual 142, 3) := by decide +kernel
theorem dL_law_993 : decode cL_law 993 = .ok (.if_icmp .eq 401, 3) := by decide +kernel
theorem dL_law_996 : decode cL_law 996 = .ok (.iconst 0, 1) := by decide +kernel
theorem dL_law_997 : decode cL_law 997 = .ok (.ireturn, 1) := by decide +kernel
theorem dL_law_998 : decode cL_law 998 = .ok (.aload_n 1, 1) := by decide +kernel
theorem dL_law_999 : decode cL_law 999 = .ok (.invokevirtual 143, 3) := by decide +kernel
theorem dL_law_1002 : decode cL_law 1002 = .ok (.aload_n 2, 1) := by decide +kernel
theorem dL_law_1003 : decode cL_law 1003 = .ok (.invokevirtual 146, 3) := by decide +kernel
theorem dL_law_1006 : decode cL_law 1006 = .ok (.if_icmp .eq 388, 3) := by decide +kernel
theorem dL_law_1009 : decode cL_law 1009 = .ok (.iconst 0, 1) := by decide +kernel
theorem dL_law_1010 : decode cL_law 1010 = .ok (.ireturn, 1) := by decide +kernel
theorem dL_law_1011 : decode cL_law 1011 = .ok (.aload_n 1, 1) := by decide +kernel
theorem dL_law_1012 : decode cL_law 1012 = .ok (.invokevirtual 147, 3) := by decide +kernel
theorem dL_law_1015 : decode cL_law 1015 = .ok (.aload_n 2, 1) := by decide +kernel
theorem dL_law_1016 : decode cL_law 1016 = .ok (.invokevirtual 150, 3) := by decide +kernel
theorem dL_law_1019 : decode cL_law 1019 = .ok (.if_icmp .eq 375, 3) := by decide +kernel
theorem dL_law_1022 : decode cL_law 1022 = .ok (.iconst 0, 1) := by decide +kernel
theorem dL_law_1023 : decode cL_law 1023 = .ok (.ireturn, 1) := by decide +kernel
theorem dL_law_1024 : decode cL_law 1024 = .ok (.aload_n 1, 1) := by decide +kernel
theorem dL_law_1025 : decode cL_law 1025 = .ok (.aload_n 0, 1) := by decide +kernel
theorem dL_law_1026 : decode cL_law 1026 = .ok (.iload_n 3, 1) := by decide +kernel
theorem dL_law_1027 : decode cL_law 1027 = .ok (.iconst 1, 1) := by decide +kernel
theorem dL_law_1028 : decode cL_law 1028 = .ok (.iadd, 1) := by decide +kernel
theorem dL_law_1029 : decode cL_law 1029 = .ok (.iaload, 1) := by decide +kernel
theorem dL_law_1030 : decode cL_law 1030 = .ok (.aload_n 0, 1) := by decide +kernel
theorem dL_law_1031 : decode cL_law 1031 = .ok (.iload_n 3, 1) := by decide +kernel
theorem dL_law_1032 : decode cL_law 1032 = .ok (.iconst 2, 1) := by decide +kernel
theorem dL_law_1033 : decode cL_law 1033 = .ok (.iadd, 1) := by decide +kernel
theorem dL_law_1034 : decode cL_law 1034 = .ok (.iaload, 1) := by decide +kernel
theorem dL_law_1035 : decode cL_law 1035 = .ok (.invokevirtual 151, 3) := by decide +kernel
theorem dL_law_1038 : decode cL_law 1038 = .ok (.aload_n 2, 1) := by decide +kernel
theorem dL_law_1039 : decode cL_law 1039 = .ok (.aload_n 0, 1) := by decide +kernel
theorem dL_law_1040 : decode cL_law 1040 = .ok (.iload_n 3, 1) := by decide +kernel
theorem dL_law_1041 : decode cL_law 1041 = .ok (.iconst 1, 1) := by decide +kernel
theorem dL_law_1042 : decode cL_law 1042 = .ok (.iadd, 1) := by decide +kernel
theorem dL_law_1043 : decode cL_law 1043 = .ok (.iaload, 1) := by decide +kernel
theorem dL_law_1044 : decode cL_law 1044 = .ok (.aload_n 0, 1) := by decide +kernel
theorem dL_law_1045 : decode cL_law 1045 = .ok (.iload_n 3, 1) := by decide +kernel
theorem dL_law_1046 : decode cL_law 1046 = .ok (.iconst 2, 1) := by decide +kernel
theorem dL_law_1047 : decode cL_law 1047 = .ok (.iadd, 1) := by decide +kernel
theorem dL_law_1048 : decode cL_law 1048 = .ok (.iaload, 1) := by decide +kernel
theorem dL_law_1049 : decode cL_law 1049 = .ok (.invokevirtual 154, 3) := by decide +kernel
theorem dL_law_1052 : decode cL_law 1052 = .ok (.if_icmp .eq 342, 3) := by decide +kernel
theorem dL_law_1055 : decode cL_law 1055 = .ok (.iconst 0, 1) := by decide +kernel
theorem dL_law_1056 : decode cL_law 1056 = .ok (.ireturn, 1) := by decide +kernel
theorem dL_law_1057 : decode cL_law 1057 = .ok (.aload_n 1, 1) := by decide +kernel
theorem dL_law_1058 : decode cL_law 1058 = .ok (.aload_n 0, 1) := by decide +kernel
theorem dL_law_1059 : decode cL_law 1059 = .ok (.iload_n 3, 1) := by decide +kernel
theorem dL_law_1060 : decode cL_law 1060 = .ok (.iconst 1, 1) := by decide +kernel
theorem dL_law_1061 : decode cL_law 1061 = .ok (.iadd, 1) := by decide +kernel
theorem dL_law_1062 : decode cL_law 1062 = .ok (.iaload, 1) := by decide +kernel
theorem dL_law_1063 : decode cL_law 1063 = .ok (.aload_n 0, 1) := by decide +kernel
theorem dL_law_1064 : decode cL_law 1064 = .ok (.iload_n 3, 1) := by decide +kernel
theorem dL_law_1065 : decode cL_law 1065 = .ok (.iconst 2, 1) := by decide +kernel
theorem dL_law_1066 : decode cL_law 1066 = .ok (.iadd, 1) := by decide +kernel
theorem dL_law_1067 : decode cL_law 1067 = .ok (.iaload, 1) := by decide +kernel
theorem dL_law_1068 : decode cL_law 1068 = .ok (.invokevirtual 155, 3) := by decide +kernel
theorem dL_law_1071 : decode cL_law 1071 = .ok (.aload_n 2, 1) := by decide +kernel
theorem dL_law_1072 : decode cL_law 1072 = .ok (.aload_n 0, 1) := by decide +kernel
theorem dL_law_1073 : decode cL_law 1073 = .ok (.iload_n 3, 1) := by decide +kernel
theorem dL_law_1074 : decode cL_law 1074 = .ok (.iconst 1, 1) := by decide +kernel
theorem dL_law_1075 : decode cL_law 1075 = .ok (.iadd, 1) := by decide +kernel
theorem dL_law_1076 : decode cL_law 1076 = .ok (.iaload, 1) := by decide +kernel
theorem dL_law_1077 : decode cL_law 1077 = .ok (.aload_n 0, 1) := by decide +kernel
theorem dL_law_1078 : decode cL_law 1078 = .ok (.iload_n 3, 1) := by decide +kernel
theorem dL_law_1079 : decode cL_law 1079 = .ok (.iconst 2, 1) := by decide +kernel
theorem dL_law_1080 : decode cL_law 1080 = .ok (.iadd, 1) := by decide +kernel
theorem dL_law_1081 : decode cL_law 1081 = .ok (.iaload, 1) := by decide +kernel
theorem dL_law_1082 : decode cL_law 1082 = .ok (.invokevirtual 158, 3) := by decide +kernel
theorem dL_law_1085 : decode cL_law 1085 = .ok (.if_icmp .eq 309, 3) := by decide +kernel
theorem dL_law_1088 : decode cL_law 1088 = .ok (.iconst 0, 1) := by decide +kernel
theorem dL_law_1089 : decode cL_law 1089 = .ok (.ireturn, 1) := by decide +kernel
theorem dL_law_1090 : decode cL_law 1090 = .ok (.aload_n 1, 1) := by decide +kernel
theorem dL_law_1091 : decode cL_law 1091 = .ok (.aload_n 0, 1) := by decide +kernel
theorem dL_law_1092 : decode cL_law 1092 = .ok (.iload_n 3, 1) := by decide +kernel
theorem dL_law_1093 : decode cL_law 1093 = .ok (.iconst 1, 1) := by decide +kernel
theorem dL_law_1094 : decode cL_law 1094 = .ok (.iadd, 1) := by decide +kernel
theorem dL_law_1095 : decode cL_law 1095 = .ok (.iaload, 1) := by decide +kernel
theorem dL_law_1096 : decode cL_law 1096 = .ok (.aload_n 0, 1) := by decide +kernel
theorem dL_law_1097 : decode cL_law 1097 = .ok (.iload_n 3, 1) := by decide +kernel
theorem dL_law_1098 : decode cL_law 1098 = .ok (.iconst 2, 1) := by decide +kernel
theorem dL_law_1099 : decode cL_law 1099 = .ok (.iadd, 1) := by decide +kernel
theorem dL_law_1100 : decode cL_law 1100 = .ok (.iaload, 1) := by decide +kernel
theorem dL_law_1101 : decode cL_law 1101 = .ok (.aload_n 0, 1) := by decide +kernel
theorem dL_law_1102 : decode cL_law 1102 = .ok (.iload_n 3, 1) := by decide +kernel
theorem dL_law_1103 : decode cL_law 1103 = .ok (.iconst 3, 1) := by decide +kernel
theorem dL_law_1104 : decode cL_law 1104 = .ok (.iadd, 1) := by decide +kernel
theorem dL_law_1105 : decode cL_law 1105 = .ok (.iaload, 1) := by decide +kernel
theorem dL_law_1106 : decode cL_law 1106 = .ok (.invokevirtual 159, 3) := by decide +kernel
theorem dL_law_1109 : decode cL_law 1109 = .ok (.aload_n 2, 1) := by decide +kernel
theorem dL_law_1110 : decode cL_law 1110 = .ok (.aload_n 0, 1) := by decide +kernel
theorem dL_law_1111 : decode cL_law 1111 = .ok (.iload_n 3, 1) := by decide +kernel
theorem dL_law_1112 : decode cL_law 1112 = .ok (.iconst 1, 1) := by decide +kernel
theorem dL_law_1113 : decode cL_law 1113 = .ok (.iadd, 1) := by decide +kernel
theorem dL_law_1114 : decode cL_law 1114 = .ok (.iaload, 1) := by decide +kernel
theorem dL_law_1115 : decode cL_law 1115 = .ok (.aload_n 0, 1) := by decide +kernel
theorem dL_law_1116 : decode cL_law 1116 = .ok (.iload_n 3, 1) := by decide +kernel
theorem dL_law_1117 : decode cL_law 1117 = .ok (.iconst 2, 1) := by decide +kernel
theorem dL_law_1118 : decode cL_law 1118 = .ok (.iadd, 1) := by decide +kernel
theorem dL_law_1119 : decode cL_law 1119 = .ok (.iaload, 1) := by decide +kernel
theorem dL_law_1120 : decode cL_law 1120 = .ok (.aload_n 0, 1) := by decide +kernel
theorem dL_law_1121 : decode cL_law 1121 = .ok (.iload_n 3, 1) := by decide +kernel
theorem dL_law_1122 : decode cL_law 1122 = .ok (.iconst 3, 1) := by decide +kernel
theorem dL_law_1123 : decode cL_law 1123 = .ok (.iadd, 1) := by decide +kernel
theorem dL_law_1124 : decode cL_law 1124 = .ok (.iaload, 1) := by decide +kernel
theorem dL_law_1125 : decode cL_law 1125 = .ok (.invokevirtual 162, 3) := by decide +kernel
theorem dL_law_1128 : decode cL_law 1128 = .ok (.if_icmp .eq 266, 3) := by decide +kernel
theorem dL_law_1131 : decode cL_law 1131 = .ok (.iconst 0, 1) := by decide +kernel
theorem dL_law_1132 : decode cL_law 1132 = .ok (.ireturn, 1) := by decide +kernel
theorem dL_law_1133 : decode cL_law 1133 = .ok (.aload_n 1, 1) := by decide +kernel
theorem dL_law_1134 : decode cL_law 1134 = .ok (.aload_n 0, 1) := by decide +kernel
theorem dL_law_1135 : decode cL_law 1135 = .ok (.iload_n 3, 1) := by decide +kernel
theorem dL_law_1136 : decode cL_law 1136 = .ok (.iconst 1, 1) := by decide +kernel
theorem dL_law_1137 : decode cL_law 1137 = .ok (.iadd, 1) := by decide +kernel
theorem dL_law_1138 : decode cL_law 1138 = .ok (.iaload, 1) := by decide +kernel
theorem dL_law_1139 : decode cL_law 1139 = .ok (.aload_n 0, 1) := by decide +kernel
theorem dL_law_1140 : decode cL_law 1140 = .ok (.iload_n 3, 1) := by decide +kernel
theorem dL_law_1141 : decode cL_law 1141 = .ok (.iconst 2, 1) := by decide +kernel
theorem dL_law_1142 : decode cL_law 1142 = .ok (.iadd, 1) := by decide +kernel
theorem dL_law_1143 : decode cL_law 1143 = .ok (.iaload, 1) := by decide +kernel
theorem dL_law_1144 : decode cL_law 1144 = .ok (.aload_n 0, 1) := by decide +kernel
theorem dL_law_1145 : decode cL_law 1145 = .ok (.iload_n 3, 1) := by decide +kernel
theorem dL_law_1146 : decode cL_law 1146 = .ok (.iconst 3, 1) := by decide +kernel
theorem dL_law_1147 : decode cL_law 1147 = .ok (.iadd, 1) := by decide +kernel
theorem dL_law_1148 : decode cL_law 1148 = .ok (.iaload, 1) := by decide +kernel
theorem dL_law_1149 : decode cL_law 1149 = .ok (.invokevirtual 163, 3) := by decide +kernel
theorem dL_law_1152 : decode cL_law 1152 = .ok (.aload_n 2, 1) := by decide +kernel
theorem dL_law_1153 : decode cL_law 1153 = .ok (.aload_n 0, 1) := by decide +kernel
theorem dL_law_1154 : decode cL_law 1154 = .ok (.iload_n 3, 1) := by decide +kernel
theorem dL_law_1155 : decode cL_law 1155 = .ok (.iconst 1, 1) := by decide +kernel
theorem dL_law_1156 : decode cL_law 1156 = .ok (.iadd, 1) := by decide +kernel
theorem dL_law_1157 : decode cL_law 1157 = .ok (.iaload, 1) := by decide +kernel
theorem dL_law_1158 : decode cL_law 1158 = .ok (.aload_n 0, 1) := by decide +kernel
theorem dL_law_1159 : decode cL_law 1159 = .ok (.iload_n 3, 1) := by decide +kernel
theorem dL_law_1160 : decode cL_law 1160 = .ok (.iconst 2, 1) := by decide +kernel
theorem dL_law_1161 : decode cL_law 1161 = .ok (.iadd, 1) := by decide +kernel
theorem dL_law_1162 : decode cL_law 1162 = .ok (.iaload, 1) := by decide +kernel
theorem dL_law_1163 : decode cL_law 1163 = .ok (.aload_n 0, 1) := by decide +kernel
theorem dL_law_1164 : decode cL_law 1164 = .ok (.iload_n 3, 1) := by decide +kernel
theorem dL_law_1165 : decode cL_law 1165 = .ok (.iconst 3, 1) := by decide +kernel
theorem dL_law_1166 : decode cL_law 1166 = .ok (.iadd, 1) := by decide +kernel
theorem dL_law_1167 : decode cL_law 1167 = .ok (.iaload, 1) := by decide +kernel
theorem dL_law_1168 : decode cL_law 1168 = .ok (.invokevirtual 166, 3) := by decide +kernel
theorem dL_law_1171 : decode cL_law 1171 = .ok (.if_icmp .eq 223, 3) := by decide +kernel
theorem dL_law_1174 : decode cL_law 1174 = .ok (.iconst 0, 1) := by decide +kernel
theorem dL_law_1175 : decode cL_law 1175 = .ok (.ireturn, 1) := by decide +kernel
theorem dL_law_1176 : decode cL_law 1176 = .ok (.aload_n 1, 1) := by decide +kernel
theorem dL_law_1177 : decode cL_law 1177 = .ok (.aload_n 0, 1) := by decide +kernel
theorem dL_law_1178 : decode cL_law 1178 = .ok (.iload_n 3, 1) := by decide +kernel
theorem dL_law_1179 : decode cL_law 1179 = .ok (.iconst 1, 1) := by decide +kernel
theorem dL_law_1180 : decode cL_law 1180 = .ok (.iadd, 1) := by decide +kernel
theorem dL_law_1181 : decode cL_law 1181 = .ok (.iaload, 1) := by decide +kernel
theorem dL_law_1182 : decode cL_law 1182 = .ok (.aload_n 0, 1) := by decide +kernel
theorem dL_law_1183 : decode cL_law 1183 = .ok (.iload_n 3, 1) := by decide +kernel
theorem dL_law_1184 : decode cL_law 1184 = .ok (.iconst 2, 1) := by decide +kernel
theorem dL_law_1185 : decode cL_law 1185 = .ok (.iadd, 1) := by decide +kernel
theorem dL_law_1186 : decode cL_law 1186 = .ok (.iaload, 1) := by decide +kernel
theorem dL_law_1187 : decode cL_law 1187 = .ok (.aload_n 0, 1) := by decide +kernel
theorem dL_law_1188 : decode cL_law 1188 = .ok (.iload_n 3, 1) := by decide +kernel
theorem dL_law_1189 : decode cL_law 1189 = .ok (.iconst 3, 1) := by decide +kernel
theorem dL_law_1190 : decode cL_law 1190 = .ok (.iadd, 1) := by decide +kernel
theorem dL_law_1191 : decode cL_law 1191 = .ok (.iaload, 1) := by decide +kernel
theorem dL_law_1192 : decode cL_law 1192 = .ok (.aload_n 0, 1) := by decide +kernel
theorem dL_law_1193 : decode cL_law 1193 = .ok (.iload_n 3, 1) := by decide +kernel
theorem dL_law_1194 : decode cL_law 1194 = .ok (.iconst 4, 1) := by decide +kernel
theorem dL_law_1195 : decode cL_law 1195 = .ok (.iadd, 1) := by decide +kernel
theorem dL_law_1196 : decode cL_law 1196 = .ok (.iaload, 1) := by decide +kernel
theorem dL_law_1197 : decode cL_law 1197 = .ok (.aload_n 0, 1) := by decide +kernel
theorem dL_law_1198 : decode cL_law 1198 = .ok (.iload_n 3, 1) := by decide +kernel
theorem dL_law_1199 : decode cL_law 1199 = .ok (.iconst 5, 1) := by decide +kernel
theorem dL_law_1200 : decode cL_law 1200 = .ok (.iadd, 1) := by decide +kernel
theorem dL_law_1201 : decode cL_law 1201 = .ok (.iaload, 1) := by decide +kernel
theorem dL_law_1202 : decode cL_law 1202 = .ok (.invokevirtual 167, 3) := by decide +kernel
theorem dL_law_1205 : decode cL_law 1205 = .ok (.aload_n 2, 1) := by decide +kernel
theorem dL_law_1206 : decode cL_law 1206 = .ok (.aload_n 0, 1) := by decide +kernel
theorem dL_law_1207 : decode cL_law 1207 = .ok (.iload_n 3, 1) := by decide +kernel
theorem dL_law_1208 : decode cL_law 1208 = .ok (.iconst 1, 1) := by decide +kernel
theorem dL_law_1209 : decode cL_law 1209 = .ok (.iadd, 1) := by decide +kernel
theorem dL_law_1210 : decode cL_law 1210 = .ok (.iaload, 1) := by decide +kernel
theorem dL_law_1211 : decode cL_law 1211 = .ok (.aload_n 0, 1) := by decide +kernel
theorem dL_law_1212 : decode cL_law 1212 = .ok (.iload_n 3, 1) := by decide +kernel
theorem dL_law_1213 : decode cL_law 1213 = .ok (.iconst 2, 1) := by decide +kernel
theorem dL_law_1214 : decode cL_law 1214 = .ok (.iadd, 1) := by decide +kernel
theorem dL_law_1215 : decode cL_law 1215 = .ok (.iaload, 1) := by decide +kernel
theorem dL_law_1216 : decode cL_law 1216 = .ok (.aload_n 0, 1) := by decide +kernel
theorem dL_law_1217 : decode cL_law 1217 = .ok (.iload_n 3, 1) := by decide +kernel
theorem dL_law_1218 : decode cL_law 1218 = .ok (.iconst 3, 1) := by decide +kernel
theorem dL_law_1219 : decode cL_law 1219 = .ok (.iadd, 1) := by decide +kernel
theorem dL_law_1220 : decode cL_law 1220 = .ok (.iaload, 1) := by decide +kernel
theorem dL_law_1221 : decode cL_law 1221 = .ok (.aload_n 0, 1) := by decide +kernel
theorem dL_law_1222 : decode cL_law 1222 = .ok (.iload_n 3, 1) := by decide +kernel
theorem dL_law_1223 : decode cL_law 1223 = .ok (.iconst 4, 1) := by decide +kernel
theorem dL_law_1224 : decode cL_law 1224 = .ok (.iadd, 1) := by decide +kernel
theorem dL_law_1225 : decode cL_law 1225 = .ok (.iaload, 1) := by decide +kernel
theorem dL_law_1226 : decode cL_law 1226 = .ok (.aload_n 0, 1) := by decide +kernel
theorem dL_law_1227 : decode cL_law 1227 = .ok (.iload_n 3, 1) := by decide +kernel
theorem dL_law_1228 : decode cL_law 1228 = .ok (.iconst 5, 1) := by decide +kernel
theorem dL_law_1229 : decode cL_law 1229 = .ok (.iadd, 1) := by decide +kernel
theorem dL_law_1230 : decode cL_law 1230 = .ok (.iaload, 1) := by decide +kernel
theorem dL_law_1231 : decode cL_law 1231 = .ok (.invokevirtual 171, 3) := by decide +kernel
theorem dL_law_1234 : decode cL_law 1234 = .ok (.if_icmp .eq 160, 3) := by decide +kernel
theorem dL_law_1237 : decode cL_law 1237 = .ok (.iconst 0, 1) := by decide +kernel
theorem dL_law_1238 : decode cL_law 1238 = .ok (.ireturn, 1) := by decide +kernel
theorem dL_law_1239 : decode cL_law 1239 = .ok (.aload_n 1, 1) := by decide +kernel
theorem dL_law_1240 : decode cL_law 1240 = .ok (.aload_n 0, 1) := by decide +kernel
theorem dL_law_1241 : decode cL_law 1241 = .ok (.iload_n 3, 1) := by decide +kernel
theorem dL_law_1242 : decode cL_law 1242 = .ok (.iconst 1, 1) := by decide +kernel
theorem dL_law_1243 : decode cL_law 1243 = .ok (.iadd, 1) := by decide +kernel
theorem dL_law_1244 : decode cL_law 1244 = .ok (.iaload, 1) := by decide +kernel
theorem dL_law_1245 : decode cL_law 1245 = .ok (.invokevirtual 172, 3) := by decide +kernel
theorem dL_law_1248 : decode cL_law 1248 = .ok (.aload_n 2, 1) := by decide +kernel
theorem dL_law_1249 : decode cL_law 1249 = .ok (.aload_n 0, 1) := by decide +kernel
theorem dL_law_1250 : decode cL_law 1250 = .ok (.iload_n 3, 1) := by decide +kernel
theorem dL_law_1251 : decode cL_law 1251 = .ok (.iconst 1, 1) := by decide +kernel
theorem dL_law_1252 : decode cL_law 1252 = .ok (.iadd, 1) := by decide +kernel
theorem dL_law_1253 : decode cL_law 1253 = .ok (.iaload, 1) := by decide +kernel
theorem dL_law_1254 : decode cL_law 1254 = .ok (.invokevirtual 175, 3) := by decide +kernel
theorem dL_law_1257 : decode cL_law 1257 = .ok (.if_icmp .eq 137, 3) := by decide +kernel
theorem dL_law_1260 : decode cL_law 1260 = .ok (.iconst 0, 1) := by decide +kernel
theorem dL_law_1261 : decode cL_law 1261 = .ok (.ireturn, 1) := by decide +kernel
theorem dL_law_1262 : decode cL_law 1262 = .ok (.aload_n 1, 1) := by decide +kernel
theorem dL_law_1263 : decode cL_law 1263 = .ok (.aload_n 0, 1) := by decide +kernel
theorem dL_law_1264 : decode cL_law 1264 = .ok (.iload_n 3, 1) := by decide +kernel
theorem dL_law_1265 : decode cL_law 1265 = .ok (.iconst 1, 1) := by decide +kernel
theorem dL_law_1266 : decode cL_law 1266 = .ok (.iadd, 1) := by decide +kernel
theorem dL_law_1267 : decode cL_law 1267 = .ok (.iaload, 1) := by decide +kernel
theorem dL_law_1268 : decode cL_law 1268 = .ok (.invokevirtual 176, 3) := by decide +kernel
theorem dL_law_1271 : decode cL_law 1271 = .ok (.aload_n 2, 1) := by decide +kernel
theorem dL_law_1272 : decode cL_law 1272 = .ok (.aload_n 0, 1) := by decide +kernel
theorem dL_law_1273 : decode cL_law 1273 = .ok (.iload_n 3, 1) := by decide +kernel
theorem dL_law_1274 : decode cL_law 1274 = .ok (.iconst 1, 1) := by decide +kernel
theorem dL_law_1275 : decode cL_law 1275 = .ok (.iadd, 1) := by decide +kernel
theorem dL_law_1276 : decode cL_law 1276 = .ok (.iaload, 1) := by decide +kernel
theorem dL_law_1277 : decode cL_law 1277 = .ok (.invokevirtual 179, 3) := by decide +kernel
theorem dL_law_1280 : decode cL_law 1280 = .ok (.lcmp, 1) := by decide +kernel
theorem dL_law_1281 : decode cL_law 1281 = .ok (.ifCond .eq 113, 3) := by decide +kernel
theorem dL_law_1284 : decode cL_law 1284 = .ok (.iconst 0, 1) := by decide +kernel
theorem dL_law_1285 : decode cL_law 1285 = .ok (.ireturn, 1) := by decide +kernel
theorem dL_law_1286 : decode cL_law 1286 = .ok (.aload_n 1, 1) := by decide +kernel
theorem dL_law_1287 : decode cL_law 1287 = .ok (.aload_n 0, 1) := by decide +kernel
theorem dL_law_1288 : decode cL_law 1288 = .ok (.iload_n 3, 1) := by decide +kernel
theorem dL_law_1289 : decode cL_law 1289 = .ok (.iconst 1, 1) := by decide +kernel
theorem dL_law_1290 : decode cL_law 1290 = .ok (.iadd, 1) := by decide +kernel
theorem dL_law_1291 : decode cL_law 1291 = .ok (.iaload, 1) := by decide +kernel
theorem dL_law_1292 : decode cL_law 1292 = .ok (.invokevirtual 180, 3) := by decide +kernel
theorem dL_law_1295 : decode cL_law 1295 = .ok (.aload_n 2, 1) := by decide +kernel
theorem dL_law_1296 : decode cL_law 1296 = .ok (.aload_n 0, 1) := by decide +kernel
theorem dL_law_1297 : decode cL_law 1297 = .ok (.iload_n 3, 1) := by decide +kernel
theorem dL_law_1298 : decode cL_law 1298 = .ok (.iconst 1, 1) := by decide +kernel
theorem dL_law_1299 : decode cL_law 1299 = .ok (.iadd, 1) := by decide +kernel
theorem dL_law_1300 : decode cL_law 1300 = .ok (.iaload, 1) := by decide +kernel
theorem dL_law_1301 : decode cL_law 1301 = .ok (.invokevirtual 183, 3) := by decide +kernel
theorem dL_law_1304 : decode cL_law 1304 = .ok (.if_icmp .eq 90, 3) := by decide +kernel
theorem dL_law_1307 : decode cL_law 1307 = .ok (.iconst 0, 1) := by decide +kernel
theorem dL_law_1308 : decode cL_law 1308 = .ok (.ireturn, 1) := by decide +kernel
theorem dL_law_1309 : decode cL_law 1309 = .ok (.aload_n 1, 1) := by decide +kernel
theorem dL_law_1310 : decode cL_law 1310 = .ok (.invokevirtual 184, 3) := by decide +kernel
theorem dL_law_1313 : decode cL_law 1313 = .ok (.aload_n 2, 1) := by decide +kernel
theorem dL_law_1314 : decode cL_law 1314 = .ok (.invokevirtual 187, 3) := by decide +kernel
theorem dL_law_1317 : decode cL_law 1317 = .ok (.if_icmp .eq 77, 3) := by decide +kernel
theorem dL_law_1320 : decode cL_law 1320 = .ok (.iconst 0, 1) := by decide +kernel
theorem dL_law_1321 : decode cL_law 1321 = .ok (.ireturn, 1) := by decide +kernel
theorem dL_law_1322 : decode cL_law 1322 = .ok (.aload_n 1, 1) := by decide +kernel
theorem dL_law_1323 : decode cL_law 1323 = .ok (.invokevirtual 188, 3) := by decide +kernel
theorem dL_law_1326 : decode cL_law 1326 = .ok (.aload_n 2, 1) := by decide +kernel
theorem dL_law_1327 : decode cL_law 1327 = .ok (.invokevirtual 191, 3) := by decide +kernel
theorem dL_law_1330 : decode cL_law 1330 = .ok (.if_icmp .eq 64, 3) := by decide +kernel
theorem dL_law_1333 : decode cL_law 1333 = .ok (.iconst 0, 1) := by decide +kernel
theorem dL_law_1334 : decode cL_law 1334 = .ok (.ireturn, 1) := by decide +kernel
theorem dL_law_1335 : decode cL_law 1335 = .ok (.aload_n 1, 1) := by decide +kernel
theorem dL_law_1336 : decode cL_law 1336 = .ok (.invokevirtual 192, 3) := by decide +kernel
theorem dL_law_1339 : decode cL_law 1339 = .ok (.aload_n 2, 1) := by decide +kernel
theorem dL_law_1340 : decode cL_law 1340 = .ok (.invokevirtual 195, 3) := by decide +kernel
theorem dL_law_1343 : decode cL_law 1343 = .ok (.if_icmp .eq 51, 3) := by decide +kernel
theorem dL_law_1346 : decode cL_law 1346 = .ok (.iconst 0, 1) := by decide +kernel
theorem dL_law_1347 : decode cL_law 1347 = .ok (.ireturn, 1) := by decide +kernel
theorem dL_law_1348 : decode cL_law 1348 = .ok (.aload_n 1, 1) := by decide +kernel
theorem dL_law_1349 : decode cL_law 1349 = .ok (.aload_n 0, 1) := by decide +kernel
theorem dL_law_1350 : decode cL_law 1350 = .ok (.iload_n 3, 1) := by decide +kernel
theorem dL_law_1351 : decode cL_law 1351 = .ok (.iconst 1, 1) := by decide +kernel
theorem dL_law_1352 : decode cL_law 1352 = .ok (.iadd, 1) := by decide +kernel
theorem dL_law_1353 : decode cL_law 1353 = .ok (.iaload, 1) := by decide +kernel
theorem dL_law_1354 : decode cL_law 1354 = .ok (.invokevirtual 196, 3) := by decide +kernel
theorem dL_law_1357 : decode cL_law 1357 = .ok (.aload_n 2, 1) := by decide +kernel
theorem dL_law_1358 : decode cL_law 1358 = .ok (.aload_n 0, 1) := by decide +kernel
theorem dL_law_1359 : decode cL_law 1359 = .ok (.iload_n 3, 1) := by decide +kernel
theorem dL_law_1360 : decode cL_law 1360 = .ok (.iconst 1, 1) := by decide +kernel
theorem dL_law_1361 : decode cL_law 1361 = .ok (.iadd, 1) := by decide +kernel
theorem dL_law_1362 : decode cL_law 1362 = .ok (.iaload, 1) := by decide +kernel
theorem dL_law_1363 : decode cL_law 1363 = .ok (.invokevirtual 199, 3) := by decide +kernel
theorem dL_law_1366 : decode cL_law 1366 = .ok (.if_icmp .eq 28, 3) := by decide +kernel
theorem dL_law_1369 : decode cL_law 1369 = .ok (.iconst 0, 1) := by decide +kernel
theorem dL_law_1370 : decode cL_law 1370 = .ok (.ireturn, 1) := by decide +kernel
theorem dL_law_1371 : decode cL_law 1371 = .ok (.aload_n 1, 1) := by decide +kernel
theorem dL_law_1372 : decode cL_law 1372 = .ok (.aload_n 0, 1) := by decide +kernel
theorem dL_law_1373 : decode cL_law 1373 = .ok (.iload_n 3, 1) := by decide +kernel
theorem dL_law_1374 : decode cL_law 1374 = .ok (.iconst 1, 1) := by decide +kernel
theorem dL_law_1375 : decode cL_law 1375 = .ok (.iadd, 1) := by decide +kernel
theorem dL_law_1376 : decode cL_law 1376 = .ok (.iaload, 1) := by decide +kernel
theorem dL_law_1377 : decode cL_law 1377 = .ok (.invokevirtual 200, 3) := by decide +kernel
theorem dL_law_1380 : decode cL_law 1380 = .ok (.aload_n 2, 1) := by decide +kernel
theorem dL_law_1381 : decode cL_law 1381 = .ok (.aload_n 0, 1) := by decide +kernel
theorem dL_law_1382 : decode cL_law 1382 = .ok (.iload_n 3, 1) := by decide +kernel
theorem dL_law_1383 : decode cL_law 1383 = .ok (.iconst 1, 1) := by decide +kernel
theorem dL_law_1384 : decode cL_law 1384 = .ok (.iadd, 1) := by decide +kernel
theorem dL_law_1385 : decode cL_law 1385 = .ok (.iaload, 1) := by decide +kernel
theorem dL_law_1386 : decode cL_law 1386 = .ok (.invokevirtual 203, 3) := by decide +kernel
theorem dL_law_1389 : decode cL_law 1389 = .ok (.if_icmp .eq 5, 3) := by decide +kernel
theorem dL_law_1392 : decode cL_law 1392 = .ok (.iconst 0, 1) := by decide +kernel
theorem dL_law_1393 : decode cL_law 1393 = .ok (.ireturn, 1) := by decide +kernel
theorem dL_law_1394 : decode cL_law 1394 = .ok (.iinc 3 6, 3) := by decide +kernel
theorem dL_law_1397 : decode cL_law 1397 = .ok (.goto (-1379), 3) := by decide +kernel
theorem dL_law_1400 : decode cL_law 1400 = .ok (.iconst 1, 1) := by decide +kernel
theorem dL_law_1401 : decode cL_law 1401 = .ok (.ireturn, 1) := by decide +kernel
