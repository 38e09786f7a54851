theorem dX0_init_0 : decode cX0_init 0 = .ok (.aload_n 0, 1) := by decide +kernel
theorem dX0_init_1 : decode cX0_init 1 = .ok (.invokespecial 3, 3) := by decide +kernel
theorem dX0_init_4 : decode cX0_init 4 = .ok (.aload_n 0, 1) := by decide +kernel
theorem dX0_init_5 : decode cX0_init 5 = .ok (.bipush 10, 2) := by decide +kernel
theorem dX0_init_7 : decode cX0_init 7 = .ok (.newarray .int, 2) := by decide +kernel
theorem dX0_init_9 : decode cX0_init 9 = .ok (.putfield 9, 3) := by decide +kernel
theorem dX0_init_12 : decode cX0_init 12 = .ok (.aload_n 0, 1) := by decide +kernel
theorem dX0_init_13 : decode cX0_init 13 = .ok (.bipush 10, 2) := by decide +kernel
theorem dX0_init_15 : decode cX0_init 15 = .ok (.newarray .int, 2) := by decide +kernel
theorem dX0_init_17 : decode cX0_init 17 = .ok (.putfield 15, 3) := by decide +kernel
theorem dX0_init_20 : decode cX0_init 20 = .ok (.aload_n 0, 1) := by decide +kernel
theorem dX0_init_21 : decode cX0_init 21 = .ok (.bipush 10, 2) := by decide +kernel
theorem dX0_init_23 : decode cX0_init 23 = .ok (.newarray .int, 2) := by decide +kernel
theorem dX0_init_25 : decode cX0_init 25 = .ok (.putfield 18, 3) := by decide +kernel
theorem dX0_init_28 : decode cX0_init 28 = .ok (.aload_n 0, 1) := by decide +kernel
theorem dX0_init_29 : decode cX0_init 29 = .ok (.bipush 10, 2) := by decide +kernel
theorem dX0_init_31 : decode cX0_init 31 = .ok (.newarray .int, 2) := by decide +kernel
theorem dX0_init_33 : decode cX0_init 33 = .ok (.putfield 21, 3) := by decide +kernel
theorem dX0_init_36 : decode cX0_init 36 = .ok (.aload_n 0, 1) := by decide +kernel
theorem dX0_init_37 : decode cX0_init 37 = .ok (.bipush 10, 2) := by decide +kernel
theorem dX0_init_39 : decode cX0_init 39 = .ok (.newarray .int, 2) := by decide +kernel
theorem dX0_init_41 : decode cX0_init 41 = .ok (.putfield 24, 3) := by decide +kernel
theorem dX0_init_44 : decode cX0_init 44 = .ok (.aload_n 0, 1) := by decide +kernel
theorem dX0_init_45 : decode cX0_init 45 = .ok (.bipush 10, 2) := by decide +kernel
theorem dX0_init_47 : decode cX0_init 47 = .ok (.newarray .int, 2) := by decide +kernel
theorem dX0_init_49 : decode cX0_init 49 = .ok (.putfield 27, 3) := by decide +kernel
theorem dX0_init_52 : decode cX0_init 52 = .ok (.aload_n 0, 1) := by decide +kernel
theorem dX0_init_53 : decode cX0_init 53 = .ok (.bipush 10, 2) := by decide +kernel
theorem dX0_init_55 : decode cX0_init 55 = .ok (.newarray .int, 2) := by decide +kernel
theorem dX0_init_57 : decode cX0_init 57 = .ok (.putfield 30, 3) := by decide +kernel
theorem dX0_init_60 : decode cX0_init 60 = .ok (.aload_n 0, 1) := by decide +kernel
theorem dX0_init_61 : decode cX0_init 61 = .ok (.iconst 0, 1) := by decide +kernel
theorem dX0_init_62 : decode cX0_init 62 = .ok (.putfield 33, 3) := by decide +kernel
theorem dX0_init_65 : decode cX0_init 65 = .ok (.aload_n 0, 1) := by decide +kernel
theorem dX0_init_66 : decode cX0_init 66 = .ok (.iconst 0, 1) := by decide +kernel
theorem dX0_init_67 : decode cX0_init 67 = .ok (.putfield 37, 3) := by decide +kernel
theorem dX0_init_70 : decode cX0_init 70 = .ok (.aload_n 0, 1) := by decide +kernel
theorem dX0_init_71 : decode cX0_init 71 = .ok (.iconst 5, 1) := by decide +kernel
theorem dX0_init_72 : decode cX0_init 72 = .ok (.putfield 40, 3) := by decide +kernel
theorem dX0_init_75 : decode cX0_init 75 = .ok (.aload_n 0, 1) := by decide +kernel
theorem dX0_init_76 : decode cX0_init 76 = .ok (.iconst 5, 1) := by decide +kernel
theorem dX0_init_77 : decode cX0_init 77 = .ok (.putfield 43, 3) := by decide +kernel
theorem dX0_init_80 : decode cX0_init 80 = .ok (.aload_n 0, 1) := by decide +kernel
theorem dX0_init_81 : decode cX0_init 81 = .ok (.iconst 3, 1) := by decide +kernel
theorem dX0_init_82 : decode cX0_init 82 = .ok (.putfield 46, 3) := by decide +kernel
theorem dX0_init_85 : decode cX0_init 85 = .ok (.aload_n 0, 1) := by decide +kernel
theorem dX0_init_86 : decode cX0_init 86 = .ok (.iconst 0, 1) := by decide +kernel
theorem dX0_init_87 : decode cX0_init 87 = .ok (.putfield 49, 3) := by decide +kernel
theorem dX0_init_90 : decode cX0_init 90 = .ok (.aload_n 0, 1) := by decide +kernel
theorem dX0_init_91 : decode cX0_init 91 = .ok (.iconst 0, 1) := by decide +kernel
theorem dX0_init_92 : decode cX0_init 92 = .ok (.putfield 52, 3) := by decide +kernel
theorem dX0_init_95 : decode cX0_init 95 = .ok (.aload_n 0, 1) := by decide +kernel
theorem dX0_init_96 : decode cX0_init 96 = .ok (.iconst 0, 1) := by decide +kernel
theorem dX0_init_97 : decode cX0_init 97 = .ok (.putfield 55, 3) := by decide +kernel
theorem dX0_init_100 : decode cX0_init 100 = .ok (.aload_n 0, 1) := by decide +kernel
theorem dX0_init_101 : decode cX0_init 101 = .ok (.iconst 1, 1) := by decide +kernel
theorem dX0_init_102 : decode cX0_init 102 = .ok (.putfield 58, 3) := by decide +kernel
theorem dX0_init_105 : decode cX0_init 105 = .ok (.iconst 0, 1) := by decide +kernel
theorem dX0_init_106 : decode cX0_init 106 = .ok (.istore_n 1, 1) := by decide +kernel
theorem dX0_init_107 : decode cX0_init 107 = .ok (.iload_n 1, 1) := by decide +kernel
theorem dX0_init_108 : decode cX0_init 108 = .ok (.bipush 10, 2) := by decide +kernel
theorem dX0_init_110 : decode cX0_init 110 = .ok (.if_icmp .ge 16, 3) := by decide +kernel
theorem dX0_init_113 : decode cX0_init 113 = .ok (.aload_n 0, 1) := by decide +kernel
theorem dX0_init_114 : decode cX0_init 114 = .ok (.getfield 30, 3) := by decide +kernel
theorem dX0_init_117 : decode cX0_init 117 = .ok (.iload_n 1, 1) := by decide +kernel
theorem dX0_init_118 : decode cX0_init 118 = .ok (.iconst (-1), 1) := by decide +kernel
theorem dX0_init_119 : decode cX0_init 119 = .ok (.iastore, 1) := by decide +kernel
theorem dX0_init_120 : decode cX0_init 120 = .ok (.iinc 1 1, 3) := by decide +kernel
theorem dX0_init_123 : decode cX0_init 123 = .ok (.goto (-16), 3) := by decide +kernel
theorem dX0_init_126 : decode cX0_init 126 = .ok (.return_, 1) := by decide +kernel
theorem dX0_become_0 : decode cX0_become 0 = .ok (.aload_n 1, 1) := by decide +kernel
theorem dX0_become_1 : decode cX0_become 1 = .ok (.getfield 9, 3) := by decide +kernel
theorem dX0_become_4 : decode cX0_become 4 = .ok (.iconst 0, 1) := by decide +kernel
theorem dX0_become_5 : decode cX0_become 5 = .ok (.aload_n 0, 1) := by decide +kernel
theorem dX0_become_6 : decode cX0_become 6 = .ok (.getfield 9, 3) := by decide +kernel
theorem dX0_become_9 : decode cX0_become 9 = .ok (.iconst 0, 1) := by decide +kernel
theorem dX0_become_10 : decode cX0_become 10 = .ok (.bipush 10, 2) := by decide +kernel
theorem dX0_become_12 : decode cX0_become 12 = .ok (.invokestatic 61, 3) := by decide +kernel
theorem dX0_become_15 : decode cX0_become 15 = .ok (.aload_n 1, 1) := by decide +kernel
theorem dX0_become_16 : decode cX0_become 16 = .ok (.getfield 15, 3) := by decide +kernel
theorem dX0_become_19 : decode cX0_become 19 = .ok (.iconst 0, 1) := by decide +kernel
theorem dX0_become_20 : decode cX0_become 20 = .ok (.aload_n 0, 1) := by decide +kernel
theorem dX0_become_21 : decode cX0_become 21 = .ok (.getfield 15, 3) := by decide +kernel
theorem dX0_become_24 : decode cX0_become 24 = .ok (.iconst 0, 1) := by decide +kernel
theorem dX0_become_25 : decode cX0_become 25 = .ok (.bipush 10, 2) := by decide +kernel
theorem dX0_become_27 : decode cX0_become 27 = .ok (.invokestatic 61, 3) := by decide +kernel
theorem dX0_become_30 : decode cX0_become 30 = .ok (.aload_n 1, 1) := by decide +kernel
theorem dX0_become_31 : decode cX0_become 31 = .ok (.getfield 18, 3) := by decide +kernel
theorem dX0_become_34 : decode cX0_become 34 = .ok (.iconst 0, 1) := by decide +kernel
theorem dX0_become_35 : decode cX0_become 35 = .ok (.aload_n 0, 1) := by decide +kernel
theorem dX0_become_36 : decode cX0_become 36 = .ok (.getfield 18, 3) := by decide +kernel
theorem dX0_become_39 : decode cX0_become 39 = .ok (.iconst 0, 1) := by decide +kernel
theorem dX0_become_40 : decode cX0_become 40 = .ok (.bipush 10, 2) := by decide +kernel
theorem dX0_become_42 : decode cX0_become 42 = .ok (.invokestatic 61, 3) := by decide +kernel
theorem dX0_become_45 : decode cX0_become 45 = .ok (.aload_n 1, 1) := by decide +kernel
theorem dX0_become_46 : decode cX0_become 46 = .ok (.getfield 21, 3) := by decide +kernel
theorem dX0_become_49 : decode cX0_become 49 = .ok (.iconst 0, 1) := by decide +kernel
theorem dX0_become_50 : decode cX0_become 50 = .ok (.aload_n 0, 1) := by decide +kernel
theorem dX0_become_51 : decode cX0_become 51 = .ok (.getfield 21, 3) := by decide +kernel
theorem dX0_become_54 : decode cX0_become 54 = .ok (.iconst 0, 1) := by decide +kernel
theorem dX0_become_55 : decode cX0_become 55 = .ok (.bipush 10, 2) := by decide +kernel
theorem dX0_become_57 : decode cX0_become 57 = .ok (.invokestatic 61, 3) := by decide +kernel
theorem dX0_become_60 : decode cX0_become 60 = .ok (.aload_n 1, 1) := by decide +kernel
theorem dX0_become_61 : decode cX0_become 61 = .ok (.getfield 24, 3) := by decide +kernel
theorem dX0_become_64 : decode cX0_become 64 = .ok (.iconst 0, 1) := by decide +kernel
theorem dX0_become_65 : decode cX0_become 65 = .ok (.aload_n 0, 1) := by decide +kernel
theorem dX0_become_66 : decode cX0_become 66 = .ok (.getfield 24, 3) := by decide +kernel
theorem dX0_become_69 : decode cX0_become 69 = .ok (.iconst 0, 1) := by decide +kernel
theorem dX0_become_70 : decode cX0_become 70 = .ok (.bipush 10, 2) := by decide +kernel
theorem dX0_become_72 : decode cX0_become 72 = .ok (.invokestatic 61, 3) := by decide +kernel
theorem dX0_become_75 : decode cX0_become 75 = .ok (.aload_n 1, 1) := by decide +kernel
theorem dX0_become_76 : decode cX0_become 76 = .ok (.getfield 27, 3) := by decide +kernel
theorem dX0_become_79 : decode cX0_become 79 = .ok (.iconst 0, 1) := by decide +kernel
theorem dX0_become_80 : decode cX0_become 80 = .ok (.aload_n 0, 1) := by decide +kernel
theorem dX0_become_81 : decode cX0_become 81 = .ok (.getfield 27, 3) := by decide +kernel
theorem dX0_become_84 : decode cX0_become 84 = .ok (.iconst 0, 1) := by decide +kernel
theorem dX0_become_85 : decode cX0_become 85 = .ok (.bipush 10, 2) := by decide +kernel
theorem dX0_become_87 : decode cX0_become 87 = .ok (.invokestatic 61, 3) := by decide +kernel
theorem dX0_become_90 : decode cX0_become 90 = .ok (.aload_n 1, 1) := by decide +kernel
theorem dX0_become_91 : decode cX0_become 91 = .ok (.getfield 30, 3) := by decide +kernel
theorem dX0_become_94 : decode cX0_become 94 = .ok (.iconst 0, 1) := by decide +kernel
theorem dX0_become_95 : decode cX0_become 95 = .ok (.aload_n 0, 1) := by decide +kernel
theorem dX0_become_96 : decode cX0_become 96 = .ok (.getfield 30, 3) := by decide +kernel
theorem dX0_become_99 : decode cX0_become 99 = .ok (.iconst 0, 1) := by decide +kernel
theorem dX0_become_100 : decode cX0_become 100 = .ok (.bipush 10, 2) := by decide +kernel
theorem dX0_become_102 : decode cX0_become 102 = .ok (.invokestatic 61, 3) := by decide +kernel
theorem dX0_become_105 : decode cX0_become 105 = .ok (.aload_n 0, 1) := by decide +kernel
theorem dX0_become_106 : decode cX0_become 106 = .ok (.aload_n 1, 1) := by decide +kernel
theorem dX0_become_107 : decode cX0_become 107 = .ok (.getfield 33, 3) := by decide +kernel
theorem dX0_become_110 : decode cX0_become 110 = .ok (.putfield 33, 3) := by decide +kernel
theorem dX0_become_113 : decode cX0_become 113 = .ok (.aload_n 0, 1) := by decide +kernel
theorem dX0_become_114 : decode cX0_become 114 = .ok (.aload_n 1, 1) := by decide +kernel
theorem dX0_become_115 : decode cX0_become 115 = .ok (.getfield 37, 3) := by decide +kernel
theorem dX0_become_118 : decode cX0_become 118 = .ok (.putfield 37, 3) := by decide +kernel
theorem dX0_become_121 : decode cX0_become 121 = .ok (.aload_n 0, 1) := by decide +kernel
theorem dX0_become_122 : decode cX0_become 122 = .ok (.aload_n 1, 1) := by decide +kernel
theorem dX0_become_123 : decode cX0_become 123 = .ok (.getfield 40, 3) := by decide +kernel
theorem dX0_become_126 : decode cX0_become 126 = .ok (.putfield 40, 3) := by decide +kernel
theorem dX0_become_129 : decode cX0_become 129 = .ok (.aload_n 0, 1) := by decide +kernel
theorem dX0_become_130 : decode cX0_become 130 = .ok (.aload_n 1, 1) := by decide +kernel
theorem dX0_become_131 : decode cX0_become 131 = .ok (.getfield 43, 3) := by decide +kernel
theorem dX0_become_134 : decode cX0_become 134 = .ok (.putfield 43, 3) := by decide +kernel
theorem dX0_become_137 : decode cX0_become 137 = .ok (.aload_n 0, 1) := by decide +kernel
theorem dX0_become_138 : decode cX0_become 138 = .ok (.aload_n 1, 1) := by decide +kernel
theorem dX0_become_139 : decode cX0_become 139 = .ok (.getfield 46, 3) := by decide +kernel
theorem dX0_become_142 : decode cX0_become 142 = .ok (.putfield 46, 3) := by decide +kernel
theorem dX0_become_145 : decode cX0_become 145 = .ok (.aload_n 0, 1) := by decide +kernel
theorem dX0_become_146 : decode cX0_become 146 = .ok (.aload_n 1, 1) := by decide +kernel
theorem dX0_become_147 : decode cX0_become 147 = .ok (.getfield 49, 3) := by decide +kernel
theorem dX0_become_150 : decode cX0_become 150 = .ok (.putfield 49, 3) := by decide +kernel
theorem dX0_become_153 : decode cX0_become 153 = .ok (.aload_n 0, 1) := by decide +kernel
theorem dX0_become_154 : decode cX0_become 154 = .ok (.aload_n 1, 1) := by decide +kernel
theorem dX0_become_155 : decode cX0_become 155 = .ok (.getfield 52, 3) := by decide +kernel
theorem dX0_become_158 : decode cX0_become 158 = .ok (.putfield 52, 3) := by decide +kernel
theorem dX0_become_161 : decode cX0_become 161 = .ok (.aload_n 0, 1) := by decide +kernel
theorem dX0_become_162 : decode cX0_become 162 = .ok (.aload_n 1, 1) := by decide +kernel
theorem dX0_become_163 : decode cX0_become 163 = .ok (.getfield 55, 3) := by decide +kernel
theorem dX0_become_166 : decode cX0_become 166 = .ok (.putfield 55, 3) := by decide +kernel
theorem dX0_become_169 : decode cX0_become 169 = .ok (.aload_n 0, 1) := by decide +kernel
theorem dX0_become_170 : decode cX0_become 170 = .ok (.aload_n 1, 1) := by decide +kernel
theorem dX0_become_171 : decode cX0_become 171 = .ok (.getfield 58, 3) := by decide +kernel
theorem dX0_become_174 : decode cX0_become 174 = .ok (.putfield 58, 3) := by decide +kernel
theorem dX0_become_177 : decode cX0_become 177 = .ok (.return_, 1) := by decide +kernel
theorem dX0_houses_0 : decode cX0_houses 0 = .ok (.iload_n 1, 1) := by decide +kernel
theorem dX0_houses_1 : decode cX0_houses 1 = .ok (.ifCond .lt 15, 3) := by decide +kernel
theorem dX0_houses_4 : decode cX0_houses 4 = .ok (.iload_n 1, 1) := by decide +kernel
theorem dX0_houses_5 : decode cX0_houses 5 = .ok (.aload_n 0, 1) := by decide +kernel
theorem dX0_houses_6 : decode cX0_houses 6 = .ok (.getfield 33, 3) := by decide +kernel
theorem dX0_houses_9 : decode cX0_houses 9 = .ok (.if_icmp .ge 7, 3) := by decide +kernel
theorem dX0_houses_12 : decode cX0_houses 12 = .ok (.iconst 1, 1) := by decide +kernel
theorem dX0_houses_13 : decode cX0_houses 13 = .ok (.goto 4, 3) := by decide +kernel
theorem dX0_houses_16 : decode cX0_houses 16 = .ok (.iconst 0, 1) := by decide +kernel
theorem dX0_houses_17 : decode cX0_houses 17 = .ok (.ireturn, 1) := by decide +kernel
theorem dX0_settle_0 : decode cX0_settle 0 = .ok (.aload_n 0, 1) := by decide +kernel
theorem dX0_settle_1 : decode cX0_settle 1 = .ok (.getfield 33, 3) := by decide +kernel
theorem dX0_settle_4 : decode cX0_settle 4 = .ok (.istore_n 2, 1) := by decide +kernel
theorem dX0_settle_5 : decode cX0_settle 5 = .ok (.iload_n 2, 1) := by decide +kernel
theorem dX0_settle_6 : decode cX0_settle 6 = .ok (.bipush 10, 2) := by decide +kernel
theorem dX0_settle_8 : decode cX0_settle 8 = .ok (.if_icmp .lt 4, 3) := by decide +kernel
theorem dX0_settle_11 : decode cX0_settle 11 = .ok (.return_, 1) := by decide +kernel
theorem dX0_settle_12 : decode cX0_settle 12 = .ok (.aload_n 0, 1) := by decide +kernel
theorem dX0_settle_13 : decode cX0_settle 13 = .ok (.getfield 9, 3) := by decide +kernel
theorem dX0_settle_16 : decode cX0_settle 16 = .ok (.iload_n 2, 1) := by decide +kernel
theorem dX0_settle_17 : decode cX0_settle 17 = .ok (.iload_n 1, 1) := by decide +kernel
theorem dX0_settle_18 : decode cX0_settle 18 = .ok (.iastore, 1) := by decide +kernel
theorem dX0_settle_19 : decode cX0_settle 19 = .ok (.aload_n 0, 1) := by decide +kernel
theorem dX0_settle_20 : decode cX0_settle 20 = .ok (.getfield 15, 3) := by decide +kernel
theorem dX0_settle_23 : decode cX0_settle 23 = .ok (.iload_n 2, 1) := by decide +kernel
theorem dX0_settle_24 : decode cX0_settle 24 = .ok (.iconst 3, 1) := by decide +kernel
theorem dX0_settle_25 : decode cX0_settle 25 = .ok (.iastore, 1) := by decide +kernel
theorem dX0_settle_26 : decode cX0_settle 26 = .ok (.aload_n 0, 1) := by decide +kernel
theorem dX0_settle_27 : decode cX0_settle 27 = .ok (.getfield 18, 3) := by decide +kernel
theorem dX0_settle_30 : decode cX0_settle 30 = .ok (.iload_n 2, 1) := by decide +kernel
theorem dX0_settle_31 : decode cX0_settle 31 = .ok (.iconst 0, 1) := by decide +kernel
theorem dX0_settle_32 : decode cX0_settle 32 = .ok (.iastore, 1) := by decide +kernel
theorem dX0_settle_33 : decode cX0_settle 33 = .ok (.aload_n 0, 1) := by decide +kernel
theorem dX0_settle_34 : decode cX0_settle 34 = .ok (.getfield 21, 3) := by decide +kernel
theorem dX0_settle_37 : decode cX0_settle 37 = .ok (.iload_n 2, 1) := by decide +kernel
theorem dX0_settle_38 : decode cX0_settle 38 = .ok (.bipush 10, 2) := by decide +kernel
theorem dX0_settle_40 : decode cX0_settle 40 = .ok (.iastore, 1) := by decide +kernel
theorem dX0_settle_41 : decode cX0_settle 41 = .ok (.aload_n 0, 1) := by decide +kernel
theorem dX0_settle_42 : decode cX0_settle 42 = .ok (.getfield 24, 3) := by decide +kernel
theorem dX0_settle_45 : decode cX0_settle 45 = .ok (.iload_n 2, 1) := by decide +kernel
theorem dX0_settle_46 : decode cX0_settle 46 = .ok (.iconst 0, 1) := by decide +kernel
theorem dX0_settle_47 : decode cX0_settle 47 = .ok (.iastore, 1) := by decide +kernel
theorem dX0_settle_48 : decode cX0_settle 48 = .ok (.aload_n 0, 1) := by decide +kernel
theorem dX0_settle_49 : decode cX0_settle 49 = .ok (.getfield 27, 3) := by decide +kernel
theorem dX0_settle_52 : decode cX0_settle 52 = .ok (.iload_n 2, 1) := by decide +kernel
theorem dX0_settle_53 : decode cX0_settle 53 = .ok (.iconst 0, 1) := by decide +kernel
theorem dX0_settle_54 : decode cX0_settle 54 = .ok (.iastore, 1) := by decide +kernel
theorem dX0_settle_55 : decode cX0_settle 55 = .ok (.aload_n 0, 1) := by decide +kernel
theorem dX0_settle_56 : decode cX0_settle 56 = .ok (.iload_n 2, 1) := by decide +kernel
theorem dX0_settle_57 : decode cX0_settle 57 = .ok (.iconst 1, 1) := by decide +kernel
theorem dX0_settle_58 : decode cX0_settle 58 = .ok (.iadd, 1) := by decide +kernel
theorem dX0_settle_59 : decode cX0_settle 59 = .ok (.putfield 33, 3) := by decide +kernel
theorem dX0_settle_62 : decode cX0_settle 62 = .ok (.return_, 1) := by decide +kernel
theorem dX0_hasTrait_0 : decode cX0_hasTrait 0 = .ok (.iload_n 0, 1) := by decide +kernel
theorem dX0_hasTrait_1 : decode cX0_hasTrait 1 = .ok (.ifCond .lt 17, 3) := by decide +kernel
theorem dX0_hasTrait_4 : decode cX0_hasTrait 4 = .ok (.iload_n 0, 1) := by decide +kernel
theorem dX0_hasTrait_5 : decode cX0_hasTrait 5 = .ok (.iconst 5, 1) := by decide +kernel
theorem dX0_hasTrait_6 : decode cX0_hasTrait 6 = .ok (.if_icmp .gt 12, 3) := by decide +kernel
theorem dX0_hasTrait_9 : decode cX0_hasTrait 9 = .ok (.iload_n 0, 1) := by decide +kernel
theorem dX0_hasTrait_10 : decode cX0_hasTrait 10 = .ok (.iconst 4, 1) := by decide +kernel
theorem dX0_hasTrait_11 : decode cX0_hasTrait 11 = .ok (.if_icmp .eq 7, 3) := by decide +kernel
theorem dX0_hasTrait_14 : decode cX0_hasTrait 14 = .ok (.iconst 1, 1) := by decide +kernel
theorem dX0_hasTrait_15 : decode cX0_hasTrait 15 = .ok (.goto 4, 3) := by decide +kernel
theorem dX0_hasTrait_18 : decode cX0_hasTrait 18 = .ok (.iconst 0, 1) := by decide +kernel
theorem dX0_hasTrait_19 : decode cX0_hasTrait 19 = .ok (.ireturn, 1) := by decide +kernel
theorem dX0_allowsTrait_0 : decode cX0_allowsTrait 0 = .ok (.iload_n 0, 1) := by decide +kernel
theorem dX0_allowsTrait_1 : decode cX0_allowsTrait 1 = .ok (.tableswitch 107 0 5 #[39, 44, 60, 75, 107, 92], 39) := by decide +kernel
theorem dX0_allowsTrait_40 : decode cX0_allowsTrait 40 = .ok (.iload_n 1, 1) := by decide +kernel
theorem dX0_allowsTrait_41 : decode cX0_allowsTrait 41 = .ok (.invokestatic 67, 3) := by decide +kernel
theorem dX0_allowsTrait_44 : decode cX0_allowsTrait 44 = .ok (.ireturn, 1) := by decide +kernel
theorem dX0_allowsTrait_45 : decode cX0_allowsTrait 45 = .ok (.iload_n 1, 1) := by decide +kernel
theorem dX0_allowsTrait_46 : decode cX0_allowsTrait 46 = .ok (.ifCond .lt 13, 3) := by decide +kernel
theorem dX0_allowsTrait_49 : decode cX0_allowsTrait 49 = .ok (.iload_n 1, 1) := by decide +kernel
theorem dX0_allowsTrait_50 : decode cX0_allowsTrait 50 = .ok (.bipush 9, 2) := by decide +kernel
theorem dX0_allowsTrait_52 : decode cX0_allowsTrait 52 = .ok (.if_icmp .gt 7, 3) := by decide +kernel
theorem dX0_allowsTrait_55 : decode cX0_allowsTrait 55 = .ok (.iconst 1, 1) := by decide +kernel
theorem dX0_allowsTrait_56 : decode cX0_allowsTrait 56 = .ok (.goto 4, 3) := by decide +kernel
theorem dX0_allowsTrait_59 : decode cX0_allowsTrait 59 = .ok (.iconst 0, 1) := by decide +kernel
theorem dX0_allowsTrait_60 : decode cX0_allowsTrait 60 = .ok (.ireturn, 1) := by decide +kernel
theorem dX0_allowsTrait_61 : decode cX0_allowsTrait 61 = .ok (.iload_n 1, 1) := by decide +kernel
theorem dX0_allowsTrait_62 : decode cX0_allowsTrait 62 = .ok (.ifCond .lt 12, 3) := by decide +kernel
theorem dX0_allowsTrait_65 : decode cX0_allowsTrait 65 = .ok (.iload_n 1, 1) := by decide +kernel
theorem dX0_allowsTrait_66 : decode cX0_allowsTrait 66 = .ok (.iconst 4, 1) := by decide +kernel
theorem dX0_allowsTrait_67 : decode cX0_allowsTrait 67 = .ok (.if_icmp .ge 7, 3) := by decide +kernel
theorem dX0_allowsTrait_70 : decode cX0_allowsTrait 70 = .ok (.iconst 1, 1) := by decide +kernel
theorem dX0_allowsTrait_71 : decode cX0_allowsTrait 71 = .ok (.goto 4, 3) := by decide +kernel
theorem dX0_allowsTrait_74 : decode cX0_allowsTrait 74 = .ok (.iconst 0, 1) := by decide +kernel
theorem dX0_allowsTrait_75 : decode cX0_allowsTrait 75 = .ok (.ireturn, 1) := by decide +kernel
theorem dX0_allowsTrait_76 : decode cX0_allowsTrait 76 = .ok (.iload_n 1, 1) := by decide +kernel
theorem dX0_allowsTrait_77 : decode cX0_allowsTrait 77 = .ok (.ifCond .lt 14, 3) := by decide +kernel
theorem dX0_allowsTrait_80 : decode cX0_allowsTrait 80 = .ok (.iload_n 1, 1) := by decide +kernel
theorem dX0_allowsTrait_81 : decode cX0_allowsTrait 81 = .ok (.sipush 9999, 3) := by decide +kernel
theorem dX0_allowsTrait_84 : decode cX0_allowsTrait 84 = .ok (.if_icmp .gt 7, 3) := by decide +kernel
theorem dX0_allowsTrait_87 : decode cX0_allowsTrait 87 = .ok (.iconst 1, 1) := by decide +kernel
theorem dX0_allowsTrait_88 : decode cX0_allowsTrait 88 = .ok (.goto 4, 3) := by decide +kernel
theorem dX0_allowsTrait_91 : decode cX0_allowsTrait 91 = .ok (.iconst 0, 1) := by decide +kernel
theorem dX0_allowsTrait_92 : decode cX0_allowsTrait 92 = .ok (.ireturn, 1) := by decide +kernel
theorem dX0_allowsTrait_93 : decode cX0_allowsTrait 93 = .ok (.iload_n 1, 1) := by decide +kernel
theorem dX0_allowsTrait_94 : decode cX0_allowsTrait 94 = .ok (.ifCond .lt 12, 3) := by decide +kernel
theorem dX0_allowsTrait_97 : decode cX0_allowsTrait 97 = .ok (.iload_n 1, 1) := by decide +kernel
theorem dX0_allowsTrait_98 : decode cX0_allowsTrait 98 = .ok (.iconst 2, 1) := by decide +kernel
theorem dX0_allowsTrait_99 : decode cX0_allowsTrait 99 = .ok (.if_icmp .gt 7, 3) := by decide +kernel
theorem dX0_allowsTrait_102 : decode cX0_allowsTrait 102 = .ok (.iconst 1, 1) := by decide +kernel
theorem dX0_allowsTrait_103 : decode cX0_allowsTrait 103 = .ok (.goto 4, 3) := by decide +kernel
theorem dX0_allowsTrait_106 : decode cX0_allowsTrait 106 = .ok (.iconst 0, 1) := by decide +kernel
theorem dX0_allowsTrait_107 : decode cX0_allowsTrait 107 = .ok (.ireturn, 1) := by decide +kernel
theorem dX0_allowsTrait_108 : decode cX0_allowsTrait 108 = .ok (.iconst 0, 1) := by decide +kernel
theorem dX0_allowsTrait_109 : decode cX0_allowsTrait 109 = .ok (.ireturn, 1) := by decide +kernel
theorem dX0_trait_0 : decode cX0_trait 0 = .ok (.iload_n 2, 1) := by decide +kernel
theorem dX0_trait_1 : decode cX0_trait 1 = .ok (.tableswitch 59 0 3 #[31, 38, 45, 52], 31) := by decide +kernel
theorem dX0_trait_32 : decode cX0_trait 32 = .ok (.aload_n 0, 1) := by decide +kernel
theorem dX0_trait_33 : decode cX0_trait 33 = .ok (.getfield 9, 3) := by decide +kernel
theorem dX0_trait_36 : decode cX0_trait 36 = .ok (.iload_n 1, 1) := by decide +kernel
theorem dX0_trait_37 : decode cX0_trait 37 = .ok (.iaload, 1) := by decide +kernel
theorem dX0_trait_38 : decode cX0_trait 38 = .ok (.ireturn, 1) := by decide +kernel
theorem dX0_trait_39 : decode cX0_trait 39 = .ok (.aload_n 0, 1) := by decide +kernel
theorem dX0_trait_40 : decode cX0_trait 40 = .ok (.getfield 15, 3) := by decide +kernel
theorem dX0_trait_43 : decode cX0_trait 43 = .ok (.iload_n 1, 1) := by decide +kernel
theorem dX0_trait_44 : decode cX0_trait 44 = .ok (.iaload, 1) := by decide +kernel
theorem dX0_trait_45 : decode cX0_trait 45 = .ok (.ireturn, 1) := by decide +kernel
theorem dX0_trait_46 : decode cX0_trait 46 = .ok (.aload_n 0, 1) := by decide +kernel
theorem dX0_trait_47 : decode cX0_trait 47 = .ok (.getfield 18, 3) := by decide +kernel
theorem dX0_trait_50 : decode cX0_trait 50 = .ok (.iload_n 1, 1) := by decide +kernel
theorem dX0_trait_51 : decode cX0_trait 51 = .ok (.iaload, 1) := by decide +kernel
theorem dX0_trait_52 : decode cX0_trait 52 = .ok (.ireturn, 1) := by decide +kernel
theorem dX0_trait_53 : decode cX0_trait 53 = .ok (.aload_n 0, 1) := by decide +kernel
theorem dX0_trait_54 : decode cX0_trait 54 = .ok (.getfield 21, 3) := by decide +kernel
theorem dX0_trait_57 : decode cX0_trait 57 = .ok (.iload_n 1, 1) := by decide +kernel
theorem dX0_trait_58 : decode cX0_trait 58 = .ok (.iaload, 1) := by decide +kernel
theorem dX0_trait_59 : decode cX0_trait 59 = .ok (.ireturn, 1) := by decide +kernel
theorem dX0_trait_60 : decode cX0_trait 60 = .ok (.aload_n 0, 1) := by decide +kernel
theorem dX0_trait_61 : decode cX0_trait 61 = .ok (.getfield 27, 3) := by decide +kernel
theorem dX0_trait_64 : decode cX0_trait 64 = .ok (.iload_n 1, 1) := by decide +kernel
theorem dX0_trait_65 : decode cX0_trait 65 = .ok (.iaload, 1) := by decide +kernel
theorem dX0_trait_66 : decode cX0_trait 66 = .ok (.ireturn, 1) := by decide +kernel
theorem dX0_setTrait_0 : decode cX0_setTrait 0 = .ok (.aload_n 0, 1) := by decide +kernel
theorem dX0_setTrait_1 : decode cX0_setTrait 1 = .ok (.iload_n 1, 1) := by decide +kernel
theorem dX0_setTrait_2 : decode cX0_setTrait 2 = .ok (.invokevirtual 71, 3) := by decide +kernel
theorem dX0_setTrait_5 : decode cX0_setTrait 5 = .ok (.ifCond .ne 4, 3) := by decide +kernel
theorem dX0_setTrait_8 : decode cX0_setTrait 8 = .ok (.return_, 1) := by decide +kernel
theorem dX0_setTrait_9 : decode cX0_setTrait 9 = .ok (.iload_n 2, 1) := by decide +kernel
theorem dX0_setTrait_10 : decode cX0_setTrait 10 = .ok (.tableswitch 70 0 3 #[30, 40, 50, 60], 30) := by decide +kernel
theorem dX0_setTrait_40 : decode cX0_setTrait 40 = .ok (.aload_n 0, 1) := by decide +kernel
theorem dX0_setTrait_41 : decode cX0_setTrait 41 = .ok (.getfield 9, 3) := by decide +kernel
theorem dX0_setTrait_44 : decode cX0_setTrait 44 = .ok (.iload_n 1, 1) := by decide +kernel
theorem dX0_setTrait_45 : decode cX0_setTrait 45 = .ok (.iload_n 3, 1) := by decide +kernel
theorem dX0_setTrait_46 : decode cX0_setTrait 46 = .ok (.iastore, 1) := by decide +kernel
theorem dX0_setTrait_47 : decode cX0_setTrait 47 = .ok (.goto 40, 3) := by decide +kernel
theorem dX0_setTrait_50 : decode cX0_setTrait 50 = .ok (.aload_n 0, 1) := by decide +kernel
theorem dX0_setTrait_51 : decode cX0_setTrait 51 = .ok (.getfield 15, 3) := by decide +kernel
theorem dX0_setTrait_54 : decode cX0_setTrait 54 = .ok (.iload_n 1, 1) := by decide +kernel
theorem dX0_setTrait_55 : decode cX0_setTrait 55 = .ok (.iload_n 3, 1) := by decide +kernel
theorem dX0_setTrait_56 : decode cX0_setTrait 56 = .ok (.iastore, 1) := by decide +kernel
theorem dX0_setTrait_57 : decode cX0_setTrait 57 = .ok (.goto 30, 3) := by decide +kernel
theorem dX0_setTrait_60 : decode cX0_setTrait 60 = .ok (.aload_n 0, 1) := by decide +kernel
theorem dX0_setTrait_61 : decode cX0_setTrait 61 = .ok (.getfield 18, 3) := by decide +kernel
theorem dX0_setTrait_64 : decode cX0_setTrait 64 = .ok (.iload_n 1, 1) := by decide +kernel
theorem dX0_setTrait_65 : decode cX0_setTrait 65 = .ok (.iload_n 3, 1) := by decide +kernel
theorem dX0_setTrait_66 : decode cX0_setTrait 66 = .ok (.iastore, 1) := by decide +kernel
theorem dX0_setTrait_67 : decode cX0_setTrait 67 = .ok (.goto 20, 3) := by decide +kernel
theorem dX0_setTrait_70 : decode cX0_setTrait 70 = .ok (.aload_n 0, 1) := by decide +kernel
theorem dX0_setTrait_71 : decode cX0_setTrait 71 = .ok (.getfield 21, 3) := by decide +kernel
theorem dX0_setTrait_74 : decode cX0_setTrait 74 = .ok (.iload_n 1, 1) := by decide +kernel
theorem dX0_setTrait_75 : decode cX0_setTrait 75 = .ok (.iload_n 3, 1) := by decide +kernel
theorem dX0_setTrait_76 : decode cX0_setTrait 76 = .ok (.iastore, 1) := by decide +kernel
theorem dX0_setTrait_77 : decode cX0_setTrait 77 = .ok (.goto 10, 3) := by decide +kernel
theorem dX0_setTrait_80 : decode cX0_setTrait 80 = .ok (.aload_n 0, 1) := by decide +kernel
theorem dX0_setTrait_81 : decode cX0_setTrait 81 = .ok (.getfield 27, 3) := by decide +kernel
theorem dX0_setTrait_84 : decode cX0_setTrait 84 = .ok (.iload_n 1, 1) := by decide +kernel
theorem dX0_setTrait_85 : decode cX0_setTrait 85 = .ok (.iload_n 3, 1) := by decide +kernel
theorem dX0_setTrait_86 : decode cX0_setTrait 86 = .ok (.iastore, 1) := by decide +kernel
theorem dX0_setTrait_87 : decode cX0_setTrait 87 = .ok (.return_, 1) := by decide +kernel
theorem dX0_allowsRule_0 : decode cX0_allowsRule 0 = .ok (.iload_n 0, 1) := by decide +kernel
theorem dX0_allowsRule_1 : decode cX0_allowsRule 1 = .ok (.tableswitch 98 0 4 #[35, 35, 51, 68, 83], 35) := by decide +kernel
theorem dX0_allowsRule_36 : decode cX0_allowsRule 36 = .ok (.iload_n 1, 1) := by decide +kernel
theorem dX0_allowsRule_37 : decode cX0_allowsRule 37 = .ok (.ifCond .lt 13, 3) := by decide +kernel
theorem dX0_allowsRule_40 : decode cX0_allowsRule 40 = .ok (.iload_n 1, 1) := by decide +kernel
theorem dX0_allowsRule_41 : decode cX0_allowsRule 41 = .ok (.bipush 10, 2) := by decide +kernel
theorem dX0_allowsRule_43 : decode cX0_allowsRule 43 = .ok (.if_icmp .gt 7, 3) := by decide +kernel
theorem dX0_allowsRule_46 : decode cX0_allowsRule 46 = .ok (.iconst 1, 1) := by decide +kernel
theorem dX0_allowsRule_47 : decode cX0_allowsRule 47 = .ok (.goto 4, 3) := by decide +kernel
theorem dX0_allowsRule_50 : decode cX0_allowsRule 50 = .ok (.iconst 0, 1) := by decide +kernel
theorem dX0_allowsRule_51 : decode cX0_allowsRule 51 = .ok (.ireturn, 1) := by decide +kernel
theorem dX0_allowsRule_52 : decode cX0_allowsRule 52 = .ok (.iload_n 1, 1) := by decide +kernel
theorem dX0_allowsRule_53 : decode cX0_allowsRule 53 = .ok (.iconst 1, 1) := by decide +kernel
theorem dX0_allowsRule_54 : decode cX0_allowsRule 54 = .ok (.if_icmp .lt 13, 3) := by decide +kernel
theorem dX0_allowsRule_57 : decode cX0_allowsRule 57 = .ok (.iload_n 1, 1) := by decide +kernel
theorem dX0_allowsRule_58 : decode cX0_allowsRule 58 = .ok (.bipush 10, 2) := by decide +kernel
theorem dX0_allowsRule_60 : decode cX0_allowsRule 60 = .ok (.if_icmp .gt 7, 3) := by decide +kernel
theorem dX0_allowsRule_63 : decode cX0_allowsRule 63 = .ok (.iconst 1, 1) := by decide +kernel
theorem dX0_allowsRule_64 : decode cX0_allowsRule 64 = .ok (.goto 4, 3) := by decide +kernel
theorem dX0_allowsRule_67 : decode cX0_allowsRule 67 = .ok (.iconst 0, 1) := by decide +kernel
theorem dX0_allowsRule_68 : decode cX0_allowsRule 68 = .ok (.ireturn, 1) := by decide +kernel
theorem dX0_allowsRule_69 : decode cX0_allowsRule 69 = .ok (.iload_n 1, 1) := by decide +kernel
theorem dX0_allowsRule_70 : decode cX0_allowsRule 70 = .ok (.ifCond .lt 12, 3) := by decide +kernel
theorem dX0_allowsRule_73 : decode cX0_allowsRule 73 = .ok (.iload_n 1, 1) := by decide +kernel
theorem dX0_allowsRule_74 : decode cX0_allowsRule 74 = .ok (.iconst 4, 1) := by decide +kernel
theorem dX0_allowsRule_75 : decode cX0_allowsRule 75 = .ok (.if_icmp .ge 7, 3) := by decide +kernel
theorem dX0_allowsRule_78 : decode cX0_allowsRule 78 = .ok (.iconst 1, 1) := by decide +kernel
theorem dX0_allowsRule_79 : decode cX0_allowsRule 79 = .ok (.goto 4, 3) := by decide +kernel
theorem dX0_allowsRule_82 : decode cX0_allowsRule 82 = .ok (.iconst 0, 1) := by decide +kernel
theorem dX0_allowsRule_83 : decode cX0_allowsRule 83 = .ok (.ireturn, 1) := by decide +kernel
theorem dX0_allowsRule_84 : decode cX0_allowsRule 84 = .ok (.iload_n 1, 1) := by decide +kernel
theorem dX0_allowsRule_85 : decode cX0_allowsRule 85 = .ok (.ifCond .eq 8, 3) := by decide +kernel
theorem dX0_allowsRule_88 : decode cX0_allowsRule 88 = .ok (.iload_n 1, 1) := by decide +kernel
theorem dX0_allowsRule_89 : decode cX0_allowsRule 89 = .ok (.iconst 1, 1) := by decide +kernel
theorem dX0_allowsRule_90 : decode cX0_allowsRule 90 = .ok (.if_icmp .ne 7, 3) := by decide +kernel
theorem dX0_allowsRule_93 : decode cX0_allowsRule 93 = .ok (.iconst 1, 1) := by decide +kernel
theorem dX0_allowsRule_94 : decode cX0_allowsRule 94 = .ok (.goto 4, 3) := by decide +kernel
theorem dX0_allowsRule_97 : decode cX0_allowsRule 97 = .ok (.iconst 0, 1) := by decide +kernel
theorem dX0_allowsRule_98 : decode cX0_allowsRule 98 = .ok (.ireturn, 1) := by decide +kernel
theorem dX0_allowsRule_99 : decode cX0_allowsRule 99 = .ok (.iconst 0, 1) := by decide +kernel
theorem dX0_allowsRule_100 : decode cX0_allowsRule 100 = .ok (.ireturn, 1) := by decide +kernel
theorem dX0_ruling_0 : decode cX0_ruling 0 = .ok (.iload_n 1, 1) := by decide +kernel
theorem dX0_ruling_1 : decode cX0_ruling 1 = .ok (.tableswitch 51 0 3 #[31, 36, 41, 46], 31) := by decide +kernel
theorem dX0_ruling_32 : decode cX0_ruling 32 = .ok (.aload_n 0, 1) := by decide +kernel
theorem dX0_ruling_33 : decode cX0_ruling 33 = .ok (.getfield 40, 3) := by decide +kernel
theorem dX0_ruling_36 : decode cX0_ruling 36 = .ok (.ireturn, 1) := by decide +kernel
theorem dX0_ruling_37 : decode cX0_ruling 37 = .ok (.aload_n 0, 1) := by decide +kernel
theorem dX0_ruling_38 : decode cX0_ruling 38 = .ok (.getfield 43, 3) := by decide +kernel
theorem dX0_ruling_41 : decode cX0_ruling 41 = .ok (.ireturn, 1) := by decide +kernel
theorem dX0_ruling_42 : decode cX0_ruling 42 = .ok (.aload_n 0, 1) := by decide +kernel
theorem dX0_ruling_43 : decode cX0_ruling 43 = .ok (.getfield 46, 3) := by decide +kernel
theorem dX0_ruling_46 : decode cX0_ruling 46 = .ok (.ireturn, 1) := by decide +kernel
theorem dX0_ruling_47 : decode cX0_ruling 47 = .ok (.aload_n 0, 1) := by decide +kernel
theorem dX0_ruling_48 : decode cX0_ruling 48 = .ok (.getfield 37, 3) := by decide +kernel
theorem dX0_ruling_51 : decode cX0_ruling 51 = .ok (.ireturn, 1) := by decide +kernel
theorem dX0_ruling_52 : decode cX0_ruling 52 = .ok (.aload_n 0, 1) := by decide +kernel
theorem dX0_ruling_53 : decode cX0_ruling 53 = .ok (.getfield 49, 3) := by decide +kernel
theorem dX0_ruling_56 : decode cX0_ruling 56 = .ok (.ireturn, 1) := by decide +kernel
theorem dX0_setRuling_0 : decode cX0_setRuling 0 = .ok (.iload_n 1, 1) := by decide +kernel
theorem dX0_setRuling_1 : decode cX0_setRuling 1 = .ok (.tableswitch 63 0 3 #[31, 39, 47, 55], 31) := by decide +kernel
theorem dX0_setRuling_32 : decode cX0_setRuling 32 = .ok (.aload_n 0, 1) := by decide +kernel
theorem dX0_setRuling_33 : decode cX0_setRuling 33 = .ok (.iload_n 2, 1) := by decide +kernel
theorem dX0_setRuling_34 : decode cX0_setRuling 34 = .ok (.putfield 40, 3) := by decide +kernel
theorem dX0_setRuling_37 : decode cX0_setRuling 37 = .ok (.goto 32, 3) := by decide +kernel
theorem dX0_setRuling_40 : decode cX0_setRuling 40 = .ok (.aload_n 0, 1) := by decide +kernel
theorem dX0_setRuling_41 : decode cX0_setRuling 41 = .ok (.iload_n 2, 1) := by decide +kernel
theorem dX0_setRuling_42 : decode cX0_setRuling 42 = .ok (.putfield 43, 3) := by decide +kernel
theorem dX0_setRuling_45 : decode cX0_setRuling 45 = .ok (.goto 24, 3) := by decide +kernel
theorem dX0_setRuling_48 : decode cX0_setRuling 48 = .ok (.aload_n 0, 1) := by decide +kernel
theorem dX0_setRuling_49 : decode cX0_setRuling 49 = .ok (.iload_n 2, 1) := by decide +kernel
theorem dX0_setRuling_50 : decode cX0_setRuling 50 = .ok (.putfield 46, 3) := by decide +kernel
theorem dX0_setRuling_53 : decode cX0_setRuling 53 = .ok (.goto 16, 3) := by decide +kernel
theorem dX0_setRuling_56 : decode cX0_setRuling 56 = .ok (.aload_n 0, 1) := by decide +kernel
theorem dX0_setRuling_57 : decode cX0_setRuling 57 = .ok (.iload_n 2, 1) := by decide +kernel
theorem dX0_setRuling_58 : decode cX0_setRuling 58 = .ok (.putfield 37, 3) := by decide +kernel
theorem dX0_setRuling_61 : decode cX0_setRuling 61 = .ok (.goto 8, 3) := by decide +kernel
theorem dX0_setRuling_64 : decode cX0_setRuling 64 = .ok (.aload_n 0, 1) := by decide +kernel
theorem dX0_setRuling_65 : decode cX0_setRuling 65 = .ok (.iload_n 2, 1) := by decide +kernel
theorem dX0_setRuling_66 : decode cX0_setRuling 66 = .ok (.putfield 49, 3) := by decide +kernel
theorem dX0_setRuling_69 : decode cX0_setRuling 69 = .ok (.return_, 1) := by decide +kernel
theorem dX0_holders_0 : decode cX0_holders 0 = .ok (.iconst 0, 1) := by decide +kernel
theorem dX0_holders_1 : decode cX0_holders 1 = .ok (.istore_n 2, 1) := by decide +kernel
theorem dX0_holders_2 : decode cX0_holders 2 = .ok (.iconst 0, 1) := by decide +kernel
theorem dX0_holders_3 : decode cX0_holders 3 = .ok (.istore_n 3, 1) := by decide +kernel
theorem dX0_holders_4 : decode cX0_holders 4 = .ok (.iload_n 3, 1) := by decide +kernel
theorem dX0_holders_5 : decode cX0_holders 5 = .ok (.aload_n 0, 1) := by decide +kernel
theorem dX0_holders_6 : decode cX0_holders 6 = .ok (.getfield 33, 3) := by decide +kernel
theorem dX0_holders_9 : decode cX0_holders 9 = .ok (.if_icmp .ge 25, 3) := by decide +kernel
theorem dX0_holders_12 : decode cX0_holders 12 = .ok (.aload_n 0, 1) := by decide +kernel
theorem dX0_holders_13 : decode cX0_holders 13 = .ok (.getfield 27, 3) := by decide +kernel
theorem dX0_holders_16 : decode cX0_holders 16 = .ok (.iload_n 3, 1) := by decide +kernel
theorem dX0_holders_17 : decode cX0_holders 17 = .ok (.iaload, 1) := by decide +kernel
theorem dX0_holders_18 : decode cX0_holders 18 = .ok (.iload_n 1, 1) := by decide +kernel
theorem dX0_holders_19 : decode cX0_holders 19 = .ok (.if_icmp .ne 9, 3) := by decide +kernel
theorem dX0_holders_22 : decode cX0_holders 22 = .ok (.iload_n 2, 1) := by decide +kernel
theorem dX0_holders_23 : decode cX0_holders 23 = .ok (.iconst 1, 1) := by decide +kernel
theorem dX0_holders_24 : decode cX0_holders 24 = .ok (.iload_n 3, 1) := by decide +kernel
theorem dX0_holders_25 : decode cX0_holders 25 = .ok (.ishl, 1) := by decide +kernel
theorem dX0_holders_26 : decode cX0_holders 26 = .ok (.ior, 1) := by decide +kernel
theorem dX0_holders_27 : decode cX0_holders 27 = .ok (.istore_n 2, 1) := by decide +kernel
theorem dX0_holders_28 : decode cX0_holders 28 = .ok (.iinc 3 1, 3) := by decide +kernel
theorem dX0_holders_31 : decode cX0_holders 31 = .ok (.goto (-27), 3) := by decide +kernel
theorem dX0_holders_34 : decode cX0_holders 34 = .ok (.iload_n 2, 1) := by decide +kernel
theorem dX0_holders_35 : decode cX0_holders 35 = .ok (.ireturn, 1) := by decide +kernel
theorem dX0_starving_0 : decode cX0_starving 0 = .ok (.iconst 0, 1) := by decide +kernel
theorem dX0_starving_1 : decode cX0_starving 1 = .ok (.istore_n 1, 1) := by decide +kernel
theorem dX0_starving_2 : decode cX0_starving 2 = .ok (.iconst 0, 1) := by decide +kernel
theorem dX0_starving_3 : decode cX0_starving 3 = .ok (.istore_n 2, 1) := by decide +kernel
theorem dX0_starving_4 : decode cX0_starving 4 = .ok (.iload_n 2, 1) := by decide +kernel
theorem dX0_starving_5 : decode cX0_starving 5 = .ok (.aload_n 0, 1) := by decide +kernel
theorem dX0_starving_6 : decode cX0_starving 6 = .ok (.getfield 33, 3) := by decide +kernel
theorem dX0_starving_9 : decode cX0_starving 9 = .ok (.if_icmp .ge 26, 3) := by decide +kernel
theorem dX0_starving_12 : decode cX0_starving 12 = .ok (.aload_n 0, 1) := by decide +kernel
theorem dX0_starving_13 : decode cX0_starving 13 = .ok (.getfield 15, 3) := by decide +kernel
theorem dX0_starving_16 : decode cX0_starving 16 = .ok (.iload_n 2, 1) := by decide +kernel
theorem dX0_starving_17 : decode cX0_starving 17 = .ok (.iaload, 1) := by decide +kernel
theorem dX0_starving_18 : decode cX0_starving 18 = .ok (.bipush 7, 2) := by decide +kernel
theorem dX0_starving_20 : decode cX0_starving 20 = .ok (.if_icmp .lt 9, 3) := by decide +kernel
theorem dX0_starving_23 : decode cX0_starving 23 = .ok (.iload_n 1, 1) := by decide +kernel
theorem dX0_starving_24 : decode cX0_starving 24 = .ok (.iconst 1, 1) := by decide +kernel
theorem dX0_starving_25 : decode cX0_starving 25 = .ok (.iload_n 2, 1) := by decide +kernel
theorem dX0_starving_26 : decode cX0_starving 26 = .ok (.ishl, 1) := by decide +kernel
theorem dX0_starving_27 : decode cX0_starving 27 = .ok (.ior, 1) := by decide +kernel
theorem dX0_starving_28 : decode cX0_starving 28 = .ok (.istore_n 1, 1) := by decide +kernel
theorem dX0_starving_29 : decode cX0_starving 29 = .ok (.iinc 2 1, 3) := by decide +kernel
theorem dX0_starving_32 : decode cX0_starving 32 = .ok (.goto (-28), 3) := by decide +kernel
theorem dX0_starving_35 : decode cX0_starving 35 = .ok (.iload_n 1, 1) := by decide +kernel
theorem dX0_starving_36 : decode cX0_starving 36 = .ok (.ireturn, 1) := by decide +kernel
theorem dX0_allOf_0 : decode cX0_allOf 0 = .ok (.iconst 0, 1) := by decide +kernel
theorem dX0_allOf_1 : decode cX0_allOf 1 = .ok (.istore_n 2, 1) := by decide +kernel
theorem dX0_allOf_2 : decode cX0_allOf 2 = .ok (.iconst 0, 1) := by decide +kernel
theorem dX0_allOf_3 : decode cX0_allOf 3 = .ok (.istore_n 3, 1) := by decide +kernel
theorem dX0_allOf_4 : decode cX0_allOf 4 = .ok (.iload_n 3, 1) := by decide +kernel
theorem dX0_allOf_5 : decode cX0_allOf 5 = .ok (.aload_n 0, 1) := by decide +kernel
theorem dX0_allOf_6 : decode cX0_allOf 6 = .ok (.getfield 33, 3) := by decide +kernel
theorem dX0_allOf_9 : decode cX0_allOf 9 = .ok (.if_icmp .ge 21, 3) := by decide +kernel
theorem dX0_allOf_12 : decode cX0_allOf 12 = .ok (.iload_n 3, 1) := by decide +kernel
theorem dX0_allOf_13 : decode cX0_allOf 13 = .ok (.aload_n 1, 1) := by decide +kernel
theorem dX0_allOf_14 : decode cX0_allOf 14 = .ok (.arraylength, 1) := by decide +kernel
theorem dX0_allOf_15 : decode cX0_allOf 15 = .ok (.if_icmp .ge 15, 3) := by decide +kernel
theorem dX0_allOf_18 : decode cX0_allOf 18 = .ok (.iload_n 2, 1) := by decide +kernel
theorem dX0_allOf_19 : decode cX0_allOf 19 = .ok (.aload_n 1, 1) := by decide +kernel
theorem dX0_allOf_20 : decode cX0_allOf 20 = .ok (.iload_n 3, 1) := by decide +kernel
theorem dX0_allOf_21 : decode cX0_allOf 21 = .ok (.iaload, 1) := by decide +kernel
theorem dX0_allOf_22 : decode cX0_allOf 22 = .ok (.iadd, 1) := by decide +kernel
theorem dX0_allOf_23 : decode cX0_allOf 23 = .ok (.istore_n 2, 1) := by decide +kernel
theorem dX0_allOf_24 : decode cX0_allOf 24 = .ok (.iinc 3 1, 3) := by decide +kernel
theorem dX0_allOf_27 : decode cX0_allOf 27 = .ok (.goto (-23), 3) := by decide +kernel
theorem dX0_allOf_30 : decode cX0_allOf 30 = .ok (.iload_n 2, 1) := by decide +kernel
theorem dX0_allOf_31 : decode cX0_allOf 31 = .ok (.ireturn, 1) := by decide +kernel
theorem dX0_heldSpots_0 : decode cX0_heldSpots 0 = .ok (.iconst 0, 1) := by decide +kernel
theorem dX0_heldSpots_1 : decode cX0_heldSpots 1 = .ok (.istore_n 1, 1) := by decide +kernel
theorem dX0_heldSpots_2 : decode cX0_heldSpots 2 = .ok (.iconst 0, 1) := by decide +kernel
theorem dX0_heldSpots_3 : decode cX0_heldSpots 3 = .ok (.istore_n 2, 1) := by decide +kernel
theorem dX0_heldSpots_4 : decode cX0_heldSpots 4 = .ok (.iload_n 2, 1) := by decide +kernel
theorem dX0_heldSpots_5 : decode cX0_heldSpots 5 = .ok (.bipush 10, 2) := by decide +kernel
theorem dX0_heldSpots_7 : decode cX0_heldSpots 7 = .ok (.if_icmp .ge 21, 3) := by decide +kernel
theorem dX0_heldSpots_10 : decode cX0_heldSpots 10 = .ok (.aload_n 0, 1) := by decide +kernel
theorem dX0_heldSpots_11 : decode cX0_heldSpots 11 = .ok (.getfield 30, 3) := by decide +kernel
theorem dX0_heldSpots_14 : decode cX0_heldSpots 14 = .ok (.iload_n 2, 1) := by decide +kernel
theorem dX0_heldSpots_15 : decode cX0_heldSpots 15 = .ok (.iaload, 1) := by decide +kernel
theorem dX0_heldSpots_16 : decode cX0_heldSpots 16 = .ok (.ifCond .lt 6, 3) := by decide +kernel
theorem dX0_heldSpots_19 : decode cX0_heldSpots 19 = .ok (.iinc 1 1, 3) := by decide +kernel
theorem dX0_heldSpots_22 : decode cX0_heldSpots 22 = .ok (.iinc 2 1, 3) := by decide +kernel
theorem dX0_heldSpots_25 : decode cX0_heldSpots 25 = .ok (.goto (-21), 3) := by decide +kernel
theorem dX0_heldSpots_28 : decode cX0_heldSpots 28 = .ok (.iload_n 1, 1) := by decide +kernel
theorem dX0_heldSpots_29 : decode cX0_heldSpots 29 = .ok (.ireturn, 1) := by decide +kernel
theorem dX0_loafWorth_0 : decode cX0_loafWorth 0 = .ok (.aload_n 0, 1) := by decide +kernel
theorem dX0_loafWorth_1 : decode cX0_loafWorth 1 = .ok (.getfield 49, 3) := by decide +kernel
theorem dX0_loafWorth_4 : decode cX0_loafWorth 4 = .ok (.iconst 1, 1) := by decide +kernel
theorem dX0_loafWorth_5 : decode cX0_loafWorth 5 = .ok (.if_icmp .ne 12, 3) := by decide +kernel
theorem dX0_loafWorth_8 : decode cX0_loafWorth 8 = .ok (.aload_n 0, 1) := by decide +kernel
theorem dX0_loafWorth_9 : decode cX0_loafWorth 9 = .ok (.getfield 15, 3) := by decide +kernel
theorem dX0_loafWorth_12 : decode cX0_loafWorth 12 = .ok (.iload_n 1, 1) := by decide +kernel
theorem dX0_loafWorth_13 : decode cX0_loafWorth 13 = .ok (.iaload, 1) := by decide +kernel
theorem dX0_loafWorth_14 : decode cX0_loafWorth 14 = .ok (.goto 11, 3) := by decide +kernel
theorem dX0_loafWorth_17 : decode cX0_loafWorth 17 = .ok (.iconst 2, 1) := by decide +kernel
theorem dX0_loafWorth_18 : decode cX0_loafWorth 18 = .ok (.aload_n 0, 1) := by decide +kernel
theorem dX0_loafWorth_19 : decode cX0_loafWorth 19 = .ok (.getfield 15, 3) := by decide +kernel
theorem dX0_loafWorth_22 : decode cX0_loafWorth 22 = .ok (.iload_n 1, 1) := by decide +kernel
theorem dX0_loafWorth_23 : decode cX0_loafWorth 23 = .ok (.iaload, 1) := by decide +kernel
theorem dX0_loafWorth_24 : decode cX0_loafWorth 24 = .ok (.imul, 1) := by decide +kernel
theorem dX0_loafWorth_25 : decode cX0_loafWorth 25 = .ok (.istore_n 2, 1) := by decide +kernel
theorem dX0_loafWorth_26 : decode cX0_loafWorth 26 = .ok (.aload_n 0, 1) := by decide +kernel
theorem dX0_loafWorth_27 : decode cX0_loafWorth 27 = .ok (.getfield 9, 3) := by decide +kernel
theorem dX0_loafWorth_30 : decode cX0_loafWorth 30 = .ok (.iload_n 1, 1) := by decide +kernel
theorem dX0_loafWorth_31 : decode cX0_loafWorth 31 = .ok (.iaload, 1) := by decide +kernel
theorem dX0_loafWorth_32 : decode cX0_loafWorth 32 = .ok (.tableswitch 36 4 6 #[28, 32, 34], 28) := by decide +kernel
theorem dX0_loafWorth_60 : decode cX0_loafWorth 60 = .ok (.iload_n 2, 1) := by decide +kernel
theorem dX0_loafWorth_61 : decode cX0_loafWorth 61 = .ok (.iconst 4, 1) := by decide +kernel
theorem dX0_loafWorth_62 : decode cX0_loafWorth 62 = .ok (.iadd, 1) := by decide +kernel
theorem dX0_loafWorth_63 : decode cX0_loafWorth 63 = .ok (.ireturn, 1) := by decide +kernel
theorem dX0_loafWorth_64 : decode cX0_loafWorth 64 = .ok (.iconst 3, 1) := by decide +kernel
theorem dX0_loafWorth_65 : decode cX0_loafWorth 65 = .ok (.ireturn, 1) := by decide +kernel
theorem dX0_loafWorth_66 : decode cX0_loafWorth 66 = .ok (.iconst 4, 1) := by decide +kernel
theorem dX0_loafWorth_67 : decode cX0_loafWorth 67 = .ok (.ireturn, 1) := by decide +kernel
theorem dX0_loafWorth_68 : decode cX0_loafWorth 68 = .ok (.iload_n 2, 1) := by decide +kernel
theorem dX0_loafWorth_69 : decode cX0_loafWorth 69 = .ok (.ireturn, 1) := by decide +kernel
theorem dX0_seatWorth_0 : decode cX0_seatWorth 0 = .ok (.aload_n 0, 1) := by decide +kernel
theorem dX0_seatWorth_1 : decode cX0_seatWorth 1 = .ok (.getfield 18, 3) := by decide +kernel
theorem dX0_seatWorth_4 : decode cX0_seatWorth 4 = .ok (.iload_n 1, 1) := by decide +kernel
theorem dX0_seatWorth_5 : decode cX0_seatWorth 5 = .ok (.iaload, 1) := by decide +kernel
theorem dX0_seatWorth_6 : decode cX0_seatWorth 6 = .ok (.aload_n 0, 1) := by decide +kernel
theorem dX0_seatWorth_7 : decode cX0_seatWorth 7 = .ok (.getfield 37, 3) := by decide +kernel
theorem dX0_seatWorth_10 : decode cX0_seatWorth 10 = .ok (.if_icmp .ne 7, 3) := by decide +kernel
theorem dX0_seatWorth_13 : decode cX0_seatWorth 13 = .ok (.iconst 1, 1) := by decide +kernel
theorem dX0_seatWorth_14 : decode cX0_seatWorth 14 = .ok (.goto 4, 3) := by decide +kernel
theorem dX0_seatWorth_17 : decode cX0_seatWorth 17 = .ok (.iconst 0, 1) := by decide +kernel
theorem dX0_seatWorth_18 : decode cX0_seatWorth 18 = .ok (.istore_n 2, 1) := by decide +kernel
theorem dX0_seatWorth_19 : decode cX0_seatWorth 19 = .ok (.aload_n 0, 1) := by decide +kernel
theorem dX0_seatWorth_20 : decode cX0_seatWorth 20 = .ok (.getfield 9, 3) := by decide +kernel
theorem dX0_seatWorth_23 : decode cX0_seatWorth 23 = .ok (.iload_n 1, 1) := by decide +kernel
theorem dX0_seatWorth_24 : decode cX0_seatWorth 24 = .ok (.iaload, 1) := by decide +kernel
theorem dX0_seatWorth_25 : decode cX0_seatWorth 25 = .ok (.tableswitch 67 1 6 #[39, 41, 52, 39, 63, 65], 39) := by decide +kernel
theorem dX0_seatWorth_64 : decode cX0_seatWorth 64 = .ok (.iconst 0, 1) := by decide +kernel
theorem dX0_seatWorth_65 : decode cX0_seatWorth 65 = .ok (.ireturn, 1) := by decide +kernel
theorem dX0_seatWorth_66 : decode cX0_seatWorth 66 = .ok (.iload_n 2, 1) := by decide +kernel
theorem dX0_seatWorth_67 : decode cX0_seatWorth 67 = .ok (.ifCond .eq 8, 3) := by decide +kernel
theorem dX0_seatWorth_70 : decode cX0_seatWorth 70 = .ok (.bipush 12, 2) := by decide +kernel
theorem dX0_seatWorth_72 : decode cX0_seatWorth 72 = .ok (.goto 4, 3) := by decide +kernel
theorem dX0_seatWorth_75 : decode cX0_seatWorth 75 = .ok (.iconst 1, 1) := by decide +kernel
theorem dX0_seatWorth_76 : decode cX0_seatWorth 76 = .ok (.ireturn, 1) := by decide +kernel
theorem dX0_seatWorth_77 : decode cX0_seatWorth 77 = .ok (.iload_n 2, 1) := by decide +kernel
theorem dX0_seatWorth_78 : decode cX0_seatWorth 78 = .ok (.ifCond .eq 8, 3) := by decide +kernel
theorem dX0_seatWorth_81 : decode cX0_seatWorth 81 = .ok (.bipush 12, 2) := by decide +kernel
theorem dX0_seatWorth_83 : decode cX0_seatWorth 83 = .ok (.goto 4, 3) := by decide +kernel
theorem dX0_seatWorth_86 : decode cX0_seatWorth 86 = .ok (.iconst 5, 1) := by decide +kernel
theorem dX0_seatWorth_87 : decode cX0_seatWorth 87 = .ok (.ireturn, 1) := by decide +kernel
theorem dX0_seatWorth_88 : decode cX0_seatWorth 88 = .ok (.iconst 3, 1) := by decide +kernel
theorem dX0_seatWorth_89 : decode cX0_seatWorth 89 = .ok (.ireturn, 1) := by decide +kernel
theorem dX0_seatWorth_90 : decode cX0_seatWorth 90 = .ok (.iconst 4, 1) := by decide +kernel
theorem dX0_seatWorth_91 : decode cX0_seatWorth 91 = .ok (.ireturn, 1) := by decide +kernel
theorem dX0_seatWorth_92 : decode cX0_seatWorth 92 = .ok (.iload_n 2, 1) := by decide +kernel
theorem dX0_seatWorth_93 : decode cX0_seatWorth 93 = .ok (.ifCond .eq 8, 3) := by decide +kernel
theorem dX0_seatWorth_96 : decode cX0_seatWorth 96 = .ok (.bipush 6, 2) := by decide +kernel
theorem dX0_seatWorth_98 : decode cX0_seatWorth 98 = .ok (.goto 4, 3) := by decide +kernel
theorem dX0_seatWorth_101 : decode cX0_seatWorth 101 = .ok (.iconst 2, 1) := by decide +kernel
theorem dX0_seatWorth_102 : decode cX0_seatWorth 102 = .ok (.ireturn, 1) := by decide +kernel
theorem dX0_tokenWorth_0 : decode cX0_tokenWorth 0 = .ok (.iload_n 2, 1) := by decide +kernel
theorem dX0_tokenWorth_1 : decode cX0_tokenWorth 1 = .ok (.iconst 1, 1) := by decide +kernel
theorem dX0_tokenWorth_2 : decode cX0_tokenWorth 2 = .ok (.if_icmp .ne 9, 3) := by decide +kernel
theorem dX0_tokenWorth_5 : decode cX0_tokenWorth 5 = .ok (.aload_n 0, 1) := by decide +kernel
theorem dX0_tokenWorth_6 : decode cX0_tokenWorth 6 = .ok (.iload_n 1, 1) := by decide +kernel
theorem dX0_tokenWorth_7 : decode cX0_tokenWorth 7 = .ok (.invokevirtual 74, 3) := by decide +kernel
theorem dX0_tokenWorth_10 : decode cX0_tokenWorth 10 = .ok (.ireturn, 1) := by decide +kernel
theorem dX0_tokenWorth_11 : decode cX0_tokenWorth 11 = .ok (.iload_n 2, 1) := by decide +kernel
theorem dX0_tokenWorth_12 : decode cX0_tokenWorth 12 = .ok (.iconst 2, 1) := by decide +kernel
theorem dX0_tokenWorth_13 : decode cX0_tokenWorth 13 = .ok (.if_icmp .ne 11, 3) := by decide +kernel
theorem dX0_tokenWorth_16 : decode cX0_tokenWorth 16 = .ok (.aload_n 0, 1) := by decide +kernel
theorem dX0_tokenWorth_17 : decode cX0_tokenWorth 17 = .ok (.iload_n 1, 1) := by decide +kernel
theorem dX0_tokenWorth_18 : decode cX0_tokenWorth 18 = .ok (.invokevirtual 78, 3) := by decide +kernel
theorem dX0_tokenWorth_21 : decode cX0_tokenWorth 21 = .ok (.goto 4, 3) := by decide +kernel
theorem dX0_tokenWorth_24 : decode cX0_tokenWorth 24 = .ok (.iconst 0, 1) := by decide +kernel
theorem dX0_tokenWorth_25 : decode cX0_tokenWorth 25 = .ok (.ireturn, 1) := by decide +kernel
theorem dX0_wantsOther_0 : decode cX0_wantsOther 0 = .ok (.aload_n 0, 1) := by decide +kernel
theorem dX0_wantsOther_1 : decode cX0_wantsOther 1 = .ok (.iload_n 1, 1) := by decide +kernel
theorem dX0_wantsOther_2 : decode cX0_wantsOther 2 = .ok (.invokevirtual 78, 3) := by decide +kernel
theorem dX0_wantsOther_5 : decode cX0_wantsOther 5 = .ok (.aload_n 0, 1) := by decide +kernel
theorem dX0_wantsOther_6 : decode cX0_wantsOther 6 = .ok (.iload_n 1, 1) := by decide +kernel
theorem dX0_wantsOther_7 : decode cX0_wantsOther 7 = .ok (.invokevirtual 74, 3) := by decide +kernel
theorem dX0_wantsOther_10 : decode cX0_wantsOther 10 = .ok (.isub, 1) := by decide +kernel
theorem dX0_wantsOther_11 : decode cX0_wantsOther 11 = .ok (.istore_n 2, 1) := by decide +kernel
theorem dX0_wantsOther_12 : decode cX0_wantsOther 12 = .ok (.aload_n 0, 1) := by decide +kernel
theorem dX0_wantsOther_13 : decode cX0_wantsOther 13 = .ok (.getfield 27, 3) := by decide +kernel
theorem dX0_wantsOther_16 : decode cX0_wantsOther 16 = .ok (.iload_n 1, 1) := by decide +kernel
theorem dX0_wantsOther_17 : decode cX0_wantsOther 17 = .ok (.iaload, 1) := by decide +kernel
theorem dX0_wantsOther_18 : decode cX0_wantsOther 18 = .ok (.iconst 1, 1) := by decide +kernel
theorem dX0_wantsOther_19 : decode cX0_wantsOther 19 = .ok (.if_icmp .ne 15, 3) := by decide +kernel
theorem dX0_wantsOther_22 : decode cX0_wantsOther 22 = .ok (.iload_n 2, 1) := by decide +kernel
theorem dX0_wantsOther_23 : decode cX0_wantsOther 23 = .ok (.ifCond .le 7, 3) := by decide +kernel
theorem dX0_wantsOther_26 : decode cX0_wantsOther 26 = .ok (.iconst 1, 1) := by decide +kernel
theorem dX0_wantsOther_27 : decode cX0_wantsOther 27 = .ok (.goto 26, 3) := by decide +kernel
theorem dX0_wantsOther_30 : decode cX0_wantsOther 30 = .ok (.iconst 0, 1) := by decide +kernel
theorem dX0_wantsOther_31 : decode cX0_wantsOther 31 = .ok (.goto 22, 3) := by decide +kernel
theorem dX0_wantsOther_34 : decode cX0_wantsOther 34 = .ok (.aload_n 0, 1) := by decide +kernel
theorem dX0_wantsOther_35 : decode cX0_wantsOther 35 = .ok (.getfield 27, 3) := by decide +kernel
theorem dX0_wantsOther_38 : decode cX0_wantsOther 38 = .ok (.iload_n 1, 1) := by decide +kernel
theorem dX0_wantsOther_39 : decode cX0_wantsOther 39 = .ok (.iaload, 1) := by decide +kernel
theorem dX0_wantsOther_40 : decode cX0_wantsOther 40 = .ok (.iconst 2, 1) := by decide +kernel
theorem dX0_wantsOther_41 : decode cX0_wantsOther 41 = .ok (.if_icmp .ne 11, 3) := by decide +kernel
theorem dX0_wantsOther_44 : decode cX0_wantsOther 44 = .ok (.iload_n 2, 1) := by decide +kernel
theorem dX0_wantsOther_45 : decode cX0_wantsOther 45 = .ok (.ifCond .ge 7, 3) := by decide +kernel
theorem dX0_wantsOther_48 : decode cX0_wantsOther 48 = .ok (.iconst 1, 1) := by decide +kernel
theorem dX0_wantsOther_49 : decode cX0_wantsOther 49 = .ok (.goto 4, 3) := by decide +kernel
theorem dX0_wantsOther_52 : decode cX0_wantsOther 52 = .ok (.iconst 0, 1) := by decide +kernel
theorem dX0_wantsOther_53 : decode cX0_wantsOther 53 = .ok (.ireturn, 1) := by decide +kernel
theorem dX0_exchange_0 : decode cX0_exchange 0 = .ok (.aload_n 0, 1) := by decide +kernel
theorem dX0_exchange_1 : decode cX0_exchange 1 = .ok (.getfield 27, 3) := by decide +kernel
theorem dX0_exchange_4 : decode cX0_exchange 4 = .ok (.iload_n 1, 1) := by decide +kernel
theorem dX0_exchange_5 : decode cX0_exchange 5 = .ok (.iaload, 1) := by decide +kernel
theorem dX0_exchange_6 : decode cX0_exchange 6 = .ok (.istore_n 3, 1) := by decide +kernel
theorem dX0_exchange_7 : decode cX0_exchange 7 = .ok (.aload_n 0, 1) := by decide +kernel
theorem dX0_exchange_8 : decode cX0_exchange 8 = .ok (.getfield 27, 3) := by decide +kernel
theorem dX0_exchange_11 : decode cX0_exchange 11 = .ok (.iload_n 1, 1) := by decide +kernel
theorem dX0_exchange_12 : decode cX0_exchange 12 = .ok (.aload_n 0, 1) := by decide +kernel
theorem dX0_exchange_13 : decode cX0_exchange 13 = .ok (.getfield 27, 3) := by decide +kernel
theorem dX0_exchange_16 : decode cX0_exchange 16 = .ok (.iload_n 2, 1) := by decide +kernel
theorem dX0_exchange_17 : decode cX0_exchange 17 = .ok (.iaload, 1) := by decide +kernel
theorem dX0_exchange_18 : decode cX0_exchange 18 = .ok (.iastore, 1) := by decide +kernel
theorem dX0_exchange_19 : decode cX0_exchange 19 = .ok (.aload_n 0, 1) := by decide +kernel
theorem dX0_exchange_20 : decode cX0_exchange 20 = .ok (.getfield 27, 3) := by decide +kernel
theorem dX0_exchange_23 : decode cX0_exchange 23 = .ok (.iload_n 2, 1) := by decide +kernel
theorem dX0_exchange_24 : decode cX0_exchange 24 = .ok (.iload_n 3, 1) := by decide +kernel
theorem dX0_exchange_25 : decode cX0_exchange 25 = .ok (.iastore, 1) := by decide +kernel
theorem dX0_exchange_26 : decode cX0_exchange 26 = .ok (.return_, 1) := by decide +kernel
theorem dX0_openGates_0 : decode cX0_openGates 0 = .ok (.iconst 0, 1) := by decide +kernel
theorem dX0_openGates_1 : decode cX0_openGates 1 = .ok (.istore_n 1, 1) := by decide +kernel
theorem dX0_openGates_2 : decode cX0_openGates 2 = .ok (.iconst 0, 1) := by decide +kernel
theorem dX0_openGates_3 : decode cX0_openGates 3 = .ok (.istore_n 2, 1) := by decide +kernel
theorem dX0_openGates_4 : decode cX0_openGates 4 = .ok (.iconst 0, 1) := by decide +kernel
theorem dX0_openGates_5 : decode cX0_openGates 5 = .ok (.istore_n 3, 1) := by decide +kernel
theorem dX0_openGates_6 : decode cX0_openGates 6 = .ok (.iload_n 3, 1) := by decide +kernel
theorem dX0_openGates_7 : decode cX0_openGates 7 = .ok (.aload_n 0, 1) := by decide +kernel
theorem dX0_openGates_8 : decode cX0_openGates 8 = .ok (.getfield 33, 3) := by decide +kernel
theorem dX0_openGates_11 : decode cX0_openGates 11 = .ok (.if_icmp .ge 76, 3) := by decide +kernel
theorem dX0_openGates_14 : decode cX0_openGates 14 = .ok (.aload_n 0, 1) := by decide +kernel
theorem dX0_openGates_15 : decode cX0_openGates 15 = .ok (.getfield 27, 3) := by decide +kernel
theorem dX0_openGates_18 : decode cX0_openGates 18 = .ok (.iload_n 3, 1) := by decide +kernel
theorem dX0_openGates_19 : decode cX0_openGates 19 = .ok (.iaload, 1) := by decide +kernel
theorem dX0_openGates_20 : decode cX0_openGates 20 = .ok (.iconst 1, 1) := by decide +kernel
theorem dX0_openGates_21 : decode cX0_openGates 21 = .ok (.if_icmp .ne 60, 3) := by decide +kernel
theorem dX0_openGates_24 : decode cX0_openGates 24 = .ok (.aload_n 0, 1) := by decide +kernel
theorem dX0_openGates_25 : decode cX0_openGates 25 = .ok (.iload_n 3, 1) := by decide +kernel
theorem dX0_openGates_26 : decode cX0_openGates 26 = .ok (.invokevirtual 81, 3) := by decide +kernel
theorem dX0_openGates_29 : decode cX0_openGates 29 = .ok (.ifCond .eq 52, 3) := by decide +kernel
theorem dX0_openGates_32 : decode cX0_openGates 32 = .ok (.iload_n 2, 1) := by decide +kernel
theorem dX0_openGates_33 : decode cX0_openGates 33 = .ok (.aload_n 0, 1) := by decide +kernel
theorem dX0_openGates_34 : decode cX0_openGates 34 = .ok (.getfield 33, 3) := by decide +kernel
theorem dX0_openGates_37 : decode cX0_openGates 37 = .ok (.if_icmp .ge 27, 3) := by decide +kernel
theorem dX0_openGates_40 : decode cX0_openGates 40 = .ok (.aload_n 0, 1) := by decide +kernel
theorem dX0_openGates_41 : decode cX0_openGates 41 = .ok (.getfield 27, 3) := by decide +kernel
theorem dX0_openGates_44 : decode cX0_openGates 44 = .ok (.iload_n 2, 1) := by decide +kernel
theorem dX0_openGates_45 : decode cX0_openGates 45 = .ok (.iaload, 1) := by decide +kernel
theorem dX0_openGates_46 : decode cX0_openGates 46 = .ok (.iconst 2, 1) := by decide +kernel
theorem dX0_openGates_47 : decode cX0_openGates 47 = .ok (.if_icmp .ne 11, 3) := by decide +kernel
theorem dX0_openGates_50 : decode cX0_openGates 50 = .ok (.aload_n 0, 1) := by decide +kernel
theorem dX0_openGates_51 : decode cX0_openGates 51 = .ok (.iload_n 2, 1) := by decide +kernel
theorem dX0_openGates_52 : decode cX0_openGates 52 = .ok (.invokevirtual 81, 3) := by decide +kernel
theorem dX0_openGates_55 : decode cX0_openGates 55 = .ok (.ifCond .ne 9, 3) := by decide +kernel
theorem dX0_openGates_58 : decode cX0_openGates 58 = .ok (.iinc 2 1, 3) := by decide +kernel
theorem dX0_openGates_61 : decode cX0_openGates 61 = .ok (.goto (-29), 3) := by decide +kernel
theorem dX0_openGates_64 : decode cX0_openGates 64 = .ok (.iload_n 2, 1) := by decide +kernel
theorem dX0_openGates_65 : decode cX0_openGates 65 = .ok (.aload_n 0, 1) := by decide +kernel
theorem dX0_openGates_66 : decode cX0_openGates 66 = .ok (.getfield 33, 3) := by decide +kernel
theorem dX0_openGates_69 : decode cX0_openGates 69 = .ok (.if_icmp .ge 12, 3) := by decide +kernel
theorem dX0_openGates_72 : decode cX0_openGates 72 = .ok (.aload_n 0, 1) := by decide +kernel
theorem dX0_openGates_73 : decode cX0_openGates 73 = .ok (.iload_n 3, 1) := by decide +kernel
theorem dX0_openGates_74 : decode cX0_openGates 74 = .ok (.iload_n 2, 1) := by decide +kernel
theorem dX0_openGates_75 : decode cX0_openGates 75 = .ok (.invokevirtual 84, 3) := by decide +kernel
theorem dX0_openGates_78 : decode cX0_openGates 78 = .ok (.iinc 1 1, 3) := by decide +kernel
theorem dX0_openGates_81 : decode cX0_openGates 81 = .ok (.iinc 3 1, 3) := by decide +kernel
theorem dX0_openGates_84 : decode cX0_openGates 84 = .ok (.goto (-78), 3) := by decide +kernel
theorem dX0_openGates_87 : decode cX0_openGates 87 = .ok (.iload_n 1, 1) := by decide +kernel
theorem dX0_openGates_88 : decode cX0_openGates 88 = .ok (.ireturn, 1) := by decide +kernel
theorem dX0_wouldTrade_0 : decode cX0_wouldTrade 0 = .ok (.aload_n 0, 1) := by decide +kernel
theorem dX0_wouldTrade_1 : decode cX0_wouldTrade 1 = .ok (.getfield 27, 3) := by decide +kernel
theorem dX0_wouldTrade_4 : decode cX0_wouldTrade 4 = .ok (.iload_n 1, 1) := by decide +kernel
theorem dX0_wouldTrade_5 : decode cX0_wouldTrade 5 = .ok (.iaload, 1) := by decide +kernel
theorem dX0_wouldTrade_6 : decode cX0_wouldTrade 6 = .ok (.ifCond .ne 12, 3) := by decide +kernel
theorem dX0_wouldTrade_9 : decode cX0_wouldTrade 9 = .ok (.aload_n 0, 1) := by decide +kernel
theorem dX0_wouldTrade_10 : decode cX0_wouldTrade 10 = .ok (.getfield 27, 3) := by decide +kernel
theorem dX0_wouldTrade_13 : decode cX0_wouldTrade 13 = .ok (.iload_n 2, 1) := by decide +kernel
theorem dX0_wouldTrade_14 : decode cX0_wouldTrade 14 = .ok (.iaload, 1) := by decide +kernel
theorem dX0_wouldTrade_15 : decode cX0_wouldTrade 15 = .ok (.ifCond .ne 5, 3) := by decide +kernel
theorem dX0_wouldTrade_18 : decode cX0_wouldTrade 18 = .ok (.iconst 0, 1) := by decide +kernel
theorem dX0_wouldTrade_19 : decode cX0_wouldTrade 19 = .ok (.ireturn, 1) := by decide +kernel
theorem dX0_wouldTrade_20 : decode cX0_wouldTrade 20 = .ok (.aload_n 0, 1) := by decide +kernel
theorem dX0_wouldTrade_21 : decode cX0_wouldTrade 21 = .ok (.getfield 21, 3) := by decide +kernel
theorem dX0_wouldTrade_24 : decode cX0_wouldTrade 24 = .ok (.iload_n 1, 1) := by decide +kernel
theorem dX0_wouldTrade_25 : decode cX0_wouldTrade 25 = .ok (.iaload, 1) := by decide +kernel
theorem dX0_wouldTrade_26 : decode cX0_wouldTrade 26 = .ok (.iload_n 3, 1) := by decide +kernel
theorem dX0_wouldTrade_27 : decode cX0_wouldTrade 27 = .ok (.if_icmp .lt 17, 3) := by decide +kernel
theorem dX0_wouldTrade_30 : decode cX0_wouldTrade 30 = .ok (.aload_n 0, 1) := by decide +kernel
theorem dX0_wouldTrade_31 : decode cX0_wouldTrade 31 = .ok (.getfield 21, 3) := by decide +kernel
theorem dX0_wouldTrade_34 : decode cX0_wouldTrade 34 = .ok (.iload_n 2, 1) := by decide +kernel
theorem dX0_wouldTrade_35 : decode cX0_wouldTrade 35 = .ok (.iaload, 1) := by decide +kernel
theorem dX0_wouldTrade_36 : decode cX0_wouldTrade 36 = .ok (.iload_n 3, 1) := by decide +kernel
theorem dX0_wouldTrade_37 : decode cX0_wouldTrade 37 = .ok (.iadd, 1) := by decide +kernel
theorem dX0_wouldTrade_38 : decode cX0_wouldTrade 38 = .ok (.sipush 9999, 3) := by decide +kernel
theorem dX0_wouldTrade_41 : decode cX0_wouldTrade 41 = .ok (.if_icmp .le 5, 3) := by decide +kernel
theorem dX0_wouldTrade_44 : decode cX0_wouldTrade 44 = .ok (.iconst 0, 1) := by decide +kernel
theorem dX0_wouldTrade_45 : decode cX0_wouldTrade 45 = .ok (.ireturn, 1) := by decide +kernel
theorem dX0_wouldTrade_46 : decode cX0_wouldTrade 46 = .ok (.aload_n 0, 1) := by decide +kernel
theorem dX0_wouldTrade_47 : decode cX0_wouldTrade 47 = .ok (.iload_n 2, 1) := by decide +kernel
theorem dX0_wouldTrade_48 : decode cX0_wouldTrade 48 = .ok (.aload_n 0, 1) := by decide +kernel
theorem dX0_wouldTrade_49 : decode cX0_wouldTrade 49 = .ok (.getfield 27, 3) := by decide +kernel
theorem dX0_wouldTrade_52 : decode cX0_wouldTrade 52 = .ok (.iload_n 2, 1) := by decide +kernel
theorem dX0_wouldTrade_53 : decode cX0_wouldTrade 53 = .ok (.iaload, 1) := by decide +kernel
theorem dX0_wouldTrade_54 : decode cX0_wouldTrade 54 = .ok (.invokevirtual 88, 3) := by decide +kernel
theorem dX0_wouldTrade_57 : decode cX0_wouldTrade 57 = .ok (.iload_n 3, 1) := by decide +kernel
theorem dX0_wouldTrade_58 : decode cX0_wouldTrade 58 = .ok (.if_icmp .ge 22, 3) := by decide +kernel
theorem dX0_wouldTrade_61 : decode cX0_wouldTrade 61 = .ok (.iload_n 3, 1) := by decide +kernel
theorem dX0_wouldTrade_62 : decode cX0_wouldTrade 62 = .ok (.aload_n 0, 1) := by decide +kernel
theorem dX0_wouldTrade_63 : decode cX0_wouldTrade 63 = .ok (.iload_n 1, 1) := by decide +kernel
theorem dX0_wouldTrade_64 : decode cX0_wouldTrade 64 = .ok (.aload_n 0, 1) := by decide +kernel
theorem dX0_wouldTrade_65 : decode cX0_wouldTrade 65 = .ok (.getfield 27, 3) := by decide +kernel
theorem dX0_wouldTrade_68 : decode cX0_wouldTrade 68 = .ok (.iload_n 2, 1) := by decide +kernel
theorem dX0_wouldTrade_69 : decode cX0_wouldTrade 69 = .ok (.iaload, 1) := by decide +kernel
theorem dX0_wouldTrade_70 : decode cX0_wouldTrade 70 = .ok (.invokevirtual 88, 3) := by decide +kernel
theorem dX0_wouldTrade_73 : decode cX0_wouldTrade 73 = .ok (.if_icmp .gt 7, 3) := by decide +kernel
theorem dX0_wouldTrade_76 : decode cX0_wouldTrade 76 = .ok (.iconst 1, 1) := by decide +kernel
theorem dX0_wouldTrade_77 : decode cX0_wouldTrade 77 = .ok (.goto 4, 3) := by decide +kernel
theorem dX0_wouldTrade_80 : decode cX0_wouldTrade 80 = .ok (.iconst 0, 1) := by decide +kernel
theorem dX0_wouldTrade_81 : decode cX0_wouldTrade 81 = .ok (.ireturn, 1) := by decide +kernel
theorem dX0_trade_0 : decode cX0_trade 0 = .ok (.aload_n 0, 1) := by decide +kernel
theorem dX0_trade_1 : decode cX0_trade 1 = .ok (.iload_n 1, 1) := by decide +kernel
theorem dX0_trade_2 : decode cX0_trade 2 = .ok (.iload_n 2, 1) := by decide +kernel
theorem dX0_trade_3 : decode cX0_trade 3 = .ok (.invokevirtual 84, 3) := by decide +kernel
theorem dX0_trade_6 : decode cX0_trade 6 = .ok (.aload_n 0, 1) := by decide +kernel
theorem dX0_trade_7 : decode cX0_trade 7 = .ok (.getfield 21, 3) := by decide +kernel
theorem dX0_trade_10 : decode cX0_trade 10 = .ok (.iload_n 1, 1) := by decide +kernel
theorem dX0_trade_11 : decode cX0_trade 11 = .ok (.dup2, 1) := by decide +kernel
theorem dX0_trade_12 : decode cX0_trade 12 = .ok (.iaload, 1) := by decide +kernel
theorem dX0_trade_13 : decode cX0_trade 13 = .ok (.iload_n 3, 1) := by decide +kernel
theorem dX0_trade_14 : decode cX0_trade 14 = .ok (.isub, 1) := by decide +kernel
theorem dX0_trade_15 : decode cX0_trade 15 = .ok (.iastore, 1) := by decide +kernel
theorem dX0_trade_16 : decode cX0_trade 16 = .ok (.aload_n 0, 1) := by decide +kernel
theorem dX0_trade_17 : decode cX0_trade 17 = .ok (.getfield 21, 3) := by decide +kernel
theorem dX0_trade_20 : decode cX0_trade 20 = .ok (.iload_n 2, 1) := by decide +kernel
theorem dX0_trade_21 : decode cX0_trade 21 = .ok (.dup2, 1) := by decide +kernel
theorem dX0_trade_22 : decode cX0_trade 22 = .ok (.iaload, 1) := by decide +kernel
theorem dX0_trade_23 : decode cX0_trade 23 = .ok (.iload_n 3, 1) := by decide +kernel
theorem dX0_trade_24 : decode cX0_trade 24 = .ok (.iadd, 1) := by decide +kernel
theorem dX0_trade_25 : decode cX0_trade 25 = .ok (.iastore, 1) := by decide +kernel
theorem dX0_trade_26 : decode cX0_trade 26 = .ok (.return_, 1) := by decide +kernel
theorem dX0_allWorth_0 : decode cX0_allWorth 0 = .ok (.iconst 0, 1) := by decide +kernel
theorem dX0_allWorth_1 : decode cX0_allWorth 1 = .ok (.istore_n 1, 1) := by decide +kernel
theorem dX0_allWorth_2 : decode cX0_allWorth 2 = .ok (.iconst 0, 1) := by decide +kernel
theorem dX0_allWorth_3 : decode cX0_allWorth 3 = .ok (.istore_n 2, 1) := by decide +kernel
theorem dX0_allWorth_4 : decode cX0_allWorth 4 = .ok (.iload_n 2, 1) := by decide +kernel
theorem dX0_allWorth_5 : decode cX0_allWorth 5 = .ok (.aload_n 0, 1) := by decide +kernel
theorem dX0_allWorth_6 : decode cX0_allWorth 6 = .ok (.getfield 33, 3) := by decide +kernel
theorem dX0_allWorth_9 : decode cX0_allWorth 9 = .ok (.if_icmp .ge 23, 3) := by decide +kernel
theorem dX0_allWorth_12 : decode cX0_allWorth 12 = .ok (.iload_n 1, 1) := by decide +kernel
theorem dX0_allWorth_13 : decode cX0_allWorth 13 = .ok (.aload_n 0, 1) := by decide +kernel
theorem dX0_allWorth_14 : decode cX0_allWorth 14 = .ok (.iload_n 2, 1) := by decide +kernel
theorem dX0_allWorth_15 : decode cX0_allWorth 15 = .ok (.aload_n 0, 1) := by decide +kernel
theorem dX0_allWorth_16 : decode cX0_allWorth 16 = .ok (.getfield 27, 3) := by decide +kernel
theorem dX0_allWorth_19 : decode cX0_allWorth 19 = .ok (.iload_n 2, 1) := by decide +kernel
theorem dX0_allWorth_20 : decode cX0_allWorth 20 = .ok (.iaload, 1) := by decide +kernel
theorem dX0_allWorth_21 : decode cX0_allWorth 21 = .ok (.invokevirtual 88, 3) := by decide +kernel
theorem dX0_allWorth_24 : decode cX0_allWorth 24 = .ok (.iadd, 1) := by decide +kernel
theorem dX0_allWorth_25 : decode cX0_allWorth 25 = .ok (.istore_n 1, 1) := by decide +kernel
theorem dX0_allWorth_26 : decode cX0_allWorth 26 = .ok (.iinc 2 1, 3) := by decide +kernel
theorem dX0_allWorth_29 : decode cX0_allWorth 29 = .ok (.goto (-25), 3) := by decide +kernel
theorem dX0_allWorth_32 : decode cX0_allWorth 32 = .ok (.iload_n 1, 1) := by decide +kernel
theorem dX0_allWorth_33 : decode cX0_allWorth 33 = .ok (.ireturn, 1) := by decide +kernel
theorem dX0_bestWorth_0 : decode cX0_bestWorth 0 = .ok (.iconst 0, 1) := by decide +kernel
theorem dX0_bestWorth_1 : decode cX0_bestWorth 1 = .ok (.istore_n 1, 1) := by decide +kernel
theorem dX0_bestWorth_2 : decode cX0_bestWorth 2 = .ok (.iconst 0, 1) := by decide +kernel
theorem dX0_bestWorth_3 : decode cX0_bestWorth 3 = .ok (.istore_n 2, 1) := by decide +kernel
theorem dX0_bestWorth_4 : decode cX0_bestWorth 4 = .ok (.iconst 0, 1) := by decide +kernel
theorem dX0_bestWorth_5 : decode cX0_bestWorth 5 = .ok (.istore_n 3, 1) := by decide +kernel
theorem dX0_bestWorth_6 : decode cX0_bestWorth 6 = .ok (.iload_n 3, 1) := by decide +kernel
theorem dX0_bestWorth_7 : decode cX0_bestWorth 7 = .ok (.aload_n 0, 1) := by decide +kernel
theorem dX0_bestWorth_8 : decode cX0_bestWorth 8 = .ok (.getfield 33, 3) := by decide +kernel
theorem dX0_bestWorth_11 : decode cX0_bestWorth 11 = .ok (.if_icmp .ge 32, 3) := by decide +kernel
theorem dX0_bestWorth_14 : decode cX0_bestWorth 14 = .ok (.aload_n 0, 1) := by decide +kernel
theorem dX0_bestWorth_15 : decode cX0_bestWorth 15 = .ok (.getfield 27, 3) := by decide +kernel
theorem dX0_bestWorth_18 : decode cX0_bestWorth 18 = .ok (.iload_n 3, 1) := by decide +kernel
theorem dX0_bestWorth_19 : decode cX0_bestWorth 19 = .ok (.iaload, 1) := by decide +kernel
theorem dX0_bestWorth_20 : decode cX0_bestWorth 20 = .ok (.ifCond .eq 17, 3) := by decide +kernel
theorem dX0_bestWorth_23 : decode cX0_bestWorth 23 = .ok (.iload_n 1, 1) := by decide +kernel
theorem dX0_bestWorth_24 : decode cX0_bestWorth 24 = .ok (.aload_n 0, 1) := by decide +kernel
theorem dX0_bestWorth_25 : decode cX0_bestWorth 25 = .ok (.iload_n 3, 1) := by decide +kernel
theorem dX0_bestWorth_26 : decode cX0_bestWorth 26 = .ok (.invokevirtual 78, 3) := by decide +kernel
theorem dX0_bestWorth_29 : decode cX0_bestWorth 29 = .ok (.iadd, 1) := by decide +kernel
theorem dX0_bestWorth_30 : decode cX0_bestWorth 30 = .ok (.istore_n 1, 1) := by decide +kernel
theorem dX0_bestWorth_31 : decode cX0_bestWorth 31 = .ok (.iload_n 2, 1) := by decide +kernel
theorem dX0_bestWorth_32 : decode cX0_bestWorth 32 = .ok (.iconst 1, 1) := by decide +kernel
theorem dX0_bestWorth_33 : decode cX0_bestWorth 33 = .ok (.iload_n 3, 1) := by decide +kernel
theorem dX0_bestWorth_34 : decode cX0_bestWorth 34 = .ok (.ishl, 1) := by decide +kernel
theorem dX0_bestWorth_35 : decode cX0_bestWorth 35 = .ok (.ior, 1) := by decide +kernel
theorem dX0_bestWorth_36 : decode cX0_bestWorth 36 = .ok (.istore_n 2, 1) := by decide +kernel
theorem dX0_bestWorth_37 : decode cX0_bestWorth 37 = .ok (.iinc 3 1, 3) := by decide +kernel
theorem dX0_bestWorth_40 : decode cX0_bestWorth 40 = .ok (.goto (-34), 3) := by decide +kernel
theorem dX0_bestWorth_43 : decode cX0_bestWorth 43 = .ok (.aload_n 0, 1) := by decide +kernel
theorem dX0_bestWorth_44 : decode cX0_bestWorth 44 = .ok (.iconst 1, 1) := by decide +kernel
theorem dX0_bestWorth_45 : decode cX0_bestWorth 45 = .ok (.invokevirtual 92, 3) := by decide +kernel
theorem dX0_bestWorth_48 : decode cX0_bestWorth 48 = .ok (.invokestatic 95, 3) := by decide +kernel
theorem dX0_bestWorth_51 : decode cX0_bestWorth 51 = .ok (.istore_n 3, 1) := by decide +kernel
theorem dX0_bestWorth_52 : decode cX0_bestWorth 52 = .ok (.iconst 0, 1) := by decide +kernel
theorem dX0_bestWorth_53 : decode cX0_bestWorth 53 = .ok (.istore 4, 2) := by decide +kernel
theorem dX0_bestWorth_55 : decode cX0_bestWorth 55 = .ok (.iload 4, 2) := by decide +kernel
theorem dX0_bestWorth_57 : decode cX0_bestWorth 57 = .ok (.iload_n 3, 1) := by decide +kernel
theorem dX0_bestWorth_58 : decode cX0_bestWorth 58 = .ok (.if_icmp .ge 50, 3) := by decide +kernel
theorem dX0_bestWorth_61 : decode cX0_bestWorth 61 = .ok (.aload_n 0, 1) := by decide +kernel
theorem dX0_bestWorth_62 : decode cX0_bestWorth 62 = .ok (.iload_n 2, 1) := by decide +kernel
theorem dX0_bestWorth_63 : decode cX0_bestWorth 63 = .ok (.invokevirtual 100, 3) := by decide +kernel
theorem dX0_bestWorth_66 : decode cX0_bestWorth 66 = .ok (.istore 5, 2) := by decide +kernel
theorem dX0_bestWorth_68 : decode cX0_bestWorth 68 = .ok (.iload 5, 2) := by decide +kernel
theorem dX0_bestWorth_70 : decode cX0_bestWorth 70 = .ok (.aload_n 0, 1) := by decide +kernel
theorem dX0_bestWorth_71 : decode cX0_bestWorth 71 = .ok (.getfield 33, 3) := by decide +kernel
theorem dX0_bestWorth_74 : decode cX0_bestWorth 74 = .ok (.if_icmp .ge 28, 3) := by decide +kernel
theorem dX0_bestWorth_77 : decode cX0_bestWorth 77 = .ok (.iload_n 1, 1) := by decide +kernel
theorem dX0_bestWorth_78 : decode cX0_bestWorth 78 = .ok (.aload_n 0, 1) := by decide +kernel
theorem dX0_bestWorth_79 : decode cX0_bestWorth 79 = .ok (.iload 5, 2) := by decide +kernel
theorem dX0_bestWorth_81 : decode cX0_bestWorth 81 = .ok (.invokevirtual 74, 3) := by decide +kernel
theorem dX0_bestWorth_84 : decode cX0_bestWorth 84 = .ok (.aload_n 0, 1) := by decide +kernel
theorem dX0_bestWorth_85 : decode cX0_bestWorth 85 = .ok (.iload 5, 2) := by decide +kernel
theorem dX0_bestWorth_87 : decode cX0_bestWorth 87 = .ok (.invokevirtual 78, 3) := by decide +kernel
theorem dX0_bestWorth_90 : decode cX0_bestWorth 90 = .ok (.isub, 1) := by decide +kernel
theorem dX0_bestWorth_91 : decode cX0_bestWorth 91 = .ok (.iadd, 1) := by decide +kernel
theorem dX0_bestWorth_92 : decode cX0_bestWorth 92 = .ok (.istore_n 1, 1) := by decide +kernel
theorem dX0_bestWorth_93 : decode cX0_bestWorth 93 = .ok (.iload_n 2, 1) := by decide +kernel
theorem dX0_bestWorth_94 : decode cX0_bestWorth 94 = .ok (.iconst 1, 1) := by decide +kernel
theorem dX0_bestWorth_95 : decode cX0_bestWorth 95 = .ok (.iload 5, 2) := by decide +kernel
theorem dX0_bestWorth_97 : decode cX0_bestWorth 97 = .ok (.ishl, 1) := by decide +kernel
theorem dX0_bestWorth_98 : decode cX0_bestWorth 98 = .ok (.iconst (-1), 1) := by decide +kernel
theorem dX0_bestWorth_99 : decode cX0_bestWorth 99 = .ok (.ixor, 1) := by decide +kernel
theorem dX0_bestWorth_100 : decode cX0_bestWorth 100 = .ok (.iand, 1) := by decide +kernel
theorem dX0_bestWorth_101 : decode cX0_bestWorth 101 = .ok (.istore_n 2, 1) := by decide +kernel
theorem dX0_bestWorth_102 : decode cX0_bestWorth 102 = .ok (.iinc 4 1, 3) := by decide +kernel
theorem dX0_bestWorth_105 : decode cX0_bestWorth 105 = .ok (.goto (-50), 3) := by decide +kernel
theorem dX0_bestWorth_108 : decode cX0_bestWorth 108 = .ok (.iload_n 1, 1) := by decide +kernel
theorem dX0_bestWorth_109 : decode cX0_bestWorth 109 = .ok (.ireturn, 1) := by decide +kernel
theorem dX0_keenestOnLoaf_0 : decode cX0_keenestOnLoaf 0 = .ok (.aload_n 0, 1) := by decide +kernel
theorem dX0_keenestOnLoaf_1 : decode cX0_keenestOnLoaf 1 = .ok (.getfield 33, 3) := by decide +kernel
theorem dX0_keenestOnLoaf_4 : decode cX0_keenestOnLoaf 4 = .ok (.istore_n 2, 1) := by decide +kernel
theorem dX0_keenestOnLoaf_5 : decode cX0_keenestOnLoaf 5 = .ok (.iconst 0, 1) := by decide +kernel
theorem dX0_keenestOnLoaf_6 : decode cX0_keenestOnLoaf 6 = .ok (.istore_n 3, 1) := by decide +kernel
theorem dX0_keenestOnLoaf_7 : decode cX0_keenestOnLoaf 7 = .ok (.iconst 0, 1) := by decide +kernel
theorem dX0_keenestOnLoaf_8 : decode cX0_keenestOnLoaf 8 = .ok (.istore 4, 2) := by decide +kernel
theorem dX0_keenestOnLoaf_10 : decode cX0_keenestOnLoaf 10 = .ok (.iload 4, 2) := by decide +kernel
theorem dX0_keenestOnLoaf_12 : decode cX0_keenestOnLoaf 12 = .ok (.aload_n 0, 1) := by decide +kernel
theorem dX0_keenestOnLoaf_13 : decode cX0_keenestOnLoaf 13 = .ok (.getfield 33, 3) := by decide +kernel
theorem dX0_keenestOnLoaf_16 : decode cX0_keenestOnLoaf 16 = .ok (.if_icmp .ge 54, 3) := by decide +kernel
theorem dX0_keenestOnLoaf_19 : decode cX0_keenestOnLoaf 19 = .ok (.aload_n 0, 1) := by decide +kernel
theorem dX0_keenestOnLoaf_20 : decode cX0_keenestOnLoaf 20 = .ok (.iload 4, 2) := by decide +kernel
theorem dX0_keenestOnLoaf_22 : decode cX0_keenestOnLoaf 22 = .ok (.invokevirtual 74, 3) := by decide +kernel
theorem dX0_keenestOnLoaf_25 : decode cX0_keenestOnLoaf 25 = .ok (.aload_n 0, 1) := by decide +kernel
theorem dX0_keenestOnLoaf_26 : decode cX0_keenestOnLoaf 26 = .ok (.iload 4, 2) := by decide +kernel
theorem dX0_keenestOnLoaf_28 : decode cX0_keenestOnLoaf 28 = .ok (.invokevirtual 78, 3) := by decide +kernel
theorem dX0_keenestOnLoaf_31 : decode cX0_keenestOnLoaf 31 = .ok (.isub, 1) := by decide +kernel
theorem dX0_keenestOnLoaf_32 : decode cX0_keenestOnLoaf 32 = .ok (.istore 5, 2) := by decide +kernel
theorem dX0_keenestOnLoaf_34 : decode cX0_keenestOnLoaf 34 = .ok (.iload_n 1, 1) := by decide +kernel
theorem dX0_keenestOnLoaf_35 : decode cX0_keenestOnLoaf 35 = .ok (.iload 4, 2) := by decide +kernel
theorem dX0_keenestOnLoaf_37 : decode cX0_keenestOnLoaf 37 = .ok (.ishr, 1) := by decide +kernel
theorem dX0_keenestOnLoaf_38 : decode cX0_keenestOnLoaf 38 = .ok (.iconst 1, 1) := by decide +kernel
theorem dX0_keenestOnLoaf_39 : decode cX0_keenestOnLoaf 39 = .ok (.iand, 1) := by decide +kernel
theorem dX0_keenestOnLoaf_40 : decode cX0_keenestOnLoaf 40 = .ok (.iconst 1, 1) := by decide +kernel
theorem dX0_keenestOnLoaf_41 : decode cX0_keenestOnLoaf 41 = .ok (.if_icmp .ne 23, 3) := by decide +kernel
theorem dX0_keenestOnLoaf_44 : decode cX0_keenestOnLoaf 44 = .ok (.iload_n 2, 1) := by decide +kernel
theorem dX0_keenestOnLoaf_45 : decode cX0_keenestOnLoaf 45 = .ok (.aload_n 0, 1) := by decide +kernel
theorem dX0_keenestOnLoaf_46 : decode cX0_keenestOnLoaf 46 = .ok (.getfield 33, 3) := by decide +kernel
theorem dX0_keenestOnLoaf_49 : decode cX0_keenestOnLoaf 49 = .ok (.if_icmp .eq 9, 3) := by decide +kernel
theorem dX0_keenestOnLoaf_52 : decode cX0_keenestOnLoaf 52 = .ok (.iload 5, 2) := by decide +kernel
theorem dX0_keenestOnLoaf_54 : decode cX0_keenestOnLoaf 54 = .ok (.iload_n 3, 1) := by decide +kernel
theorem dX0_keenestOnLoaf_55 : decode cX0_keenestOnLoaf 55 = .ok (.if_icmp .le 9, 3) := by decide +kernel
theorem dX0_keenestOnLoaf_58 : decode cX0_keenestOnLoaf 58 = .ok (.iload 4, 2) := by decide +kernel
theorem dX0_keenestOnLoaf_60 : decode cX0_keenestOnLoaf 60 = .ok (.istore_n 2, 1) := by decide +kernel
theorem dX0_keenestOnLoaf_61 : decode cX0_keenestOnLoaf 61 = .ok (.iload 5, 2) := by decide +kernel
theorem dX0_keenestOnLoaf_63 : decode cX0_keenestOnLoaf 63 = .ok (.istore_n 3, 1) := by decide +kernel
theorem dX0_keenestOnLoaf_64 : decode cX0_keenestOnLoaf 64 = .ok (.iinc 4 1, 3) := by decide +kernel
theorem dX0_keenestOnLoaf_67 : decode cX0_keenestOnLoaf 67 = .ok (.goto (-57), 3) := by decide +kernel
theorem dX0_keenestOnLoaf_70 : decode cX0_keenestOnLoaf 70 = .ok (.iload_n 2, 1) := by decide +kernel
theorem dX0_keenestOnLoaf_71 : decode cX0_keenestOnLoaf 71 = .ok (.ireturn, 1) := by decide +kernel
theorem dX0_preferLoafAt_0 : decode cX0_preferLoafAt 0 = .ok (.iconst 0, 1) := by decide +kernel
theorem dX0_preferLoafAt_1 : decode cX0_preferLoafAt 1 = .ok (.istore_n 2, 1) := by decide +kernel
theorem dX0_preferLoafAt_2 : decode cX0_preferLoafAt 2 = .ok (.iconst 0, 1) := by decide +kernel
theorem dX0_preferLoafAt_3 : decode cX0_preferLoafAt 3 = .ok (.istore_n 3, 1) := by decide +kernel
theorem dX0_preferLoafAt_4 : decode cX0_preferLoafAt 4 = .ok (.iload_n 3, 1) := by decide +kernel
theorem dX0_preferLoafAt_5 : decode cX0_preferLoafAt 5 = .ok (.aload_n 0, 1) := by decide +kernel
theorem dX0_preferLoafAt_6 : decode cX0_preferLoafAt 6 = .ok (.getfield 33, 3) := by decide +kernel
theorem dX0_preferLoafAt_9 : decode cX0_preferLoafAt 9 = .ok (.if_icmp .ge 36, 3) := by decide +kernel
theorem dX0_preferLoafAt_12 : decode cX0_preferLoafAt 12 = .ok (.aload_n 0, 1) := by decide +kernel
theorem dX0_preferLoafAt_13 : decode cX0_preferLoafAt 13 = .ok (.getfield 27, 3) := by decide +kernel
theorem dX0_preferLoafAt_16 : decode cX0_preferLoafAt 16 = .ok (.iload_n 3, 1) := by decide +kernel
theorem dX0_preferLoafAt_17 : decode cX0_preferLoafAt 17 = .ok (.iaload, 1) := by decide +kernel
theorem dX0_preferLoafAt_18 : decode cX0_preferLoafAt 18 = .ok (.ifCond .eq 21, 3) := by decide +kernel
theorem dX0_preferLoafAt_21 : decode cX0_preferLoafAt 21 = .ok (.aload_n 0, 1) := by decide +kernel
theorem dX0_preferLoafAt_22 : decode cX0_preferLoafAt 22 = .ok (.iload_n 3, 1) := by decide +kernel
theorem dX0_preferLoafAt_23 : decode cX0_preferLoafAt 23 = .ok (.invokevirtual 74, 3) := by decide +kernel
theorem dX0_preferLoafAt_26 : decode cX0_preferLoafAt 26 = .ok (.iload_n 1, 1) := by decide +kernel
theorem dX0_preferLoafAt_27 : decode cX0_preferLoafAt 27 = .ok (.iadd, 1) := by decide +kernel
theorem dX0_preferLoafAt_28 : decode cX0_preferLoafAt 28 = .ok (.aload_n 0, 1) := by decide +kernel
theorem dX0_preferLoafAt_29 : decode cX0_preferLoafAt 29 = .ok (.iload_n 3, 1) := by decide +kernel
theorem dX0_preferLoafAt_30 : decode cX0_preferLoafAt 30 = .ok (.invokevirtual 78, 3) := by decide +kernel
theorem dX0_preferLoafAt_33 : decode cX0_preferLoafAt 33 = .ok (.if_icmp .le 6, 3) := by decide +kernel
theorem dX0_preferLoafAt_36 : decode cX0_preferLoafAt 36 = .ok (.iinc 2 1, 3) := by decide +kernel
theorem dX0_preferLoafAt_39 : decode cX0_preferLoafAt 39 = .ok (.iinc 3 1, 3) := by decide +kernel
theorem dX0_preferLoafAt_42 : decode cX0_preferLoafAt 42 = .ok (.goto (-38), 3) := by decide +kernel
theorem dX0_preferLoafAt_45 : decode cX0_preferLoafAt 45 = .ok (.iload_n 2, 1) := by decide +kernel
theorem dX0_preferLoafAt_46 : decode cX0_preferLoafAt 46 = .ok (.ireturn, 1) := by decide +kernel
theorem dX0_draw_0 : decode cX0_draw 0 = .ok (.aload_n 0, 1) := by decide +kernel
theorem dX0_draw_1 : decode cX0_draw 1 = .ok (.aload_n 0, 1) := by decide +kernel
theorem dX0_draw_2 : decode cX0_draw 2 = .ok (.getfield 58, 3) := by decide +kernel
theorem dX0_draw_5 : decode cX0_draw 5 = .ok (.ldc 103, 2) := by decide +kernel
theorem dX0_draw_7 : decode cX0_draw 7 = .ok (.imul, 1) := by decide +kernel
theorem dX0_draw_8 : decode cX0_draw 8 = .ok (.sipush 12345, 3) := by decide +kernel
theorem dX0_draw_11 : decode cX0_draw 11 = .ok (.iadd, 1) := by decide +kernel
theorem dX0_draw_12 : decode cX0_draw 12 = .ok (.putfield 58, 3) := by decide +kernel
theorem dX0_draw_15 : decode cX0_draw 15 = .ok (.aload_n 0, 1) := by decide +kernel
theorem dX0_draw_16 : decode cX0_draw 16 = .ok (.getfield 58, 3) := by decide +kernel
theorem dX0_draw_19 : decode cX0_draw 19 = .ok (.bipush 8, 2) := by decide +kernel
theorem dX0_draw_21 : decode cX0_draw 21 = .ok (.iushr, 1) := by decide +kernel
theorem dX0_draw_22 : decode cX0_draw 22 = .ok (.ireturn, 1) := by decide +kernel
theorem dX0_drawTokens_0 : decode cX0_drawTokens 0 = .ok (.aload_n 0, 1) := by decide +kernel
theorem dX0_drawTokens_1 : decode cX0_drawTokens 1 = .ok (.getfield 40, 3) := by decide +kernel
theorem dX0_drawTokens_4 : decode cX0_drawTokens 4 = .ok (.istore_n 1, 1) := by decide +kernel
theorem dX0_drawTokens_5 : decode cX0_drawTokens 5 = .ok (.aload_n 0, 1) := by decide +kernel
theorem dX0_drawTokens_6 : decode cX0_drawTokens 6 = .ok (.getfield 43, 3) := by decide +kernel
theorem dX0_drawTokens_9 : decode cX0_drawTokens 9 = .ok (.istore_n 2, 1) := by decide +kernel
theorem dX0_drawTokens_10 : decode cX0_drawTokens 10 = .ok (.iconst 0, 1) := by decide +kernel
theorem dX0_drawTokens_11 : decode cX0_drawTokens 11 = .ok (.istore_n 3, 1) := by decide +kernel
theorem dX0_drawTokens_12 : decode cX0_drawTokens 12 = .ok (.iload_n 3, 1) := by decide +kernel
theorem dX0_drawTokens_13 : decode cX0_drawTokens 13 = .ok (.aload_n 0, 1) := by decide +kernel
theorem dX0_drawTokens_14 : decode cX0_drawTokens 14 = .ok (.getfield 33, 3) := by decide +kernel
theorem dX0_drawTokens_17 : decode cX0_drawTokens 17 = .ok (.if_icmp .ge 63, 3) := by decide +kernel
theorem dX0_drawTokens_20 : decode cX0_drawTokens 20 = .ok (.iload_n 1, 1) := by decide +kernel
theorem dX0_drawTokens_21 : decode cX0_drawTokens 21 = .ok (.iload_n 2, 1) := by decide +kernel
theorem dX0_drawTokens_22 : decode cX0_drawTokens 22 = .ok (.iadd, 1) := by decide +kernel
theorem dX0_drawTokens_23 : decode cX0_drawTokens 23 = .ok (.istore 4, 2) := by decide +kernel
theorem dX0_drawTokens_25 : decode cX0_drawTokens 25 = .ok (.iload 4, 2) := by decide +kernel
theorem dX0_drawTokens_27 : decode cX0_drawTokens 27 = .ok (.ifCond .gt 13, 3) := by decide +kernel
theorem dX0_drawTokens_30 : decode cX0_drawTokens 30 = .ok (.aload_n 0, 1) := by decide +kernel
theorem dX0_drawTokens_31 : decode cX0_drawTokens 31 = .ok (.getfield 27, 3) := by decide +kernel
theorem dX0_drawTokens_34 : decode cX0_drawTokens 34 = .ok (.iload_n 3, 1) := by decide +kernel
theorem dX0_drawTokens_35 : decode cX0_drawTokens 35 = .ok (.iconst 0, 1) := by decide +kernel
theorem dX0_drawTokens_36 : decode cX0_drawTokens 36 = .ok (.iastore, 1) := by decide +kernel
theorem dX0_drawTokens_37 : decode cX0_drawTokens 37 = .ok (.goto 37, 3) := by decide +kernel
theorem dX0_drawTokens_40 : decode cX0_drawTokens 40 = .ok (.aload_n 0, 1) := by decide +kernel
theorem dX0_drawTokens_41 : decode cX0_drawTokens 41 = .ok (.invokevirtual 104, 3) := by decide +kernel
theorem dX0_drawTokens_44 : decode cX0_drawTokens 44 = .ok (.iload 4, 2) := by decide +kernel
theorem dX0_drawTokens_46 : decode cX0_drawTokens 46 = .ok (.irem, 1) := by decide +kernel
theorem dX0_drawTokens_47 : decode cX0_drawTokens 47 = .ok (.iload_n 1, 1) := by decide +kernel
theorem dX0_drawTokens_48 : decode cX0_drawTokens 48 = .ok (.if_icmp .ge 16, 3) := by decide +kernel
theorem dX0_drawTokens_51 : decode cX0_drawTokens 51 = .ok (.aload_n 0, 1) := by decide +kernel
theorem dX0_drawTokens_52 : decode cX0_drawTokens 52 = .ok (.getfield 27, 3) := by decide +kernel
theorem dX0_drawTokens_55 : decode cX0_drawTokens 55 = .ok (.iload_n 3, 1) := by decide +kernel
theorem dX0_drawTokens_56 : decode cX0_drawTokens 56 = .ok (.iconst 1, 1) := by decide +kernel
theorem dX0_drawTokens_57 : decode cX0_drawTokens 57 = .ok (.iastore, 1) := by decide +kernel
theorem dX0_drawTokens_58 : decode cX0_drawTokens 58 = .ok (.iinc 1 (-1), 3) := by decide +kernel
theorem dX0_drawTokens_61 : decode cX0_drawTokens 61 = .ok (.goto 13, 3) := by decide +kernel
theorem dX0_drawTokens_64 : decode cX0_drawTokens 64 = .ok (.aload_n 0, 1) := by decide +kernel
theorem dX0_drawTokens_65 : decode cX0_drawTokens 65 = .ok (.getfield 27, 3) := by decide +kernel
theorem dX0_drawTokens_68 : decode cX0_drawTokens 68 = .ok (.iload_n 3, 1) := by decide +kernel
theorem dX0_drawTokens_69 : decode cX0_drawTokens 69 = .ok (.iconst 2, 1) := by decide +kernel
theorem dX0_drawTokens_70 : decode cX0_drawTokens 70 = .ok (.iastore, 1) := by decide +kernel
theorem dX0_drawTokens_71 : decode cX0_drawTokens 71 = .ok (.iinc 2 (-1), 3) := by decide +kernel
theorem dX0_drawTokens_74 : decode cX0_drawTokens 74 = .ok (.iinc 3 1, 3) := by decide +kernel
theorem dX0_drawTokens_77 : decode cX0_drawTokens 77 = .ok (.goto (-65), 3) := by decide +kernel
theorem dX0_drawTokens_80 : decode cX0_drawTokens 80 = .ok (.return_, 1) := by decide +kernel
theorem dX0_eatAndSee_0 : decode cX0_eatAndSee 0 = .ok (.aload_n 0, 1) := by decide +kernel
theorem dX0_eatAndSee_1 : decode cX0_eatAndSee 1 = .ok (.getfield 49, 3) := by decide +kernel
theorem dX0_eatAndSee_4 : decode cX0_eatAndSee 4 = .ok (.iconst 1, 1) := by decide +kernel
theorem dX0_eatAndSee_5 : decode cX0_eatAndSee 5 = .ok (.if_icmp .ne 7, 3) := by decide +kernel
theorem dX0_eatAndSee_8 : decode cX0_eatAndSee 8 = .ok (.iconst 2, 1) := by decide +kernel
theorem dX0_eatAndSee_9 : decode cX0_eatAndSee 9 = .ok (.goto 4, 3) := by decide +kernel
theorem dX0_eatAndSee_12 : decode cX0_eatAndSee 12 = .ok (.iconst 3, 1) := by decide +kernel
theorem dX0_eatAndSee_13 : decode cX0_eatAndSee 13 = .ok (.istore_n 1, 1) := by decide +kernel
theorem dX0_eatAndSee_14 : decode cX0_eatAndSee 14 = .ok (.iconst 0, 1) := by decide +kernel
theorem dX0_eatAndSee_15 : decode cX0_eatAndSee 15 = .ok (.istore_n 2, 1) := by decide +kernel
theorem dX0_eatAndSee_16 : decode cX0_eatAndSee 16 = .ok (.iload_n 2, 1) := by decide +kernel
theorem dX0_eatAndSee_17 : decode cX0_eatAndSee 17 = .ok (.aload_n 0, 1) := by decide +kernel
theorem dX0_eatAndSee_18 : decode cX0_eatAndSee 18 = .ok (.getfield 33, 3) := by decide +kernel
theorem dX0_eatAndSee_21 : decode cX0_eatAndSee 21 = .ok (.if_icmp .ge 83, 3) := by decide +kernel
theorem dX0_eatAndSee_24 : decode cX0_eatAndSee 24 = .ok (.aload_n 0, 1) := by decide +kernel
theorem dX0_eatAndSee_25 : decode cX0_eatAndSee 25 = .ok (.getfield 27, 3) := by decide +kernel
theorem dX0_eatAndSee_28 : decode cX0_eatAndSee 28 = .ok (.iload_n 2, 1) := by decide +kernel
theorem dX0_eatAndSee_29 : decode cX0_eatAndSee 29 = .ok (.iaload, 1) := by decide +kernel
theorem dX0_eatAndSee_30 : decode cX0_eatAndSee 30 = .ok (.iconst 1, 1) := by decide +kernel
theorem dX0_eatAndSee_31 : decode cX0_eatAndSee 31 = .ok (.if_icmp .ne 24, 3) := by decide +kernel
theorem dX0_eatAndSee_34 : decode cX0_eatAndSee 34 = .ok (.aload_n 0, 1) := by decide +kernel
theorem dX0_eatAndSee_35 : decode cX0_eatAndSee 35 = .ok (.getfield 15, 3) := by decide +kernel
theorem dX0_eatAndSee_38 : decode cX0_eatAndSee 38 = .ok (.iload_n 2, 1) := by decide +kernel
theorem dX0_eatAndSee_39 : decode cX0_eatAndSee 39 = .ok (.iconst 0, 1) := by decide +kernel
theorem dX0_eatAndSee_40 : decode cX0_eatAndSee 40 = .ok (.aload_n 0, 1) := by decide +kernel
theorem dX0_eatAndSee_41 : decode cX0_eatAndSee 41 = .ok (.getfield 15, 3) := by decide +kernel
theorem dX0_eatAndSee_44 : decode cX0_eatAndSee 44 = .ok (.iload_n 2, 1) := by decide +kernel
theorem dX0_eatAndSee_45 : decode cX0_eatAndSee 45 = .ok (.iaload, 1) := by decide +kernel
theorem dX0_eatAndSee_46 : decode cX0_eatAndSee 46 = .ok (.iload_n 1, 1) := by decide +kernel
theorem dX0_eatAndSee_47 : decode cX0_eatAndSee 47 = .ok (.isub, 1) := by decide +kernel
theorem dX0_eatAndSee_48 : decode cX0_eatAndSee 48 = .ok (.invokestatic 108, 3) := by decide +kernel
theorem dX0_eatAndSee_51 : decode cX0_eatAndSee 51 = .ok (.iastore, 1) := by decide +kernel
theorem dX0_eatAndSee_52 : decode cX0_eatAndSee 52 = .ok (.goto 22, 3) := by decide +kernel
theorem dX0_eatAndSee_55 : decode cX0_eatAndSee 55 = .ok (.aload_n 0, 1) := by decide +kernel
theorem dX0_eatAndSee_56 : decode cX0_eatAndSee 56 = .ok (.getfield 15, 3) := by decide +kernel
theorem dX0_eatAndSee_59 : decode cX0_eatAndSee 59 = .ok (.iload_n 2, 1) := by decide +kernel
theorem dX0_eatAndSee_60 : decode cX0_eatAndSee 60 = .ok (.bipush 9, 2) := by decide +kernel
theorem dX0_eatAndSee_62 : decode cX0_eatAndSee 62 = .ok (.aload_n 0, 1) := by decide +kernel
theorem dX0_eatAndSee_63 : decode cX0_eatAndSee 63 = .ok (.getfield 15, 3) := by decide +kernel
theorem dX0_eatAndSee_66 : decode cX0_eatAndSee 66 = .ok (.iload_n 2, 1) := by decide +kernel
theorem dX0_eatAndSee_67 : decode cX0_eatAndSee 67 = .ok (.iaload, 1) := by decide +kernel
theorem dX0_eatAndSee_68 : decode cX0_eatAndSee 68 = .ok (.iconst 1, 1) := by decide +kernel
theorem dX0_eatAndSee_69 : decode cX0_eatAndSee 69 = .ok (.iadd, 1) := by decide +kernel
theorem dX0_eatAndSee_70 : decode cX0_eatAndSee 70 = .ok (.invokestatic 113, 3) := by decide +kernel
theorem dX0_eatAndSee_73 : decode cX0_eatAndSee 73 = .ok (.iastore, 1) := by decide +kernel
theorem dX0_eatAndSee_74 : decode cX0_eatAndSee 74 = .ok (.aload_n 0, 1) := by decide +kernel
theorem dX0_eatAndSee_75 : decode cX0_eatAndSee 75 = .ok (.getfield 27, 3) := by decide +kernel
theorem dX0_eatAndSee_78 : decode cX0_eatAndSee 78 = .ok (.iload_n 2, 1) := by decide +kernel
theorem dX0_eatAndSee_79 : decode cX0_eatAndSee 79 = .ok (.iaload, 1) := by decide +kernel
theorem dX0_eatAndSee_80 : decode cX0_eatAndSee 80 = .ok (.iconst 2, 1) := by decide +kernel
theorem dX0_eatAndSee_81 : decode cX0_eatAndSee 81 = .ok (.if_icmp .ne 17, 3) := by decide +kernel
theorem dX0_eatAndSee_84 : decode cX0_eatAndSee 84 = .ok (.aload_n 0, 1) := by decide +kernel
theorem dX0_eatAndSee_85 : decode cX0_eatAndSee 85 = .ok (.getfield 24, 3) := by decide +kernel
theorem dX0_eatAndSee_88 : decode cX0_eatAndSee 88 = .ok (.iload_n 2, 1) := by decide +kernel
theorem dX0_eatAndSee_89 : decode cX0_eatAndSee 89 = .ok (.dup2, 1) := by decide +kernel
theorem dX0_eatAndSee_90 : decode cX0_eatAndSee 90 = .ok (.iaload, 1) := by decide +kernel
theorem dX0_eatAndSee_91 : decode cX0_eatAndSee 91 = .ok (.aload_n 0, 1) := by decide +kernel
theorem dX0_eatAndSee_92 : decode cX0_eatAndSee 92 = .ok (.iload_n 2, 1) := by decide +kernel
theorem dX0_eatAndSee_93 : decode cX0_eatAndSee 93 = .ok (.invokevirtual 78, 3) := by decide +kernel
theorem dX0_eatAndSee_96 : decode cX0_eatAndSee 96 = .ok (.iadd, 1) := by decide +kernel
theorem dX0_eatAndSee_97 : decode cX0_eatAndSee 97 = .ok (.iastore, 1) := by decide +kernel
theorem dX0_eatAndSee_98 : decode cX0_eatAndSee 98 = .ok (.iinc 2 1, 3) := by decide +kernel
theorem dX0_eatAndSee_101 : decode cX0_eatAndSee 101 = .ok (.goto (-85), 3) := by decide +kernel
theorem dX0_eatAndSee_104 : decode cX0_eatAndSee 104 = .ok (.return_, 1) := by decide +kernel
theorem dX0_maybeRiot_0 : decode cX0_maybeRiot 0 = .ok (.aload_n 0, 1) := by decide +kernel
theorem dX0_maybeRiot_1 : decode cX0_maybeRiot 1 = .ok (.invokevirtual 116, 3) := by decide +kernel
theorem dX0_maybeRiot_4 : decode cX0_maybeRiot 4 = .ok (.invokestatic 95, 3) := by decide +kernel
theorem dX0_maybeRiot_7 : decode cX0_maybeRiot 7 = .ok (.aload_n 0, 1) := by decide +kernel
theorem dX0_maybeRiot_8 : decode cX0_maybeRiot 8 = .ok (.getfield 46, 3) := by decide +kernel
theorem dX0_maybeRiot_11 : decode cX0_maybeRiot 11 = .ok (.if_icmp .ge 4, 3) := by decide +kernel
theorem dX0_maybeRiot_14 : decode cX0_maybeRiot 14 = .ok (.return_, 1) := by decide +kernel
theorem dX0_maybeRiot_15 : decode cX0_maybeRiot 15 = .ok (.aload_n 0, 1) := by decide +kernel
theorem dX0_maybeRiot_16 : decode cX0_maybeRiot 16 = .ok (.dup, 1) := by decide +kernel
theorem dX0_maybeRiot_17 : decode cX0_maybeRiot 17 = .ok (.getfield 55, 3) := by decide +kernel
theorem dX0_maybeRiot_20 : decode cX0_maybeRiot 20 = .ok (.iconst 1, 1) := by decide +kernel
theorem dX0_maybeRiot_21 : decode cX0_maybeRiot 21 = .ok (.iadd, 1) := by decide +kernel
theorem dX0_maybeRiot_22 : decode cX0_maybeRiot 22 = .ok (.putfield 55, 3) := by decide +kernel
theorem dX0_maybeRiot_25 : decode cX0_maybeRiot 25 = .ok (.iconst 0, 1) := by decide +kernel
theorem dX0_maybeRiot_26 : decode cX0_maybeRiot 26 = .ok (.istore_n 1, 1) := by decide +kernel
theorem dX0_maybeRiot_27 : decode cX0_maybeRiot 27 = .ok (.iload_n 1, 1) := by decide +kernel
theorem dX0_maybeRiot_28 : decode cX0_maybeRiot 28 = .ok (.aload_n 0, 1) := by decide +kernel
theorem dX0_maybeRiot_29 : decode cX0_maybeRiot 29 = .ok (.getfield 33, 3) := by decide +kernel
theorem dX0_maybeRiot_32 : decode cX0_maybeRiot 32 = .ok (.if_icmp .ge 25, 3) := by decide +kernel
theorem dX0_maybeRiot_35 : decode cX0_maybeRiot 35 = .ok (.aload_n 0, 1) := by decide +kernel
theorem dX0_maybeRiot_36 : decode cX0_maybeRiot 36 = .ok (.getfield 15, 3) := by decide +kernel
theorem dX0_maybeRiot_39 : decode cX0_maybeRiot 39 = .ok (.iload_n 1, 1) := by decide +kernel
theorem dX0_maybeRiot_40 : decode cX0_maybeRiot 40 = .ok (.iconst 5, 1) := by decide +kernel
theorem dX0_maybeRiot_41 : decode cX0_maybeRiot 41 = .ok (.aload_n 0, 1) := by decide +kernel
theorem dX0_maybeRiot_42 : decode cX0_maybeRiot 42 = .ok (.getfield 15, 3) := by decide +kernel
theorem dX0_maybeRiot_45 : decode cX0_maybeRiot 45 = .ok (.iload_n 1, 1) := by decide +kernel
theorem dX0_maybeRiot_46 : decode cX0_maybeRiot 46 = .ok (.iaload, 1) := by decide +kernel
theorem dX0_maybeRiot_47 : decode cX0_maybeRiot 47 = .ok (.invokestatic 113, 3) := by decide +kernel
theorem dX0_maybeRiot_50 : decode cX0_maybeRiot 50 = .ok (.iastore, 1) := by decide +kernel
theorem dX0_maybeRiot_51 : decode cX0_maybeRiot 51 = .ok (.iinc 1 1, 3) := by decide +kernel
theorem dX0_maybeRiot_54 : decode cX0_maybeRiot 54 = .ok (.goto (-27), 3) := by decide +kernel
theorem dX0_maybeRiot_57 : decode cX0_maybeRiot 57 = .ok (.return_, 1) := by decide +kernel
theorem dX0_passWeek_0 : decode cX0_passWeek 0 = .ok (.aload_n 0, 1) := by decide +kernel
theorem dX0_passWeek_1 : decode cX0_passWeek 1 = .ok (.invokevirtual 119, 3) := by decide +kernel
theorem dX0_passWeek_4 : decode cX0_passWeek 4 = .ok (.aload_n 0, 1) := by decide +kernel
theorem dX0_passWeek_5 : decode cX0_passWeek 5 = .ok (.invokevirtual 122, 3) := by decide +kernel
theorem dX0_passWeek_8 : decode cX0_passWeek 8 = .ok (.istore_n 1, 1) := by decide +kernel
theorem dX0_passWeek_9 : decode cX0_passWeek 9 = .ok (.aload_n 0, 1) := by decide +kernel
theorem dX0_passWeek_10 : decode cX0_passWeek 10 = .ok (.invokevirtual 125, 3) := by decide +kernel
theorem dX0_passWeek_13 : decode cX0_passWeek 13 = .ok (.aload_n 0, 1) := by decide +kernel
theorem dX0_passWeek_14 : decode cX0_passWeek 14 = .ok (.invokevirtual 128, 3) := by decide +kernel
theorem dX0_passWeek_17 : decode cX0_passWeek 17 = .ok (.aload_n 0, 1) := by decide +kernel
theorem dX0_passWeek_18 : decode cX0_passWeek 18 = .ok (.aload_n 0, 1) := by decide +kernel
theorem dX0_passWeek_19 : decode cX0_passWeek 19 = .ok (.invokevirtual 104, 3) := by decide +kernel
theorem dX0_passWeek_22 : decode cX0_passWeek 22 = .ok (.iconst 4, 1) := by decide +kernel
theorem dX0_passWeek_23 : decode cX0_passWeek 23 = .ok (.irem, 1) := by decide +kernel
theorem dX0_passWeek_24 : decode cX0_passWeek 24 = .ok (.putfield 37, 3) := by decide +kernel
theorem dX0_passWeek_27 : decode cX0_passWeek 27 = .ok (.iconst 0, 1) := by decide +kernel
theorem dX0_passWeek_28 : decode cX0_passWeek 28 = .ok (.istore_n 2, 1) := by decide +kernel
theorem dX0_passWeek_29 : decode cX0_passWeek 29 = .ok (.iload_n 2, 1) := by decide +kernel
theorem dX0_passWeek_30 : decode cX0_passWeek 30 = .ok (.aload_n 0, 1) := by decide +kernel
theorem dX0_passWeek_31 : decode cX0_passWeek 31 = .ok (.getfield 33, 3) := by decide +kernel
theorem dX0_passWeek_34 : decode cX0_passWeek 34 = .ok (.if_icmp .ge 16, 3) := by decide +kernel
theorem dX0_passWeek_37 : decode cX0_passWeek 37 = .ok (.aload_n 0, 1) := by decide +kernel
theorem dX0_passWeek_38 : decode cX0_passWeek 38 = .ok (.getfield 27, 3) := by decide +kernel
theorem dX0_passWeek_41 : decode cX0_passWeek 41 = .ok (.iload_n 2, 1) := by decide +kernel
theorem dX0_passWeek_42 : decode cX0_passWeek 42 = .ok (.iconst 0, 1) := by decide +kernel
theorem dX0_passWeek_43 : decode cX0_passWeek 43 = .ok (.iastore, 1) := by decide +kernel
theorem dX0_passWeek_44 : decode cX0_passWeek 44 = .ok (.iinc 2 1, 3) := by decide +kernel
theorem dX0_passWeek_47 : decode cX0_passWeek 47 = .ok (.goto (-18), 3) := by decide +kernel
theorem dX0_passWeek_50 : decode cX0_passWeek 50 = .ok (.aload_n 0, 1) := by decide +kernel
theorem dX0_passWeek_51 : decode cX0_passWeek 51 = .ok (.dup, 1) := by decide +kernel
theorem dX0_passWeek_52 : decode cX0_passWeek 52 = .ok (.getfield 52, 3) := by decide +kernel
theorem dX0_passWeek_55 : decode cX0_passWeek 55 = .ok (.iconst 1, 1) := by decide +kernel
theorem dX0_passWeek_56 : decode cX0_passWeek 56 = .ok (.iadd, 1) := by decide +kernel
theorem dX0_passWeek_57 : decode cX0_passWeek 57 = .ok (.putfield 52, 3) := by decide +kernel
theorem dX0_passWeek_60 : decode cX0_passWeek 60 = .ok (.iload_n 1, 1) := by decide +kernel
theorem dX0_passWeek_61 : decode cX0_passWeek 61 = .ok (.ireturn, 1) := by decide +kernel
theorem dX0_passWeeks_0 : decode cX0_passWeeks 0 = .ok (.iconst 0, 1) := by decide +kernel
theorem dX0_passWeeks_1 : decode cX0_passWeeks 1 = .ok (.istore_n 2, 1) := by decide +kernel
theorem dX0_passWeeks_2 : decode cX0_passWeeks 2 = .ok (.iconst 0, 1) := by decide +kernel
theorem dX0_passWeeks_3 : decode cX0_passWeeks 3 = .ok (.istore_n 3, 1) := by decide +kernel
theorem dX0_passWeeks_4 : decode cX0_passWeeks 4 = .ok (.iload_n 3, 1) := by decide +kernel
theorem dX0_passWeeks_5 : decode cX0_passWeeks 5 = .ok (.iload_n 1, 1) := by decide +kernel
theorem dX0_passWeeks_6 : decode cX0_passWeeks 6 = .ok (.if_icmp .ge 16, 3) := by decide +kernel
theorem dX0_passWeeks_9 : decode cX0_passWeeks 9 = .ok (.iload_n 2, 1) := by decide +kernel
theorem dX0_passWeeks_10 : decode cX0_passWeeks 10 = .ok (.aload_n 0, 1) := by decide +kernel
theorem dX0_passWeeks_11 : decode cX0_passWeeks 11 = .ok (.invokevirtual 131, 3) := by decide +kernel
theorem dX0_passWeeks_14 : decode cX0_passWeeks 14 = .ok (.iadd, 1) := by decide +kernel
theorem dX0_passWeeks_15 : decode cX0_passWeeks 15 = .ok (.istore_n 2, 1) := by decide +kernel
theorem dX0_passWeeks_16 : decode cX0_passWeeks 16 = .ok (.iinc 3 1, 3) := by decide +kernel
theorem dX0_passWeeks_19 : decode cX0_passWeeks 19 = .ok (.goto (-15), 3) := by decide +kernel
theorem dX0_passWeeks_22 : decode cX0_passWeeks 22 = .ok (.iload_n 2, 1) := by decide +kernel
theorem dX0_passWeeks_23 : decode cX0_passWeeks 23 = .ok (.ireturn, 1) := by decide +kernel
theorem dX0_calmWeeks_0 : decode cX0_calmWeeks 0 = .ok (.aload_n 0, 1) := by decide +kernel
theorem dX0_calmWeeks_1 : decode cX0_calmWeeks 1 = .ok (.getfield 55, 3) := by decide +kernel
theorem dX0_calmWeeks_4 : decode cX0_calmWeeks 4 = .ok (.istore_n 2, 1) := by decide +kernel
theorem dX0_calmWeeks_5 : decode cX0_calmWeeks 5 = .ok (.iconst 0, 1) := by decide +kernel
theorem dX0_calmWeeks_6 : decode cX0_calmWeeks 6 = .ok (.istore_n 3, 1) := by decide +kernel
theorem dX0_calmWeeks_7 : decode cX0_calmWeeks 7 = .ok (.iload_n 3, 1) := by decide +kernel
theorem dX0_calmWeeks_8 : decode cX0_calmWeeks 8 = .ok (.iload_n 1, 1) := by decide +kernel
theorem dX0_calmWeeks_9 : decode cX0_calmWeeks 9 = .ok (.if_icmp .ge 24, 3) := by decide +kernel
theorem dX0_calmWeeks_12 : decode cX0_calmWeeks 12 = .ok (.aload_n 0, 1) := by decide +kernel
theorem dX0_calmWeeks_13 : decode cX0_calmWeeks 13 = .ok (.invokevirtual 131, 3) := by decide +kernel
theorem dX0_calmWeeks_16 : decode cX0_calmWeeks 16 = .ok (.pop, 1) := by decide +kernel
theorem dX0_calmWeeks_17 : decode cX0_calmWeeks 17 = .ok (.aload_n 0, 1) := by decide +kernel
theorem dX0_calmWeeks_18 : decode cX0_calmWeeks 18 = .ok (.getfield 55, 3) := by decide +kernel
theorem dX0_calmWeeks_21 : decode cX0_calmWeeks 21 = .ok (.iload_n 2, 1) := by decide +kernel
theorem dX0_calmWeeks_22 : decode cX0_calmWeeks 22 = .ok (.if_icmp .eq 5, 3) := by decide +kernel
theorem dX0_calmWeeks_25 : decode cX0_calmWeeks 25 = .ok (.iload_n 3, 1) := by decide +kernel
theorem dX0_calmWeeks_26 : decode cX0_calmWeeks 26 = .ok (.ireturn, 1) := by decide +kernel
theorem dX0_calmWeeks_27 : decode cX0_calmWeeks 27 = .ok (.iinc 3 1, 3) := by decide +kernel
theorem dX0_calmWeeks_30 : decode cX0_calmWeeks 30 = .ok (.goto (-23), 3) := by decide +kernel
theorem dX0_calmWeeks_33 : decode cX0_calmWeeks 33 = .ok (.iload_n 1, 1) := by decide +kernel
theorem dX0_calmWeeks_34 : decode cX0_calmWeeks 34 = .ok (.ireturn, 1) := by decide +kernel
theorem dX0_drawers_0 : decode cX0_drawers 0 = .ok (.aload_n 0, 1) := by decide +kernel
theorem dX0_drawers_1 : decode cX0_drawers 1 = .ok (.getfield 33, 3) := by decide +kernel
theorem dX0_drawers_4 : decode cX0_drawers 4 = .ok (.aload_n 0, 1) := by decide +kernel
theorem dX0_drawers_5 : decode cX0_drawers 5 = .ok (.getfield 40, 3) := by decide +kernel
theorem dX0_drawers_8 : decode cX0_drawers 8 = .ok (.aload_n 0, 1) := by decide +kernel
theorem dX0_drawers_9 : decode cX0_drawers 9 = .ok (.getfield 43, 3) := by decide +kernel
theorem dX0_drawers_12 : decode cX0_drawers 12 = .ok (.iadd, 1) := by decide +kernel
theorem dX0_drawers_13 : decode cX0_drawers 13 = .ok (.invokestatic 113, 3) := by decide +kernel
theorem dX0_drawers_16 : decode cX0_drawers 16 = .ok (.ireturn, 1) := by decide +kernel
theorem dX0_canDeal_0 : decode cX0_canDeal 0 = .ok (.iload_n 1, 1) := by decide +kernel
theorem dX0_canDeal_1 : decode cX0_canDeal 1 = .ok (.invokestatic 95, 3) := by decide +kernel
theorem dX0_canDeal_4 : decode cX0_canDeal 4 = .ok (.istore_n 2, 1) := by decide +kernel
theorem dX0_canDeal_5 : decode cX0_canDeal 5 = .ok (.iload_n 2, 1) := by decide +kernel
theorem dX0_canDeal_6 : decode cX0_canDeal 6 = .ok (.aload_n 0, 1) := by decide +kernel
theorem dX0_canDeal_7 : decode cX0_canDeal 7 = .ok (.getfield 40, 3) := by decide +kernel
theorem dX0_canDeal_10 : decode cX0_canDeal 10 = .ok (.if_icmp .gt 20, 3) := by decide +kernel
theorem dX0_canDeal_13 : decode cX0_canDeal 13 = .ok (.aload_n 0, 1) := by decide +kernel
theorem dX0_canDeal_14 : decode cX0_canDeal 14 = .ok (.invokevirtual 134, 3) := by decide +kernel
theorem dX0_canDeal_17 : decode cX0_canDeal 17 = .ok (.iload_n 2, 1) := by decide +kernel
theorem dX0_canDeal_18 : decode cX0_canDeal 18 = .ok (.isub, 1) := by decide +kernel
theorem dX0_canDeal_19 : decode cX0_canDeal 19 = .ok (.aload_n 0, 1) := by decide +kernel
theorem dX0_canDeal_20 : decode cX0_canDeal 20 = .ok (.getfield 43, 3) := by decide +kernel
theorem dX0_canDeal_23 : decode cX0_canDeal 23 = .ok (.if_icmp .gt 7, 3) := by decide +kernel
theorem dX0_canDeal_26 : decode cX0_canDeal 26 = .ok (.iconst 1, 1) := by decide +kernel
theorem dX0_canDeal_27 : decode cX0_canDeal 27 = .ok (.goto 4, 3) := by decide +kernel
theorem dX0_canDeal_30 : decode cX0_canDeal 30 = .ok (.iconst 0, 1) := by decide +kernel
theorem dX0_canDeal_31 : decode cX0_canDeal 31 = .ok (.ireturn, 1) := by decide +kernel
theorem dX0_deal_0 : decode cX0_deal 0 = .ok (.aload_n 0, 1) := by decide +kernel
theorem dX0_deal_1 : decode cX0_deal 1 = .ok (.invokevirtual 134, 3) := by decide +kernel
theorem dX0_deal_4 : decode cX0_deal 4 = .ok (.istore_n 2, 1) := by decide +kernel
theorem dX0_deal_5 : decode cX0_deal 5 = .ok (.iconst 0, 1) := by decide +kernel
theorem dX0_deal_6 : decode cX0_deal 6 = .ok (.istore_n 3, 1) := by decide +kernel
theorem dX0_deal_7 : decode cX0_deal 7 = .ok (.iload_n 3, 1) := by decide +kernel
theorem dX0_deal_8 : decode cX0_deal 8 = .ok (.aload_n 0, 1) := by decide +kernel
theorem dX0_deal_9 : decode cX0_deal 9 = .ok (.getfield 33, 3) := by decide +kernel
theorem dX0_deal_12 : decode cX0_deal 12 = .ok (.if_icmp .ge 44, 3) := by decide +kernel
theorem dX0_deal_15 : decode cX0_deal 15 = .ok (.iload_n 3, 1) := by decide +kernel
theorem dX0_deal_16 : decode cX0_deal 16 = .ok (.iload_n 2, 1) := by decide +kernel
theorem dX0_deal_17 : decode cX0_deal 17 = .ok (.if_icmp .lt 13, 3) := by decide +kernel
theorem dX0_deal_20 : decode cX0_deal 20 = .ok (.aload_n 0, 1) := by decide +kernel
theorem dX0_deal_21 : decode cX0_deal 21 = .ok (.getfield 27, 3) := by decide +kernel
theorem dX0_deal_24 : decode cX0_deal 24 = .ok (.iload_n 3, 1) := by decide +kernel
theorem dX0_deal_25 : decode cX0_deal 25 = .ok (.iconst 0, 1) := by decide +kernel
theorem dX0_deal_26 : decode cX0_deal 26 = .ok (.iastore, 1) := by decide +kernel
theorem dX0_deal_27 : decode cX0_deal 27 = .ok (.goto 23, 3) := by decide +kernel
theorem dX0_deal_30 : decode cX0_deal 30 = .ok (.aload_n 0, 1) := by decide +kernel
theorem dX0_deal_31 : decode cX0_deal 31 = .ok (.getfield 27, 3) := by decide +kernel
theorem dX0_deal_34 : decode cX0_deal 34 = .ok (.iload_n 3, 1) := by decide +kernel
theorem dX0_deal_35 : decode cX0_deal 35 = .ok (.iload_n 1, 1) := by decide +kernel
theorem dX0_deal_36 : decode cX0_deal 36 = .ok (.iload_n 3, 1) := by decide +kernel
theorem dX0_deal_37 : decode cX0_deal 37 = .ok (.ishr, 1) := by decide +kernel
theorem dX0_deal_38 : decode cX0_deal 38 = .ok (.iconst 1, 1) := by decide +kernel
theorem dX0_deal_39 : decode cX0_deal 39 = .ok (.iand, 1) := by decide +kernel
theorem dX0_deal_40 : decode cX0_deal 40 = .ok (.iconst 1, 1) := by decide +kernel
theorem dX0_deal_41 : decode cX0_deal 41 = .ok (.if_icmp .ne 7, 3) := by decide +kernel
theorem dX0_deal_44 : decode cX0_deal 44 = .ok (.iconst 1, 1) := by decide +kernel
theorem dX0_deal_45 : decode cX0_deal 45 = .ok (.goto 4, 3) := by decide +kernel
theorem dX0_deal_48 : decode cX0_deal 48 = .ok (.iconst 2, 1) := by decide +kernel
theorem dX0_deal_49 : decode cX0_deal 49 = .ok (.iastore, 1) := by decide +kernel
theorem dX0_deal_50 : decode cX0_deal 50 = .ok (.iinc 3 1, 3) := by decide +kernel
theorem dX0_deal_53 : decode cX0_deal 53 = .ok (.goto (-46), 3) := by decide +kernel
theorem dX0_deal_56 : decode cX0_deal 56 = .ok (.return_, 1) := by decide +kernel
theorem dX0_fits_0 : decode cX0_fits 0 = .ok (.iconst 0, 1) := by decide +kernel
theorem dX0_fits_1 : decode cX0_fits 1 = .ok (.istore_n 2, 1) := by decide +kernel
theorem dX0_fits_2 : decode cX0_fits 2 = .ok (.iload_n 2, 1) := by decide +kernel
theorem dX0_fits_3 : decode cX0_fits 3 = .ok (.aload_n 0, 1) := by decide +kernel
theorem dX0_fits_4 : decode cX0_fits 4 = .ok (.getfield 33, 3) := by decide +kernel
theorem dX0_fits_7 : decode cX0_fits 7 = .ok (.if_icmp .ge 34, 3) := by decide +kernel
theorem dX0_fits_10 : decode cX0_fits 10 = .ok (.iload_n 2, 1) := by decide +kernel
theorem dX0_fits_11 : decode cX0_fits 11 = .ok (.aload_n 1, 1) := by decide +kernel
theorem dX0_fits_12 : decode cX0_fits 12 = .ok (.getfield 137, 3) := by decide +kernel
theorem dX0_fits_15 : decode cX0_fits 15 = .ok (.if_icmp .ge 26, 3) := by decide +kernel
theorem dX0_fits_18 : decode cX0_fits 18 = .ok (.aload_n 0, 1) := by decide +kernel
theorem dX0_fits_19 : decode cX0_fits 19 = .ok (.getfield 27, 3) := by decide +kernel
theorem dX0_fits_22 : decode cX0_fits 22 = .ok (.iload_n 2, 1) := by decide +kernel
theorem dX0_fits_23 : decode cX0_fits 23 = .ok (.iaload, 1) := by decide +kernel
theorem dX0_fits_24 : decode cX0_fits 24 = .ok (.aload_n 1, 1) := by decide +kernel
theorem dX0_fits_25 : decode cX0_fits 25 = .ok (.getfield 142, 3) := by decide +kernel
theorem dX0_fits_28 : decode cX0_fits 28 = .ok (.iload_n 2, 1) := by decide +kernel
theorem dX0_fits_29 : decode cX0_fits 29 = .ok (.iaload, 1) := by decide +kernel
theorem dX0_fits_30 : decode cX0_fits 30 = .ok (.if_icmp .eq 5, 3) := by decide +kernel
theorem dX0_fits_33 : decode cX0_fits 33 = .ok (.iconst 0, 1) := by decide +kernel
theorem dX0_fits_34 : decode cX0_fits 34 = .ok (.ireturn, 1) := by decide +kernel
theorem dX0_fits_35 : decode cX0_fits 35 = .ok (.iinc 2 1, 3) := by decide +kernel
theorem dX0_fits_38 : decode cX0_fits 38 = .ok (.goto (-36), 3) := by decide +kernel
theorem dX0_fits_41 : decode cX0_fits 41 = .ok (.iconst 1, 1) := by decide +kernel
theorem dX0_fits_42 : decode cX0_fits 42 = .ok (.ireturn, 1) := by decide +kernel
theorem dX0_strike_0 : decode cX0_strike 0 = .ok (.aload_n 0, 1) := by decide +kernel
theorem dX0_strike_1 : decode cX0_strike 1 = .ok (.getfield 33, 3) := by decide +kernel
theorem dX0_strike_4 : decode cX0_strike 4 = .ok (.ifCond .gt 4, 3) := by decide +kernel
theorem dX0_strike_7 : decode cX0_strike 7 = .ok (.return_, 1) := by decide +kernel
theorem dX0_strike_8 : decode cX0_strike 8 = .ok (.aload_n 0, 1) := by decide +kernel
theorem dX0_strike_9 : decode cX0_strike 9 = .ok (.invokevirtual 104, 3) := by decide +kernel
theorem dX0_strike_12 : decode cX0_strike 12 = .ok (.aload_n 0, 1) := by decide +kernel
theorem dX0_strike_13 : decode cX0_strike 13 = .ok (.getfield 33, 3) := by decide +kernel
theorem dX0_strike_16 : decode cX0_strike 16 = .ok (.irem, 1) := by decide +kernel
theorem dX0_strike_17 : decode cX0_strike 17 = .ok (.istore_n 1, 1) := by decide +kernel
theorem dX0_strike_18 : decode cX0_strike 18 = .ok (.aload_n 0, 1) := by decide +kernel
theorem dX0_strike_19 : decode cX0_strike 19 = .ok (.getfield 15, 3) := by decide +kernel
theorem dX0_strike_22 : decode cX0_strike 22 = .ok (.iload_n 1, 1) := by decide +kernel
theorem dX0_strike_23 : decode cX0_strike 23 = .ok (.aload_n 0, 1) := by decide +kernel
theorem dX0_strike_24 : decode cX0_strike 24 = .ok (.invokevirtual 104, 3) := by decide +kernel
theorem dX0_strike_27 : decode cX0_strike 27 = .ok (.bipush 10, 2) := by decide +kernel
theorem dX0_strike_29 : decode cX0_strike 29 = .ok (.irem, 1) := by decide +kernel
theorem dX0_strike_30 : decode cX0_strike 30 = .ok (.iastore, 1) := by decide +kernel
theorem dX0_strike_31 : decode cX0_strike 31 = .ok (.return_, 1) := by decide +kernel
theorem dX1_init_0 : decode cX1_init 0 = .ok (.aload_n 0, 1) := by decide +kernel
theorem dX1_init_1 : decode cX1_init 1 = .ok (.invokespecial 3, 3) := by decide +kernel
theorem dX1_init_4 : decode cX1_init 4 = .ok (.aload_n 0, 1) := by decide +kernel
theorem dX1_init_5 : decode cX1_init 5 = .ok (.bipush 40, 2) := by decide +kernel
theorem dX1_init_7 : decode cX1_init 7 = .ok (.newarray .int, 2) := by decide +kernel
theorem dX1_init_9 : decode cX1_init 9 = .ok (.putfield 9, 3) := by decide +kernel
theorem dX1_init_12 : decode cX1_init 12 = .ok (.aload_n 0, 1) := by decide +kernel
theorem dX1_init_13 : decode cX1_init 13 = .ok (.iconst 0, 1) := by decide +kernel
theorem dX1_init_14 : decode cX1_init 14 = .ok (.putfield 15, 3) := by decide +kernel
theorem dX1_init_17 : decode cX1_init 17 = .ok (.aload_n 0, 1) := by decide +kernel
theorem dX1_init_18 : decode cX1_init 18 = .ok (.iconst 0, 1) := by decide +kernel
theorem dX1_init_19 : decode cX1_init 19 = .ok (.putfield 19, 3) := by decide +kernel
theorem dX1_init_22 : decode cX1_init 22 = .ok (.return_, 1) := by decide +kernel
theorem dX1_renew_0 : decode cX1_renew 0 = .ok (.aload_n 0, 1) := by decide +kernel
theorem dX1_renew_1 : decode cX1_renew 1 = .ok (.iload_n 1, 1) := by decide +kernel
theorem dX1_renew_2 : decode cX1_renew 2 = .ok (.putfield 15, 3) := by decide +kernel
theorem dX1_renew_5 : decode cX1_renew 5 = .ok (.aload_n 0, 1) := by decide +kernel
theorem dX1_renew_6 : decode cX1_renew 6 = .ok (.iload_n 2, 1) := by decide +kernel
theorem dX1_renew_7 : decode cX1_renew 7 = .ok (.putfield 19, 3) := by decide +kernel
theorem dX1_renew_10 : decode cX1_renew 10 = .ok (.iconst 0, 1) := by decide +kernel
theorem dX1_renew_11 : decode cX1_renew 11 = .ok (.istore_n 3, 1) := by decide +kernel
theorem dX1_renew_12 : decode cX1_renew 12 = .ok (.iload_n 3, 1) := by decide +kernel
theorem dX1_renew_13 : decode cX1_renew 13 = .ok (.bipush 40, 2) := by decide +kernel
theorem dX1_renew_15 : decode cX1_renew 15 = .ok (.if_icmp .ge 16, 3) := by decide +kernel
theorem dX1_renew_18 : decode cX1_renew 18 = .ok (.aload_n 0, 1) := by decide +kernel
theorem dX1_renew_19 : decode cX1_renew 19 = .ok (.getfield 9, 3) := by decide +kernel
theorem dX1_renew_22 : decode cX1_renew 22 = .ok (.iload_n 3, 1) := by decide +kernel
theorem dX1_renew_23 : decode cX1_renew 23 = .ok (.iconst 0, 1) := by decide +kernel
theorem dX1_renew_24 : decode cX1_renew 24 = .ok (.iastore, 1) := by decide +kernel
theorem dX1_renew_25 : decode cX1_renew 25 = .ok (.iinc 3 1, 3) := by decide +kernel
theorem dX1_renew_28 : decode cX1_renew 28 = .ok (.goto (-16), 3) := by decide +kernel
theorem dX1_renew_31 : decode cX1_renew 31 = .ok (.return_, 1) := by decide +kernel
theorem dX1_put_0 : decode cX1_put 0 = .ok (.iload_n 1, 1) := by decide +kernel
theorem dX1_put_1 : decode cX1_put 1 = .ok (.ifCond .lt 11, 3) := by decide +kernel
theorem dX1_put_4 : decode cX1_put 4 = .ok (.iload_n 1, 1) := by decide +kernel
theorem dX1_put_5 : decode cX1_put 5 = .ok (.aload_n 0, 1) := by decide +kernel
theorem dX1_put_6 : decode cX1_put 6 = .ok (.getfield 19, 3) := by decide +kernel
theorem dX1_put_9 : decode cX1_put 9 = .ok (.if_icmp .lt 4, 3) := by decide +kernel
theorem dX1_put_12 : decode cX1_put 12 = .ok (.return_, 1) := by decide +kernel
theorem dX1_put_13 : decode cX1_put 13 = .ok (.aload_n 0, 1) := by decide +kernel
theorem dX1_put_14 : decode cX1_put 14 = .ok (.getfield 15, 3) := by decide +kernel
theorem dX1_put_17 : decode cX1_put 17 = .ok (.lookupswitch 49 #[(8, 27), (16, 38)], 27) := by decide +kernel
theorem dX1_put_44 : decode cX1_put 44 = .ok (.aload_n 0, 1) := by decide +kernel
theorem dX1_put_45 : decode cX1_put 45 = .ok (.getfield 9, 3) := by decide +kernel
theorem dX1_put_48 : decode cX1_put 48 = .ok (.iload_n 1, 1) := by decide +kernel
theorem dX1_put_49 : decode cX1_put 49 = .ok (.iload_n 2, 1) := by decide +kernel
theorem dX1_put_50 : decode cX1_put 50 = .ok (.i2b, 1) := by decide +kernel
theorem dX1_put_51 : decode cX1_put 51 = .ok (.iastore, 1) := by decide +kernel
theorem dX1_put_52 : decode cX1_put 52 = .ok (.goto 21, 3) := by decide +kernel
theorem dX1_put_55 : decode cX1_put 55 = .ok (.aload_n 0, 1) := by decide +kernel
theorem dX1_put_56 : decode cX1_put 56 = .ok (.getfield 9, 3) := by decide +kernel
theorem dX1_put_59 : decode cX1_put 59 = .ok (.iload_n 1, 1) := by decide +kernel
theorem dX1_put_60 : decode cX1_put 60 = .ok (.iload_n 2, 1) := by decide +kernel
theorem dX1_put_61 : decode cX1_put 61 = .ok (.i2s, 1) := by decide +kernel
theorem dX1_put_62 : decode cX1_put 62 = .ok (.iastore, 1) := by decide +kernel
theorem dX1_put_63 : decode cX1_put 63 = .ok (.goto 10, 3) := by decide +kernel
theorem dX1_put_66 : decode cX1_put 66 = .ok (.aload_n 0, 1) := by decide +kernel
theorem dX1_put_67 : decode cX1_put 67 = .ok (.getfield 9, 3) := by decide +kernel
theorem dX1_put_70 : decode cX1_put 70 = .ok (.iload_n 1, 1) := by decide +kernel
theorem dX1_put_71 : decode cX1_put 71 = .ok (.iload_n 2, 1) := by decide +kernel
theorem dX1_put_72 : decode cX1_put 72 = .ok (.iastore, 1) := by decide +kernel
theorem dX1_put_73 : decode cX1_put 73 = .ok (.return_, 1) := by decide +kernel
theorem dX1_spans_0 : decode cX1_spans 0 = .ok (.iload_n 1, 1) := by decide +kernel
theorem dX1_spans_1 : decode cX1_spans 1 = .ok (.ifCond .lt 29, 3) := by decide +kernel
theorem dX1_spans_4 : decode cX1_spans 4 = .ok (.iload_n 2, 1) := by decide +kernel
theorem dX1_spans_5 : decode cX1_spans 5 = .ok (.ifCond .lt 25, 3) := by decide +kernel
theorem dX1_spans_8 : decode cX1_spans 8 = .ok (.iload_n 2, 1) := by decide +kernel
theorem dX1_spans_9 : decode cX1_spans 9 = .ok (.aload_n 0, 1) := by decide +kernel
theorem dX1_spans_10 : decode cX1_spans 10 = .ok (.getfield 19, 3) := by decide +kernel
theorem dX1_spans_13 : decode cX1_spans 13 = .ok (.if_icmp .gt 17, 3) := by decide +kernel
theorem dX1_spans_16 : decode cX1_spans 16 = .ok (.iload_n 1, 1) := by decide +kernel
theorem dX1_spans_17 : decode cX1_spans 17 = .ok (.aload_n 0, 1) := by decide +kernel
theorem dX1_spans_18 : decode cX1_spans 18 = .ok (.getfield 19, 3) := by decide +kernel
theorem dX1_spans_21 : decode cX1_spans 21 = .ok (.iload_n 2, 1) := by decide +kernel
theorem dX1_spans_22 : decode cX1_spans 22 = .ok (.isub, 1) := by decide +kernel
theorem dX1_spans_23 : decode cX1_spans 23 = .ok (.if_icmp .gt 7, 3) := by decide +kernel
theorem dX1_spans_26 : decode cX1_spans 26 = .ok (.iconst 1, 1) := by decide +kernel
theorem dX1_spans_27 : decode cX1_spans 27 = .ok (.goto 4, 3) := by decide +kernel
theorem dX1_spans_30 : decode cX1_spans 30 = .ok (.iconst 0, 1) := by decide +kernel
theorem dX1_spans_31 : decode cX1_spans 31 = .ok (.ireturn, 1) := by decide +kernel
theorem dX2_init_0 : decode cX2_init 0 = .ok (.aload_n 0, 1) := by decide +kernel
theorem dX2_init_1 : decode cX2_init 1 = .ok (.invokespecial 3, 3) := by decide +kernel
theorem dX2_init_4 : decode cX2_init 4 = .ok (.aload_n 0, 1) := by decide +kernel
theorem dX2_init_5 : decode cX2_init 5 = .ok (.bipush 120, 2) := by decide +kernel
theorem dX2_init_7 : decode cX2_init 7 = .ok (.newarray .int, 2) := by decide +kernel
theorem dX2_init_9 : decode cX2_init 9 = .ok (.putfield 9, 3) := by decide +kernel
theorem dX2_init_12 : decode cX2_init 12 = .ok (.aload_n 0, 1) := by decide +kernel
theorem dX2_init_13 : decode cX2_init 13 = .ok (.iconst 0, 1) := by decide +kernel
theorem dX2_init_14 : decode cX2_init 14 = .ok (.putfield 15, 3) := by decide +kernel
theorem dX2_init_17 : decode cX2_init 17 = .ok (.aload_n 0, 1) := by decide +kernel
theorem dX2_init_18 : decode cX2_init 18 = .ok (.iconst 0, 1) := by decide +kernel
theorem dX2_init_19 : decode cX2_init 19 = .ok (.putfield 19, 3) := by decide +kernel
theorem dX2_init_22 : decode cX2_init 22 = .ok (.aload_n 0, 1) := by decide +kernel
theorem dX2_init_23 : decode cX2_init 23 = .ok (.iconst 0, 1) := by decide +kernel
theorem dX2_init_24 : decode cX2_init 24 = .ok (.putfield 22, 3) := by decide +kernel
theorem dX2_init_27 : decode cX2_init 27 = .ok (.aload_n 0, 1) := by decide +kernel
theorem dX2_init_28 : decode cX2_init 28 = .ok (.iconst 0, 1) := by decide +kernel
theorem dX2_init_29 : decode cX2_init 29 = .ok (.putfield 25, 3) := by decide +kernel
theorem dX2_init_32 : decode cX2_init 32 = .ok (.aload_n 0, 1) := by decide +kernel
theorem dX2_init_33 : decode cX2_init 33 = .ok (.iconst 0, 1) := by decide +kernel
theorem dX2_init_34 : decode cX2_init 34 = .ok (.putfield 28, 3) := by decide +kernel
theorem dX2_init_37 : decode cX2_init 37 = .ok (.return_, 1) := by decide +kernel
theorem dX2_append_0 : decode cX2_append 0 = .ok (.aload_n 0, 1) := by decide +kernel
theorem dX2_append_1 : decode cX2_append 1 = .ok (.getfield 15, 3) := by decide +kernel
theorem dX2_append_4 : decode cX2_append 4 = .ok (.bipush 120, 2) := by decide +kernel
theorem dX2_append_6 : decode cX2_append 6 = .ok (.if_icmp .ge 23, 3) := by decide +kernel
theorem dX2_append_9 : decode cX2_append 9 = .ok (.aload_n 0, 1) := by decide +kernel
theorem dX2_append_10 : decode cX2_append 10 = .ok (.getfield 9, 3) := by decide +kernel
theorem dX2_append_13 : decode cX2_append 13 = .ok (.aload_n 0, 1) := by decide +kernel
theorem dX2_append_14 : decode cX2_append 14 = .ok (.getfield 15, 3) := by decide +kernel
theorem dX2_append_17 : decode cX2_append 17 = .ok (.iload_n 1, 1) := by decide +kernel
theorem dX2_append_18 : decode cX2_append 18 = .ok (.iastore, 1) := by decide +kernel
theorem dX2_append_19 : decode cX2_append 19 = .ok (.aload_n 0, 1) := by decide +kernel
theorem dX2_append_20 : decode cX2_append 20 = .ok (.dup, 1) := by decide +kernel
theorem dX2_append_21 : decode cX2_append 21 = .ok (.getfield 15, 3) := by decide +kernel
theorem dX2_append_24 : decode cX2_append 24 = .ok (.iconst 1, 1) := by decide +kernel
theorem dX2_append_25 : decode cX2_append 25 = .ok (.iadd, 1) := by decide +kernel
theorem dX2_append_26 : decode cX2_append 26 = .ok (.putfield 15, 3) := by decide +kernel
theorem dX2_append_29 : decode cX2_append 29 = .ok (.return_, 1) := by decide +kernel
theorem dX2_rewind_0 : decode cX2_rewind 0 = .ok (.aload_n 0, 1) := by decide +kernel
theorem dX2_rewind_1 : decode cX2_rewind 1 = .ok (.iconst 0, 1) := by decide +kernel
theorem dX2_rewind_2 : decode cX2_rewind 2 = .ok (.putfield 19, 3) := by decide +kernel
theorem dX2_rewind_5 : decode cX2_rewind 5 = .ok (.aload_n 0, 1) := by decide +kernel
theorem dX2_rewind_6 : decode cX2_rewind 6 = .ok (.iconst 0, 1) := by decide +kernel
theorem dX2_rewind_7 : decode cX2_rewind 7 = .ok (.putfield 22, 3) := by decide +kernel
theorem dX2_rewind_10 : decode cX2_rewind 10 = .ok (.aload_n 0, 1) := by decide +kernel
theorem dX2_rewind_11 : decode cX2_rewind 11 = .ok (.iconst 0, 1) := by decide +kernel
theorem dX2_rewind_12 : decode cX2_rewind 12 = .ok (.putfield 25, 3) := by decide +kernel
theorem dX2_rewind_15 : decode cX2_rewind 15 = .ok (.return_, 1) := by decide +kernel
theorem dX2_advance_0 : decode cX2_advance 0 = .ok (.aload_n 0, 1) := by decide +kernel
theorem dX2_advance_1 : decode cX2_advance 1 = .ok (.aload_n 0, 1) := by decide +kernel
theorem dX2_advance_2 : decode cX2_advance 2 = .ok (.getfield 22, 3) := by decide +kernel
theorem dX2_advance_5 : decode cX2_advance 5 = .ok (.putfield 19, 3) := by decide +kernel
theorem dX2_advance_8 : decode cX2_advance 8 = .ok (.aload_n 0, 1) := by decide +kernel
theorem dX2_advance_9 : decode cX2_advance 9 = .ok (.getfield 19, 3) := by decide +kernel
theorem dX2_advance_12 : decode cX2_advance 12 = .ok (.aload_n 0, 1) := by decide +kernel
theorem dX2_advance_13 : decode cX2_advance 13 = .ok (.getfield 15, 3) := by decide +kernel
theorem dX2_advance_16 : decode cX2_advance 16 = .ok (.if_icmp .ge 30, 3) := by decide +kernel
theorem dX2_advance_19 : decode cX2_advance 19 = .ok (.aload_n 0, 1) := by decide +kernel
theorem dX2_advance_20 : decode cX2_advance 20 = .ok (.getfield 9, 3) := by decide +kernel
theorem dX2_advance_23 : decode cX2_advance 23 = .ok (.aload_n 0, 1) := by decide +kernel
theorem dX2_advance_24 : decode cX2_advance 24 = .ok (.getfield 19, 3) := by decide +kernel
theorem dX2_advance_27 : decode cX2_advance 27 = .ok (.iaload, 1) := by decide +kernel
theorem dX2_advance_28 : decode cX2_advance 28 = .ok (.bipush 32, 2) := by decide +kernel
theorem dX2_advance_30 : decode cX2_advance 30 = .ok (.if_icmp .ne 16, 3) := by decide +kernel
theorem dX2_advance_33 : decode cX2_advance 33 = .ok (.aload_n 0, 1) := by decide +kernel
theorem dX2_advance_34 : decode cX2_advance 34 = .ok (.dup, 1) := by decide +kernel
theorem dX2_advance_35 : decode cX2_advance 35 = .ok (.getfield 19, 3) := by decide +kernel
theorem dX2_advance_38 : decode cX2_advance 38 = .ok (.iconst 1, 1) := by decide +kernel
theorem dX2_advance_39 : decode cX2_advance 39 = .ok (.iadd, 1) := by decide +kernel
theorem dX2_advance_40 : decode cX2_advance 40 = .ok (.putfield 19, 3) := by decide +kernel
theorem dX2_advance_43 : decode cX2_advance 43 = .ok (.goto (-35), 3) := by decide +kernel
theorem dX2_advance_46 : decode cX2_advance 46 = .ok (.aload_n 0, 1) := by decide +kernel
theorem dX2_advance_47 : decode cX2_advance 47 = .ok (.aload_n 0, 1) := by decide +kernel
theorem dX2_advance_48 : decode cX2_advance 48 = .ok (.getfield 19, 3) := by decide +kernel
theorem dX2_advance_51 : decode cX2_advance 51 = .ok (.putfield 22, 3) := by decide +kernel
theorem dX2_advance_54 : decode cX2_advance 54 = .ok (.aload_n 0, 1) := by decide +kernel
theorem dX2_advance_55 : decode cX2_advance 55 = .ok (.getfield 19, 3) := by decide +kernel
theorem dX2_advance_58 : decode cX2_advance 58 = .ok (.aload_n 0, 1) := by decide +kernel
theorem dX2_advance_59 : decode cX2_advance 59 = .ok (.getfield 15, 3) := by decide +kernel
theorem dX2_advance_62 : decode cX2_advance 62 = .ok (.if_icmp .lt 11, 3) := by decide +kernel
theorem dX2_advance_65 : decode cX2_advance 65 = .ok (.aload_n 0, 1) := by decide +kernel
theorem dX2_advance_66 : decode cX2_advance 66 = .ok (.iconst 0, 1) := by decide +kernel
theorem dX2_advance_67 : decode cX2_advance 67 = .ok (.putfield 25, 3) := by decide +kernel
theorem dX2_advance_70 : decode cX2_advance 70 = .ok (.goto 80, 3) := by decide +kernel
theorem dX2_advance_73 : decode cX2_advance 73 = .ok (.aload_n 0, 1) := by decide +kernel
theorem dX2_advance_74 : decode cX2_advance 74 = .ok (.getfield 9, 3) := by decide +kernel
theorem dX2_advance_77 : decode cX2_advance 77 = .ok (.aload_n 0, 1) := by decide +kernel
theorem dX2_advance_78 : decode cX2_advance 78 = .ok (.getfield 19, 3) := by decide +kernel
theorem dX2_advance_81 : decode cX2_advance 81 = .ok (.iaload, 1) := by decide +kernel
theorem dX2_advance_82 : decode cX2_advance 82 = .ok (.invokestatic 31, 3) := by decide +kernel
theorem dX2_advance_85 : decode cX2_advance 85 = .ok (.ifCond .eq 10, 3) := by decide +kernel
theorem dX2_advance_88 : decode cX2_advance 88 = .ok (.aload_n 0, 1) := by decide +kernel
theorem dX2_advance_89 : decode cX2_advance 89 = .ok (.invokevirtual 35, 3) := by decide +kernel
theorem dX2_advance_92 : decode cX2_advance 92 = .ok (.goto 58, 3) := by decide +kernel
theorem dX2_advance_95 : decode cX2_advance 95 = .ok (.aload_n 0, 1) := by decide +kernel
theorem dX2_advance_96 : decode cX2_advance 96 = .ok (.getfield 9, 3) := by decide +kernel
theorem dX2_advance_99 : decode cX2_advance 99 = .ok (.aload_n 0, 1) := by decide +kernel
theorem dX2_advance_100 : decode cX2_advance 100 = .ok (.getfield 19, 3) := by decide +kernel
theorem dX2_advance_103 : decode cX2_advance 103 = .ok (.iaload, 1) := by decide +kernel
theorem dX2_advance_104 : decode cX2_advance 104 = .ok (.invokestatic 38, 3) := by decide +kernel
theorem dX2_advance_107 : decode cX2_advance 107 = .ok (.ifCond .eq 10, 3) := by decide +kernel
theorem dX2_advance_110 : decode cX2_advance 110 = .ok (.aload_n 0, 1) := by decide +kernel
theorem dX2_advance_111 : decode cX2_advance 111 = .ok (.invokevirtual 41, 3) := by decide +kernel
theorem dX2_advance_114 : decode cX2_advance 114 = .ok (.goto 36, 3) := by decide +kernel
theorem dX2_advance_117 : decode cX2_advance 117 = .ok (.aload_n 0, 1) := by decide +kernel
theorem dX2_advance_118 : decode cX2_advance 118 = .ok (.aload_n 0, 1) := by decide +kernel
theorem dX2_advance_119 : decode cX2_advance 119 = .ok (.getfield 9, 3) := by decide +kernel
theorem dX2_advance_122 : decode cX2_advance 122 = .ok (.aload_n 0, 1) := by decide +kernel
theorem dX2_advance_123 : decode cX2_advance 123 = .ok (.getfield 19, 3) := by decide +kernel
theorem dX2_advance_126 : decode cX2_advance 126 = .ok (.iaload, 1) := by decide +kernel
theorem dX2_advance_127 : decode cX2_advance 127 = .ok (.bipush 59, 2) := by decide +kernel
theorem dX2_advance_129 : decode cX2_advance 129 = .ok (.if_icmp .ne 7, 3) := by decide +kernel
theorem dX2_advance_132 : decode cX2_advance 132 = .ok (.iconst 3, 1) := by decide +kernel
theorem dX2_advance_133 : decode cX2_advance 133 = .ok (.goto 4, 3) := by decide +kernel
theorem dX2_advance_136 : decode cX2_advance 136 = .ok (.iconst 4, 1) := by decide +kernel
theorem dX2_advance_137 : decode cX2_advance 137 = .ok (.putfield 25, 3) := by decide +kernel
theorem dX2_advance_140 : decode cX2_advance 140 = .ok (.aload_n 0, 1) := by decide +kernel
theorem dX2_advance_141 : decode cX2_advance 141 = .ok (.aload_n 0, 1) := by decide +kernel
theorem dX2_advance_142 : decode cX2_advance 142 = .ok (.getfield 19, 3) := by decide +kernel
theorem dX2_advance_145 : decode cX2_advance 145 = .ok (.iconst 1, 1) := by decide +kernel
theorem dX2_advance_146 : decode cX2_advance 146 = .ok (.iadd, 1) := by decide +kernel
theorem dX2_advance_147 : decode cX2_advance 147 = .ok (.putfield 22, 3) := by decide +kernel
theorem dX2_advance_150 : decode cX2_advance 150 = .ok (.return_, 1) := by decide +kernel
theorem dX2_readWord_0 : decode cX2_readWord 0 = .ok (.aload_n 0, 1) := by decide +kernel
theorem dX2_readWord_1 : decode cX2_readWord 1 = .ok (.iconst 1, 1) := by decide +kernel
theorem dX2_readWord_2 : decode cX2_readWord 2 = .ok (.putfield 25, 3) := by decide +kernel
theorem dX2_readWord_5 : decode cX2_readWord 5 = .ok (.aload_n 0, 1) := by decide +kernel
theorem dX2_readWord_6 : decode cX2_readWord 6 = .ok (.getfield 22, 3) := by decide +kernel
theorem dX2_readWord_9 : decode cX2_readWord 9 = .ok (.aload_n 0, 1) := by decide +kernel
theorem dX2_readWord_10 : decode cX2_readWord 10 = .ok (.getfield 15, 3) := by decide +kernel
theorem dX2_readWord_13 : decode cX2_readWord 13 = .ok (.if_icmp .ge 31, 3) := by decide +kernel
theorem dX2_readWord_16 : decode cX2_readWord 16 = .ok (.aload_n 0, 1) := by decide +kernel
theorem dX2_readWord_17 : decode cX2_readWord 17 = .ok (.getfield 9, 3) := by decide +kernel
theorem dX2_readWord_20 : decode cX2_readWord 20 = .ok (.aload_n 0, 1) := by decide +kernel
theorem dX2_readWord_21 : decode cX2_readWord 21 = .ok (.getfield 22, 3) := by decide +kernel
theorem dX2_readWord_24 : decode cX2_readWord 24 = .ok (.iaload, 1) := by decide +kernel
theorem dX2_readWord_25 : decode cX2_readWord 25 = .ok (.invokestatic 31, 3) := by decide +kernel
theorem dX2_readWord_28 : decode cX2_readWord 28 = .ok (.ifCond .eq 16, 3) := by decide +kernel
theorem dX2_readWord_31 : decode cX2_readWord 31 = .ok (.aload_n 0, 1) := by decide +kernel
theorem dX2_readWord_32 : decode cX2_readWord 32 = .ok (.dup, 1) := by decide +kernel
theorem dX2_readWord_33 : decode cX2_readWord 33 = .ok (.getfield 22, 3) := by decide +kernel
theorem dX2_readWord_36 : decode cX2_readWord 36 = .ok (.iconst 1, 1) := by decide +kernel
theorem dX2_readWord_37 : decode cX2_readWord 37 = .ok (.iadd, 1) := by decide +kernel
theorem dX2_readWord_38 : decode cX2_readWord 38 = .ok (.putfield 22, 3) := by decide +kernel
theorem dX2_readWord_41 : decode cX2_readWord 41 = .ok (.goto (-36), 3) := by decide +kernel
theorem dX2_readWord_44 : decode cX2_readWord 44 = .ok (.return_, 1) := by decide +kernel
theorem dX2_readNumber_0 : decode cX2_readNumber 0 = .ok (.aload_n 0, 1) := by decide +kernel
theorem dX2_readNumber_1 : decode cX2_readNumber 1 = .ok (.iconst 2, 1) := by decide +kernel
theorem dX2_readNumber_2 : decode cX2_readNumber 2 = .ok (.putfield 25, 3) := by decide +kernel
theorem dX2_readNumber_5 : decode cX2_readNumber 5 = .ok (.aload_n 0, 1) := by decide +kernel
theorem dX2_readNumber_6 : decode cX2_readNumber 6 = .ok (.iconst 0, 1) := by decide +kernel
theorem dX2_readNumber_7 : decode cX2_readNumber 7 = .ok (.putfield 28, 3) := by decide +kernel
theorem dX2_readNumber_10 : decode cX2_readNumber 10 = .ok (.aload_n 0, 1) := by decide +kernel
theorem dX2_readNumber_11 : decode cX2_readNumber 11 = .ok (.getfield 22, 3) := by decide +kernel
theorem dX2_readNumber_14 : decode cX2_readNumber 14 = .ok (.aload_n 0, 1) := by decide +kernel
theorem dX2_readNumber_15 : decode cX2_readNumber 15 = .ok (.getfield 15, 3) := by decide +kernel
theorem dX2_readNumber_18 : decode cX2_readNumber 18 = .ok (.if_icmp .ge 61, 3) := by decide +kernel
theorem dX2_readNumber_21 : decode cX2_readNumber 21 = .ok (.aload_n 0, 1) := by decide +kernel
theorem dX2_readNumber_22 : decode cX2_readNumber 22 = .ok (.getfield 9, 3) := by decide +kernel
theorem dX2_readNumber_25 : decode cX2_readNumber 25 = .ok (.aload_n 0, 1) := by decide +kernel
theorem dX2_readNumber_26 : decode cX2_readNumber 26 = .ok (.getfield 22, 3) := by decide +kernel
theorem dX2_readNumber_29 : decode cX2_readNumber 29 = .ok (.iaload, 1) := by decide +kernel
theorem dX2_readNumber_30 : decode cX2_readNumber 30 = .ok (.invokestatic 38, 3) := by decide +kernel
theorem dX2_readNumber_33 : decode cX2_readNumber 33 = .ok (.ifCond .eq 46, 3) := by decide +kernel
theorem dX2_readNumber_36 : decode cX2_readNumber 36 = .ok (.aload_n 0, 1) := by decide +kernel
theorem dX2_readNumber_37 : decode cX2_readNumber 37 = .ok (.sipush 10000, 3) := by decide +kernel
theorem dX2_readNumber_40 : decode cX2_readNumber 40 = .ok (.bipush 10, 2) := by decide +kernel
theorem dX2_readNumber_42 : decode cX2_readNumber 42 = .ok (.aload_n 0, 1) := by decide +kernel
theorem dX2_readNumber_43 : decode cX2_readNumber 43 = .ok (.getfield 28, 3) := by decide +kernel
theorem dX2_readNumber_46 : decode cX2_readNumber 46 = .ok (.imul, 1) := by decide +kernel
theorem dX2_readNumber_47 : decode cX2_readNumber 47 = .ok (.aload_n 0, 1) := by decide +kernel
theorem dX2_readNumber_48 : decode cX2_readNumber 48 = .ok (.getfield 9, 3) := by decide +kernel
theorem dX2_readNumber_51 : decode cX2_readNumber 51 = .ok (.aload_n 0, 1) := by decide +kernel
theorem dX2_readNumber_52 : decode cX2_readNumber 52 = .ok (.getfield 22, 3) := by decide +kernel
theorem dX2_readNumber_55 : decode cX2_readNumber 55 = .ok (.iaload, 1) := by decide +kernel
theorem dX2_readNumber_56 : decode cX2_readNumber 56 = .ok (.iadd, 1) := by decide +kernel
theorem dX2_readNumber_57 : decode cX2_readNumber 57 = .ok (.bipush 48, 2) := by decide +kernel
theorem dX2_readNumber_59 : decode cX2_readNumber 59 = .ok (.isub, 1) := by decide +kernel
theorem dX2_readNumber_60 : decode cX2_readNumber 60 = .ok (.invokestatic 44, 3) := by decide +kernel
theorem dX2_readNumber_63 : decode cX2_readNumber 63 = .ok (.putfield 28, 3) := by decide +kernel
theorem dX2_readNumber_66 : decode cX2_readNumber 66 = .ok (.aload_n 0, 1) := by decide +kernel
theorem dX2_readNumber_67 : decode cX2_readNumber 67 = .ok (.dup, 1) := by decide +kernel
theorem dX2_readNumber_68 : decode cX2_readNumber 68 = .ok (.getfield 22, 3) := by decide +kernel
theorem dX2_readNumber_71 : decode cX2_readNumber 71 = .ok (.iconst 1, 1) := by decide +kernel
theorem dX2_readNumber_72 : decode cX2_readNumber 72 = .ok (.iadd, 1) := by decide +kernel
theorem dX2_readNumber_73 : decode cX2_readNumber 73 = .ok (.putfield 22, 3) := by decide +kernel
theorem dX2_readNumber_76 : decode cX2_readNumber 76 = .ok (.goto (-66), 3) := by decide +kernel
theorem dX2_readNumber_79 : decode cX2_readNumber 79 = .ok (.return_, 1) := by decide +kernel
theorem dX2_isLetter_0 : decode cX2_isLetter 0 = .ok (.iload_n 0, 1) := by decide +kernel
theorem dX2_isLetter_1 : decode cX2_isLetter 1 = .ok (.bipush 97, 2) := by decide +kernel
theorem dX2_isLetter_3 : decode cX2_isLetter 3 = .ok (.if_icmp .lt 13, 3) := by decide +kernel
theorem dX2_isLetter_6 : decode cX2_isLetter 6 = .ok (.iload_n 0, 1) := by decide +kernel
theorem dX2_isLetter_7 : decode cX2_isLetter 7 = .ok (.bipush 122, 2) := by decide +kernel
theorem dX2_isLetter_9 : decode cX2_isLetter 9 = .ok (.if_icmp .gt 7, 3) := by decide +kernel
theorem dX2_isLetter_12 : decode cX2_isLetter 12 = .ok (.iconst 1, 1) := by decide +kernel
theorem dX2_isLetter_13 : decode cX2_isLetter 13 = .ok (.goto 4, 3) := by decide +kernel
theorem dX2_isLetter_16 : decode cX2_isLetter 16 = .ok (.iconst 0, 1) := by decide +kernel
theorem dX2_isLetter_17 : decode cX2_isLetter 17 = .ok (.ireturn, 1) := by decide +kernel
theorem dX2_isDigit_0 : decode cX2_isDigit 0 = .ok (.iload_n 0, 1) := by decide +kernel
theorem dX2_isDigit_1 : decode cX2_isDigit 1 = .ok (.bipush 48, 2) := by decide +kernel
theorem dX2_isDigit_3 : decode cX2_isDigit 3 = .ok (.if_icmp .lt 13, 3) := by decide +kernel
theorem dX2_isDigit_6 : decode cX2_isDigit 6 = .ok (.iload_n 0, 1) := by decide +kernel
theorem dX2_isDigit_7 : decode cX2_isDigit 7 = .ok (.bipush 57, 2) := by decide +kernel
theorem dX2_isDigit_9 : decode cX2_isDigit 9 = .ok (.if_icmp .gt 7, 3) := by decide +kernel
theorem dX2_isDigit_12 : decode cX2_isDigit 12 = .ok (.iconst 1, 1) := by decide +kernel
theorem dX2_isDigit_13 : decode cX2_isDigit 13 = .ok (.goto 4, 3) := by decide +kernel
theorem dX2_isDigit_16 : decode cX2_isDigit 16 = .ok (.iconst 0, 1) := by decide +kernel
theorem dX2_isDigit_17 : decode cX2_isDigit 17 = .ok (.ireturn, 1) := by decide +kernel
theorem dX2_isWord_0 : decode cX2_isWord 0 = .ok (.aload_n 0, 1) := by decide +kernel
theorem dX2_isWord_1 : decode cX2_isWord 1 = .ok (.getfield 25, 3) := by decide +kernel
theorem dX2_isWord_4 : decode cX2_isWord 4 = .ok (.iconst 1, 1) := by decide +kernel
theorem dX2_isWord_5 : decode cX2_isWord 5 = .ok (.if_icmp .ne 19, 3) := by decide +kernel
theorem dX2_isWord_8 : decode cX2_isWord 8 = .ok (.aload_n 0, 1) := by decide +kernel
theorem dX2_isWord_9 : decode cX2_isWord 9 = .ok (.getfield 22, 3) := by decide +kernel
theorem dX2_isWord_12 : decode cX2_isWord 12 = .ok (.aload_n 0, 1) := by decide +kernel
theorem dX2_isWord_13 : decode cX2_isWord 13 = .ok (.getfield 19, 3) := by decide +kernel
theorem dX2_isWord_16 : decode cX2_isWord 16 = .ok (.isub, 1) := by decide +kernel
theorem dX2_isWord_17 : decode cX2_isWord 17 = .ok (.aload_n 1, 1) := by decide +kernel
theorem dX2_isWord_18 : decode cX2_isWord 18 = .ok (.invokevirtual 50, 3) := by decide +kernel
theorem dX2_isWord_21 : decode cX2_isWord 21 = .ok (.if_icmp .eq 5, 3) := by decide +kernel
theorem dX2_isWord_24 : decode cX2_isWord 24 = .ok (.iconst 0, 1) := by decide +kernel
theorem dX2_isWord_25 : decode cX2_isWord 25 = .ok (.ireturn, 1) := by decide +kernel
theorem dX2_isWord_26 : decode cX2_isWord 26 = .ok (.iconst 0, 1) := by decide +kernel
theorem dX2_isWord_27 : decode cX2_isWord 27 = .ok (.istore_n 2, 1) := by decide +kernel
theorem dX2_isWord_28 : decode cX2_isWord 28 = .ok (.iload_n 2, 1) := by decide +kernel
theorem dX2_isWord_29 : decode cX2_isWord 29 = .ok (.aload_n 1, 1) := by decide +kernel
theorem dX2_isWord_30 : decode cX2_isWord 30 = .ok (.invokevirtual 50, 3) := by decide +kernel
theorem dX2_isWord_33 : decode cX2_isWord 33 = .ok (.if_icmp .ge 30, 3) := by decide +kernel
theorem dX2_isWord_36 : decode cX2_isWord 36 = .ok (.aload_n 0, 1) := by decide +kernel
theorem dX2_isWord_37 : decode cX2_isWord 37 = .ok (.getfield 9, 3) := by decide +kernel
theorem dX2_isWord_40 : decode cX2_isWord 40 = .ok (.aload_n 0, 1) := by decide +kernel
theorem dX2_isWord_41 : decode cX2_isWord 41 = .ok (.getfield 19, 3) := by decide +kernel
theorem dX2_isWord_44 : decode cX2_isWord 44 = .ok (.iload_n 2, 1) := by decide +kernel
theorem dX2_isWord_45 : decode cX2_isWord 45 = .ok (.iadd, 1) := by decide +kernel
theorem dX2_isWord_46 : decode cX2_isWord 46 = .ok (.iaload, 1) := by decide +kernel
theorem dX2_isWord_47 : decode cX2_isWord 47 = .ok (.aload_n 1, 1) := by decide +kernel
theorem dX2_isWord_48 : decode cX2_isWord 48 = .ok (.iload_n 2, 1) := by decide +kernel
theorem dX2_isWord_49 : decode cX2_isWord 49 = .ok (.invokevirtual 55, 3) := by decide +kernel
theorem dX2_isWord_52 : decode cX2_isWord 52 = .ok (.if_icmp .eq 5, 3) := by decide +kernel
theorem dX2_isWord_55 : decode cX2_isWord 55 = .ok (.iconst 0, 1) := by decide +kernel
theorem dX2_isWord_56 : decode cX2_isWord 56 = .ok (.ireturn, 1) := by decide +kernel
theorem dX2_isWord_57 : decode cX2_isWord 57 = .ok (.iinc 2 1, 3) := by decide +kernel
theorem dX2_isWord_60 : decode cX2_isWord 60 = .ok (.goto (-32), 3) := by decide +kernel
theorem dX2_isWord_63 : decode cX2_isWord 63 = .ok (.iconst 1, 1) := by decide +kernel
theorem dX2_isWord_64 : decode cX2_isWord 64 = .ok (.ireturn, 1) := by decide +kernel
theorem dX2_kindTold_0 : decode cX2_kindTold 0 = .ok (.iconst 0, 1) := by decide +kernel
theorem dX2_kindTold_1 : decode cX2_kindTold 1 = .ok (.istore_n 1, 1) := by decide +kernel
theorem dX2_kindTold_2 : decode cX2_kindTold 2 = .ok (.iload_n 1, 1) := by decide +kernel
theorem dX2_kindTold_3 : decode cX2_kindTold 3 = .ok (.bipush 7, 2) := by decide +kernel
theorem dX2_kindTold_5 : decode cX2_kindTold 5 = .ok (.if_icmp .ge 22, 3) := by decide +kernel
theorem dX2_kindTold_8 : decode cX2_kindTold 8 = .ok (.aload_n 0, 1) := by decide +kernel
theorem dX2_kindTold_9 : decode cX2_kindTold 9 = .ok (.iload_n 1, 1) := by decide +kernel
theorem dX2_kindTold_10 : decode cX2_kindTold 10 = .ok (.invokestatic 59, 3) := by decide +kernel
theorem dX2_kindTold_13 : decode cX2_kindTold 13 = .ok (.invokevirtual 63, 3) := by decide +kernel
theorem dX2_kindTold_16 : decode cX2_kindTold 16 = .ok (.ifCond .eq 5, 3) := by decide +kernel
theorem dX2_kindTold_19 : decode cX2_kindTold 19 = .ok (.iload_n 1, 1) := by decide +kernel
theorem dX2_kindTold_20 : decode cX2_kindTold 20 = .ok (.ireturn, 1) := by decide +kernel
theorem dX2_kindTold_21 : decode cX2_kindTold 21 = .ok (.iinc 1 1, 3) := by decide +kernel
theorem dX2_kindTold_24 : decode cX2_kindTold 24 = .ok (.goto (-22), 3) := by decide +kernel
theorem dX2_kindTold_27 : decode cX2_kindTold 27 = .ok (.iconst (-1), 1) := by decide +kernel
theorem dX2_kindTold_28 : decode cX2_kindTold 28 = .ok (.ireturn, 1) := by decide +kernel
theorem dX2_kindWord_0 : decode cX2_kindWord 0 = .ok (.iload_n 0, 1) := by decide +kernel
theorem dX2_kindWord_1 : decode cX2_kindWord 1 = .ok (.tableswitch 57 1 6 #[39, 42, 45, 48, 51, 54], 39) := by decide +kernel
theorem dX2_kindWord_40 : decode cX2_kindWord 40 = .ok (.ldc 67, 2) := by decide +kernel
theorem dX2_kindWord_42 : decode cX2_kindWord 42 = .ok (.areturn, 1) := by decide +kernel
theorem dX2_kindWord_43 : decode cX2_kindWord 43 = .ok (.ldc 69, 2) := by decide +kernel
theorem dX2_kindWord_45 : decode cX2_kindWord 45 = .ok (.areturn, 1) := by decide +kernel
theorem dX2_kindWord_46 : decode cX2_kindWord 46 = .ok (.ldc 71, 2) := by decide +kernel
theorem dX2_kindWord_48 : decode cX2_kindWord 48 = .ok (.areturn, 1) := by decide +kernel
theorem dX2_kindWord_49 : decode cX2_kindWord 49 = .ok (.ldc 73, 2) := by decide +kernel
theorem dX2_kindWord_51 : decode cX2_kindWord 51 = .ok (.areturn, 1) := by decide +kernel
theorem dX2_kindWord_52 : decode cX2_kindWord 52 = .ok (.ldc 75, 2) := by decide +kernel
theorem dX2_kindWord_54 : decode cX2_kindWord 54 = .ok (.areturn, 1) := by decide +kernel
theorem dX2_kindWord_55 : decode cX2_kindWord 55 = .ok (.ldc 77, 2) := by decide +kernel
theorem dX2_kindWord_57 : decode cX2_kindWord 57 = .ok (.areturn, 1) := by decide +kernel
theorem dX2_kindWord_58 : decode cX2_kindWord 58 = .ok (.ldc 79, 2) := by decide +kernel
theorem dX2_kindWord_60 : decode cX2_kindWord 60 = .ok (.areturn, 1) := by decide +kernel
theorem dX3_init_0 : decode cX3_init 0 = .ok (.aload_n 0, 1) := by decide +kernel
theorem dX3_init_1 : decode cX3_init 1 = .ok (.invokespecial 1, 3) := by decide +kernel
theorem dX3_init_4 : decode cX3_init 4 = .ok (.aload_n 0, 1) := by decide +kernel
theorem dX3_init_5 : decode cX3_init 5 = .ok (.new 7, 3) := by decide +kernel
theorem dX3_init_8 : decode cX3_init 8 = .ok (.dup, 1) := by decide +kernel
theorem dX3_init_9 : decode cX3_init 9 = .ok (.invokespecial 9, 3) := by decide +kernel
theorem dX3_init_12 : decode cX3_init 12 = .ok (.putfield 10, 3) := by decide +kernel
theorem dX3_init_15 : decode cX3_init 15 = .ok (.aload_n 0, 1) := by decide +kernel
theorem dX3_init_16 : decode cX3_init 16 = .ok (.new 7, 3) := by decide +kernel
theorem dX3_init_19 : decode cX3_init 19 = .ok (.dup, 1) := by decide +kernel
theorem dX3_init_20 : decode cX3_init 20 = .ok (.invokespecial 9, 3) := by decide +kernel
theorem dX3_init_23 : decode cX3_init 23 = .ok (.putfield 16, 3) := by decide +kernel
theorem dX3_init_26 : decode cX3_init 26 = .ok (.aload_n 0, 1) := by decide +kernel
theorem dX3_init_27 : decode cX3_init 27 = .ok (.new 7, 3) := by decide +kernel
theorem dX3_init_30 : decode cX3_init 30 = .ok (.dup, 1) := by decide +kernel
theorem dX3_init_31 : decode cX3_init 31 = .ok (.invokespecial 9, 3) := by decide +kernel
theorem dX3_init_34 : decode cX3_init 34 = .ok (.putfield 19, 3) := by decide +kernel
theorem dX3_init_37 : decode cX3_init 37 = .ok (.aload_n 0, 1) := by decide +kernel
theorem dX3_init_38 : decode cX3_init 38 = .ok (.new 22, 3) := by decide +kernel
theorem dX3_init_41 : decode cX3_init 41 = .ok (.dup, 1) := by decide +kernel
theorem dX3_init_42 : decode cX3_init 42 = .ok (.invokespecial 24, 3) := by decide +kernel
theorem dX3_init_45 : decode cX3_init 45 = .ok (.putfield 25, 3) := by decide +kernel
theorem dX3_init_48 : decode cX3_init 48 = .ok (.aload_n 0, 1) := by decide +kernel
theorem dX3_init_49 : decode cX3_init 49 = .ok (.iconst 4, 1) := by decide +kernel
theorem dX3_init_50 : decode cX3_init 50 = .ok (.anewarray 29, 3) := by decide +kernel
theorem dX3_init_53 : decode cX3_init 53 = .ok (.putfield 31, 3) := by decide +kernel
theorem dX3_init_56 : decode cX3_init 56 = .ok (.iconst 0, 1) := by decide +kernel
theorem dX3_init_57 : decode cX3_init 57 = .ok (.istore_n 1, 1) := by decide +kernel
theorem dX3_init_58 : decode cX3_init 58 = .ok (.iload_n 1, 1) := by decide +kernel
theorem dX3_init_59 : decode cX3_init 59 = .ok (.iconst 4, 1) := by decide +kernel
theorem dX3_init_60 : decode cX3_init 60 = .ok (.if_icmp .ge 22, 3) := by decide +kernel
theorem dX3_init_63 : decode cX3_init 63 = .ok (.aload_n 0, 1) := by decide +kernel
theorem dX3_init_64 : decode cX3_init 64 = .ok (.getfield 31, 3) := by decide +kernel
theorem dX3_init_67 : decode cX3_init 67 = .ok (.iload_n 1, 1) := by decide +kernel
theorem dX3_init_68 : decode cX3_init 68 = .ok (.new 29, 3) := by decide +kernel
theorem dX3_init_71 : decode cX3_init 71 = .ok (.dup, 1) := by decide +kernel
theorem dX3_init_72 : decode cX3_init 72 = .ok (.invokespecial 35, 3) := by decide +kernel
theorem dX3_init_75 : decode cX3_init 75 = .ok (.aastore, 1) := by decide +kernel
theorem dX3_init_76 : decode cX3_init 76 = .ok (.iinc 1 1, 3) := by decide +kernel
theorem dX3_init_79 : decode cX3_init 79 = .ok (.goto (-21), 3) := by decide +kernel
theorem dX3_init_82 : decode cX3_init 82 = .ok (.aload_n 0, 1) := by decide +kernel
theorem dX3_init_83 : decode cX3_init 83 = .ok (.bipush 7, 2) := by decide +kernel
theorem dX3_init_85 : decode cX3_init 85 = .ok (.newarray .int, 2) := by decide +kernel
theorem dX3_init_87 : decode cX3_init 87 = .ok (.putfield 36, 3) := by decide +kernel
theorem dX3_init_90 : decode cX3_init 90 = .ok (.aload_n 0, 1) := by decide +kernel
theorem dX3_init_91 : decode cX3_init 91 = .ok (.iconst 0, 1) := by decide +kernel
theorem dX3_init_92 : decode cX3_init 92 = .ok (.putfield 40, 3) := by decide +kernel
theorem dX3_init_95 : decode cX3_init 95 = .ok (.return_, 1) := by decide +kernel
theorem dX3_citizen_0 : decode cX3_citizen 0 = .ok (.iload_n 1, 1) := by decide +kernel
theorem dX3_citizen_1 : decode cX3_citizen 1 = .ok (.invokestatic 44, 3) := by decide +kernel
theorem dX3_citizen_4 : decode cX3_citizen 4 = .ok (.ifCond .ne 9, 3) := by decide +kernel
theorem dX3_citizen_7 : decode cX3_citizen 7 = .ok (.aload_n 0, 1) := by decide +kernel
theorem dX3_citizen_8 : decode cX3_citizen 8 = .ok (.iconst 0, 1) := by decide +kernel
theorem dX3_citizen_9 : decode cX3_citizen 9 = .ok (.invokevirtual 48, 3) := by decide +kernel
theorem dX3_citizen_12 : decode cX3_citizen 12 = .ok (.ireturn, 1) := by decide +kernel
theorem dX3_citizen_13 : decode cX3_citizen 13 = .ok (.aload_n 0, 1) := by decide +kernel
theorem dX3_citizen_14 : decode cX3_citizen 14 = .ok (.getfield 10, 3) := by decide +kernel
theorem dX3_citizen_17 : decode cX3_citizen 17 = .ok (.getfield 52, 3) := by decide +kernel
theorem dX3_citizen_20 : decode cX3_citizen 20 = .ok (.bipush 10, 2) := by decide +kernel
theorem dX3_citizen_22 : decode cX3_citizen 22 = .ok (.if_icmp .lt 9, 3) := by decide +kernel
theorem dX3_citizen_25 : decode cX3_citizen 25 = .ok (.aload_n 0, 1) := by decide +kernel
theorem dX3_citizen_26 : decode cX3_citizen 26 = .ok (.iconst 1, 1) := by decide +kernel
theorem dX3_citizen_27 : decode cX3_citizen 27 = .ok (.invokevirtual 48, 3) := by decide +kernel
theorem dX3_citizen_30 : decode cX3_citizen 30 = .ok (.ireturn, 1) := by decide +kernel
theorem dX3_citizen_31 : decode cX3_citizen 31 = .ok (.aload_n 0, 1) := by decide +kernel
theorem dX3_citizen_32 : decode cX3_citizen 32 = .ok (.getfield 10, 3) := by decide +kernel
theorem dX3_citizen_35 : decode cX3_citizen 35 = .ok (.iload_n 1, 1) := by decide +kernel
theorem dX3_citizen_36 : decode cX3_citizen 36 = .ok (.invokevirtual 56, 3) := by decide +kernel
theorem dX3_citizen_39 : decode cX3_citizen 39 = .ok (.aload_n 0, 1) := by decide +kernel
theorem dX3_citizen_40 : decode cX3_citizen 40 = .ok (.getfield 10, 3) := by decide +kernel
theorem dX3_citizen_43 : decode cX3_citizen 43 = .ok (.getfield 52, 3) := by decide +kernel
theorem dX3_citizen_46 : decode cX3_citizen 46 = .ok (.iconst 1, 1) := by decide +kernel
theorem dX3_citizen_47 : decode cX3_citizen 47 = .ok (.isub, 1) := by decide +kernel
theorem dX3_citizen_48 : decode cX3_citizen 48 = .ok (.ireturn, 1) := by decide +kernel
theorem dX3_of_0 : decode cX3_of 0 = .ok (.aload_n 0, 1) := by decide +kernel
theorem dX3_of_1 : decode cX3_of 1 = .ok (.getfield 10, 3) := by decide +kernel
theorem dX3_of_4 : decode cX3_of 4 = .ok (.iload_n 1, 1) := by decide +kernel
theorem dX3_of_5 : decode cX3_of 5 = .ok (.invokevirtual 60, 3) := by decide +kernel
theorem dX3_of_8 : decode cX3_of 8 = .ok (.ifCond .ne 9, 3) := by decide +kernel
theorem dX3_of_11 : decode cX3_of 11 = .ok (.aload_n 0, 1) := by decide +kernel
theorem dX3_of_12 : decode cX3_of 12 = .ok (.iconst 0, 1) := by decide +kernel
theorem dX3_of_13 : decode cX3_of 13 = .ok (.invokevirtual 48, 3) := by decide +kernel
theorem dX3_of_16 : decode cX3_of 16 = .ok (.ireturn, 1) := by decide +kernel
theorem dX3_of_17 : decode cX3_of 17 = .ok (.iload_n 2, 1) := by decide +kernel
theorem dX3_of_18 : decode cX3_of 18 = .ok (.tableswitch 58 4 7 #[30, 58, 40, 49], 30) := by decide +kernel
theorem dX3_of_48 : decode cX3_of 48 = .ok (.aload_n 0, 1) := by decide +kernel
theorem dX3_of_49 : decode cX3_of 49 = .ok (.getfield 10, 3) := by decide +kernel
theorem dX3_of_52 : decode cX3_of 52 = .ok (.getfield 63, 3) := by decide +kernel
theorem dX3_of_55 : decode cX3_of 55 = .ok (.iload_n 1, 1) := by decide +kernel
theorem dX3_of_56 : decode cX3_of 56 = .ok (.iaload, 1) := by decide +kernel
theorem dX3_of_57 : decode cX3_of 57 = .ok (.ireturn, 1) := by decide +kernel
theorem dX3_of_58 : decode cX3_of 58 = .ok (.aload_n 0, 1) := by decide +kernel
theorem dX3_of_59 : decode cX3_of 59 = .ok (.getfield 10, 3) := by decide +kernel
theorem dX3_of_62 : decode cX3_of 62 = .ok (.iload_n 1, 1) := by decide +kernel
theorem dX3_of_63 : decode cX3_of 63 = .ok (.invokevirtual 66, 3) := by decide +kernel
theorem dX3_of_66 : decode cX3_of 66 = .ok (.ireturn, 1) := by decide +kernel
theorem dX3_of_67 : decode cX3_of 67 = .ok (.aload_n 0, 1) := by decide +kernel
theorem dX3_of_68 : decode cX3_of 68 = .ok (.getfield 10, 3) := by decide +kernel
theorem dX3_of_71 : decode cX3_of 71 = .ok (.iload_n 1, 1) := by decide +kernel
theorem dX3_of_72 : decode cX3_of 72 = .ok (.invokevirtual 69, 3) := by decide +kernel
theorem dX3_of_75 : decode cX3_of 75 = .ok (.ireturn, 1) := by decide +kernel
theorem dX3_of_76 : decode cX3_of 76 = .ok (.iload_n 2, 1) := by decide +kernel
theorem dX3_of_77 : decode cX3_of 77 = .ok (.invokestatic 72, 3) := by decide +kernel
theorem dX3_of_80 : decode cX3_of 80 = .ok (.ifCond .eq 15, 3) := by decide +kernel
theorem dX3_of_83 : decode cX3_of 83 = .ok (.aload_n 0, 1) := by decide +kernel
theorem dX3_of_84 : decode cX3_of 84 = .ok (.getfield 10, 3) := by decide +kernel
theorem dX3_of_87 : decode cX3_of 87 = .ok (.iload_n 1, 1) := by decide +kernel
theorem dX3_of_88 : decode cX3_of 88 = .ok (.iload_n 2, 1) := by decide +kernel
theorem dX3_of_89 : decode cX3_of 89 = .ok (.invokevirtual 75, 3) := by decide +kernel
theorem dX3_of_92 : decode cX3_of 92 = .ok (.goto 8, 3) := by decide +kernel
theorem dX3_of_95 : decode cX3_of 95 = .ok (.aload_n 0, 1) := by decide +kernel
theorem dX3_of_96 : decode cX3_of 96 = .ok (.iconst 0, 1) := by decide +kernel
theorem dX3_of_97 : decode cX3_of 97 = .ok (.invokevirtual 48, 3) := by decide +kernel
theorem dX3_of_100 : decode cX3_of 100 = .ok (.ireturn, 1) := by decide +kernel
theorem dX3_change_0 : decode cX3_change 0 = .ok (.aload_n 0, 1) := by decide +kernel
theorem dX3_change_1 : decode cX3_change 1 = .ok (.getfield 10, 3) := by decide +kernel
theorem dX3_change_4 : decode cX3_change 4 = .ok (.iload_n 1, 1) := by decide +kernel
theorem dX3_change_5 : decode cX3_change 5 = .ok (.invokevirtual 60, 3) := by decide +kernel
theorem dX3_change_8 : decode cX3_change 8 = .ok (.ifCond .eq 11, 3) := by decide +kernel
theorem dX3_change_11 : decode cX3_change 11 = .ok (.iload_n 2, 1) := by decide +kernel
theorem dX3_change_12 : decode cX3_change 12 = .ok (.iload_n 3, 1) := by decide +kernel
theorem dX3_change_13 : decode cX3_change 13 = .ok (.invokestatic 79, 3) := by decide +kernel
theorem dX3_change_16 : decode cX3_change 16 = .ok (.ifCond .ne 9, 3) := by decide +kernel
theorem dX3_change_19 : decode cX3_change 19 = .ok (.aload_n 0, 1) := by decide +kernel
theorem dX3_change_20 : decode cX3_change 20 = .ok (.iconst 0, 1) := by decide +kernel
theorem dX3_change_21 : decode cX3_change 21 = .ok (.invokevirtual 48, 3) := by decide +kernel
theorem dX3_change_24 : decode cX3_change 24 = .ok (.ireturn, 1) := by decide +kernel
theorem dX3_change_25 : decode cX3_change 25 = .ok (.aload_n 0, 1) := by decide +kernel
theorem dX3_change_26 : decode cX3_change 26 = .ok (.getfield 10, 3) := by decide +kernel
theorem dX3_change_29 : decode cX3_change 29 = .ok (.iload_n 1, 1) := by decide +kernel
theorem dX3_change_30 : decode cX3_change 30 = .ok (.iload_n 2, 1) := by decide +kernel
theorem dX3_change_31 : decode cX3_change 31 = .ok (.invokevirtual 75, 3) := by decide +kernel
theorem dX3_change_34 : decode cX3_change 34 = .ok (.istore 4, 2) := by decide +kernel
theorem dX3_change_36 : decode cX3_change 36 = .ok (.aload_n 0, 1) := by decide +kernel
theorem dX3_change_37 : decode cX3_change 37 = .ok (.getfield 10, 3) := by decide +kernel
theorem dX3_change_40 : decode cX3_change 40 = .ok (.iload_n 1, 1) := by decide +kernel
theorem dX3_change_41 : decode cX3_change 41 = .ok (.iload_n 2, 1) := by decide +kernel
theorem dX3_change_42 : decode cX3_change 42 = .ok (.iload_n 3, 1) := by decide +kernel
theorem dX3_change_43 : decode cX3_change 43 = .ok (.invokevirtual 83, 3) := by decide +kernel
theorem dX3_change_46 : decode cX3_change 46 = .ok (.iload 4, 2) := by decide +kernel
theorem dX3_change_48 : decode cX3_change 48 = .ok (.ireturn, 1) := by decide +kernel
theorem dX3_rule_0 : decode cX3_rule 0 = .ok (.iload_n 1, 1) := by decide +kernel
theorem dX3_rule_1 : decode cX3_rule 1 = .ok (.iload_n 2, 1) := by decide +kernel
theorem dX3_rule_2 : decode cX3_rule 2 = .ok (.invokestatic 87, 3) := by decide +kernel
theorem dX3_rule_5 : decode cX3_rule 5 = .ok (.ifCond .ne 9, 3) := by decide +kernel
theorem dX3_rule_8 : decode cX3_rule 8 = .ok (.aload_n 0, 1) := by decide +kernel
theorem dX3_rule_9 : decode cX3_rule 9 = .ok (.iconst 0, 1) := by decide +kernel
theorem dX3_rule_10 : decode cX3_rule 10 = .ok (.invokevirtual 48, 3) := by decide +kernel
theorem dX3_rule_13 : decode cX3_rule 13 = .ok (.ireturn, 1) := by decide +kernel
theorem dX3_rule_14 : decode cX3_rule 14 = .ok (.aload_n 0, 1) := by decide +kernel
theorem dX3_rule_15 : decode cX3_rule 15 = .ok (.getfield 10, 3) := by decide +kernel
theorem dX3_rule_18 : decode cX3_rule 18 = .ok (.iload_n 1, 1) := by decide +kernel
theorem dX3_rule_19 : decode cX3_rule 19 = .ok (.invokevirtual 90, 3) := by decide +kernel
theorem dX3_rule_22 : decode cX3_rule 22 = .ok (.istore_n 3, 1) := by decide +kernel
theorem dX3_rule_23 : decode cX3_rule 23 = .ok (.aload_n 0, 1) := by decide +kernel
theorem dX3_rule_24 : decode cX3_rule 24 = .ok (.getfield 10, 3) := by decide +kernel
theorem dX3_rule_27 : decode cX3_rule 27 = .ok (.iload_n 1, 1) := by decide +kernel
theorem dX3_rule_28 : decode cX3_rule 28 = .ok (.iload_n 2, 1) := by decide +kernel
theorem dX3_rule_29 : decode cX3_rule 29 = .ok (.invokevirtual 93, 3) := by decide +kernel
theorem dX3_rule_32 : decode cX3_rule 32 = .ok (.iload_n 3, 1) := by decide +kernel
theorem dX3_rule_33 : decode cX3_rule 33 = .ok (.ireturn, 1) := by decide +kernel
theorem dX3_now_0 : decode cX3_now 0 = .ok (.iload_n 1, 1) := by decide +kernel
theorem dX3_now_1 : decode cX3_now 1 = .ok (.tableswitch 113 0 6 #[43, 51, 59, 67, 76, 85, 93], 43) := by decide +kernel
theorem dX3_now_44 : decode cX3_now 44 = .ok (.aload_n 0, 1) := by decide +kernel
theorem dX3_now_45 : decode cX3_now 45 = .ok (.getfield 10, 3) := by decide +kernel
theorem dX3_now_48 : decode cX3_now 48 = .ok (.getfield 97, 3) := by decide +kernel
theorem dX3_now_51 : decode cX3_now 51 = .ok (.ireturn, 1) := by decide +kernel
theorem dX3_now_52 : decode cX3_now 52 = .ok (.aload_n 0, 1) := by decide +kernel
theorem dX3_now_53 : decode cX3_now 53 = .ok (.getfield 10, 3) := by decide +kernel
theorem dX3_now_56 : decode cX3_now 56 = .ok (.getfield 100, 3) := by decide +kernel
theorem dX3_now_59 : decode cX3_now 59 = .ok (.ireturn, 1) := by decide +kernel
theorem dX3_now_60 : decode cX3_now 60 = .ok (.aload_n 0, 1) := by decide +kernel
theorem dX3_now_61 : decode cX3_now 61 = .ok (.getfield 10, 3) := by decide +kernel
theorem dX3_now_64 : decode cX3_now 64 = .ok (.getfield 103, 3) := by decide +kernel
theorem dX3_now_67 : decode cX3_now 67 = .ok (.ireturn, 1) := by decide +kernel
theorem dX3_now_68 : decode cX3_now 68 = .ok (.aload_n 0, 1) := by decide +kernel
theorem dX3_now_69 : decode cX3_now 69 = .ok (.getfield 10, 3) := by decide +kernel
theorem dX3_now_72 : decode cX3_now 72 = .ok (.iconst 1, 1) := by decide +kernel
theorem dX3_now_73 : decode cX3_now 73 = .ok (.invokevirtual 106, 3) := by decide +kernel
theorem dX3_now_76 : decode cX3_now 76 = .ok (.ireturn, 1) := by decide +kernel
theorem dX3_now_77 : decode cX3_now 77 = .ok (.aload_n 0, 1) := by decide +kernel
theorem dX3_now_78 : decode cX3_now 78 = .ok (.getfield 10, 3) := by decide +kernel
theorem dX3_now_81 : decode cX3_now 81 = .ok (.iconst 2, 1) := by decide +kernel
theorem dX3_now_82 : decode cX3_now 82 = .ok (.invokevirtual 106, 3) := by decide +kernel
theorem dX3_now_85 : decode cX3_now 85 = .ok (.ireturn, 1) := by decide +kernel
theorem dX3_now_86 : decode cX3_now 86 = .ok (.aload_n 0, 1) := by decide +kernel
theorem dX3_now_87 : decode cX3_now 87 = .ok (.getfield 10, 3) := by decide +kernel
theorem dX3_now_90 : decode cX3_now 90 = .ok (.invokevirtual 109, 3) := by decide +kernel
theorem dX3_now_93 : decode cX3_now 93 = .ok (.ireturn, 1) := by decide +kernel
theorem dX3_now_94 : decode cX3_now 94 = .ok (.iconst 3, 1) := by decide +kernel
theorem dX3_now_95 : decode cX3_now 95 = .ok (.aload_n 0, 1) := by decide +kernel
theorem dX3_now_96 : decode cX3_now 96 = .ok (.getfield 10, 3) := by decide +kernel
theorem dX3_now_99 : decode cX3_now 99 = .ok (.getfield 113, 3) := by decide +kernel
theorem dX3_now_102 : decode cX3_now 102 = .ok (.imul, 1) := by decide +kernel
theorem dX3_now_103 : decode cX3_now 103 = .ok (.iconst 2, 1) := by decide +kernel
theorem dX3_now_104 : decode cX3_now 104 = .ok (.aload_n 0, 1) := by decide +kernel
theorem dX3_now_105 : decode cX3_now 105 = .ok (.getfield 10, 3) := by decide +kernel
theorem dX3_now_108 : decode cX3_now 108 = .ok (.getfield 116, 3) := by decide +kernel
theorem dX3_now_111 : decode cX3_now 111 = .ok (.imul, 1) := by decide +kernel
theorem dX3_now_112 : decode cX3_now 112 = .ok (.iadd, 1) := by decide +kernel
theorem dX3_now_113 : decode cX3_now 113 = .ok (.ireturn, 1) := by decide +kernel
theorem dX3_now_114 : decode cX3_now 114 = .ok (.aload_n 0, 1) := by decide +kernel
theorem dX3_now_115 : decode cX3_now 115 = .ok (.iconst 0, 1) := by decide +kernel
theorem dX3_now_116 : decode cX3_now 116 = .ok (.invokevirtual 48, 3) := by decide +kernel
theorem dX3_now_119 : decode cX3_now 119 = .ok (.ireturn, 1) := by decide +kernel
theorem dX3_wants_0 : decode cX3_wants 0 = .ok (.aload_n 0, 1) := by decide +kernel
theorem dX3_wants_1 : decode cX3_wants 1 = .ok (.getfield 10, 3) := by decide +kernel
theorem dX3_wants_4 : decode cX3_wants 4 = .ok (.iload_n 1, 1) := by decide +kernel
theorem dX3_wants_5 : decode cX3_wants 5 = .ok (.invokevirtual 60, 3) := by decide +kernel
theorem dX3_wants_8 : decode cX3_wants 8 = .ok (.ifCond .ne 9, 3) := by decide +kernel
theorem dX3_wants_11 : decode cX3_wants 11 = .ok (.aload_n 0, 1) := by decide +kernel
theorem dX3_wants_12 : decode cX3_wants 12 = .ok (.iconst 0, 1) := by decide +kernel
theorem dX3_wants_13 : decode cX3_wants 13 = .ok (.invokevirtual 48, 3) := by decide +kernel
theorem dX3_wants_16 : decode cX3_wants 16 = .ok (.ireturn, 1) := by decide +kernel
theorem dX3_wants_17 : decode cX3_wants 17 = .ok (.aload_n 0, 1) := by decide +kernel
theorem dX3_wants_18 : decode cX3_wants 18 = .ok (.getfield 10, 3) := by decide +kernel
theorem dX3_wants_21 : decode cX3_wants 21 = .ok (.getfield 119, 3) := by decide +kernel
theorem dX3_wants_24 : decode cX3_wants 24 = .ok (.iload_n 1, 1) := by decide +kernel
theorem dX3_wants_25 : decode cX3_wants 25 = .ok (.iaload, 1) := by decide +kernel
theorem dX3_wants_26 : decode cX3_wants 26 = .ok (.ifCond .ne 9, 3) := by decide +kernel
theorem dX3_wants_29 : decode cX3_wants 29 = .ok (.aload_n 0, 1) := by decide +kernel
theorem dX3_wants_30 : decode cX3_wants 30 = .ok (.iconst 4, 1) := by decide +kernel
theorem dX3_wants_31 : decode cX3_wants 31 = .ok (.invokevirtual 48, 3) := by decide +kernel
theorem dX3_wants_34 : decode cX3_wants 34 = .ok (.ireturn, 1) := by decide +kernel
theorem dX3_wants_35 : decode cX3_wants 35 = .ok (.aload_n 0, 1) := by decide +kernel
theorem dX3_wants_36 : decode cX3_wants 36 = .ok (.getfield 10, 3) := by decide +kernel
theorem dX3_wants_39 : decode cX3_wants 39 = .ok (.iload_n 1, 1) := by decide +kernel
theorem dX3_wants_40 : decode cX3_wants 40 = .ok (.invokevirtual 122, 3) := by decide +kernel
theorem dX3_wants_43 : decode cX3_wants 43 = .ok (.ifCond .eq 7, 3) := by decide +kernel
theorem dX3_wants_46 : decode cX3_wants 46 = .ok (.iconst 1, 1) := by decide +kernel
theorem dX3_wants_47 : decode cX3_wants 47 = .ok (.goto 4, 3) := by decide +kernel
theorem dX3_wants_50 : decode cX3_wants 50 = .ok (.iconst 0, 1) := by decide +kernel
theorem dX3_wants_51 : decode cX3_wants 51 = .ok (.ireturn, 1) := by decide +kernel
theorem dX3_swap_0 : decode cX3_swap 0 = .ok (.aload_n 0, 1) := by decide +kernel
theorem dX3_swap_1 : decode cX3_swap 1 = .ok (.getfield 10, 3) := by decide +kernel
theorem dX3_swap_4 : decode cX3_swap 4 = .ok (.iload_n 1, 1) := by decide +kernel
theorem dX3_swap_5 : decode cX3_swap 5 = .ok (.invokevirtual 60, 3) := by decide +kernel
theorem dX3_swap_8 : decode cX3_swap 8 = .ok (.ifCond .eq 19, 3) := by decide +kernel
theorem dX3_swap_11 : decode cX3_swap 11 = .ok (.aload_n 0, 1) := by decide +kernel
theorem dX3_swap_12 : decode cX3_swap 12 = .ok (.getfield 10, 3) := by decide +kernel
theorem dX3_swap_15 : decode cX3_swap 15 = .ok (.iload_n 2, 1) := by decide +kernel
theorem dX3_swap_16 : decode cX3_swap 16 = .ok (.invokevirtual 60, 3) := by decide +kernel
theorem dX3_swap_19 : decode cX3_swap 19 = .ok (.ifCond .eq 8, 3) := by decide +kernel
theorem dX3_swap_22 : decode cX3_swap 22 = .ok (.iload_n 1, 1) := by decide +kernel
theorem dX3_swap_23 : decode cX3_swap 23 = .ok (.iload_n 2, 1) := by decide +kernel
theorem dX3_swap_24 : decode cX3_swap 24 = .ok (.if_icmp .ne 9, 3) := by decide +kernel
theorem dX3_swap_27 : decode cX3_swap 27 = .ok (.aload_n 0, 1) := by decide +kernel
theorem dX3_swap_28 : decode cX3_swap 28 = .ok (.iconst 0, 1) := by decide +kernel
theorem dX3_swap_29 : decode cX3_swap 29 = .ok (.invokevirtual 48, 3) := by decide +kernel
theorem dX3_swap_32 : decode cX3_swap 32 = .ok (.ireturn, 1) := by decide +kernel
theorem dX3_swap_33 : decode cX3_swap 33 = .ok (.aload_n 0, 1) := by decide +kernel
theorem dX3_swap_34 : decode cX3_swap 34 = .ok (.getfield 10, 3) := by decide +kernel
theorem dX3_swap_37 : decode cX3_swap 37 = .ok (.getfield 119, 3) := by decide +kernel
theorem dX3_swap_40 : decode cX3_swap 40 = .ok (.iload_n 1, 1) := by decide +kernel
theorem dX3_swap_41 : decode cX3_swap 41 = .ok (.iaload, 1) := by decide +kernel
theorem dX3_swap_42 : decode cX3_swap 42 = .ok (.iconst 1, 1) := by decide +kernel
theorem dX3_swap_43 : decode cX3_swap 43 = .ok (.if_icmp .ne 16, 3) := by decide +kernel
theorem dX3_swap_46 : decode cX3_swap 46 = .ok (.aload_n 0, 1) := by decide +kernel
theorem dX3_swap_47 : decode cX3_swap 47 = .ok (.getfield 10, 3) := by decide +kernel
theorem dX3_swap_50 : decode cX3_swap 50 = .ok (.getfield 119, 3) := by decide +kernel
theorem dX3_swap_53 : decode cX3_swap 53 = .ok (.iload_n 2, 1) := by decide +kernel
theorem dX3_swap_54 : decode cX3_swap 54 = .ok (.iaload, 1) := by decide +kernel
theorem dX3_swap_55 : decode cX3_swap 55 = .ok (.iconst 2, 1) := by decide +kernel
theorem dX3_swap_56 : decode cX3_swap 56 = .ok (.if_icmp .eq 29, 3) := by decide +kernel
theorem dX3_swap_59 : decode cX3_swap 59 = .ok (.aload_n 0, 1) := by decide +kernel
theorem dX3_swap_60 : decode cX3_swap 60 = .ok (.getfield 10, 3) := by decide +kernel
theorem dX3_swap_63 : decode cX3_swap 63 = .ok (.getfield 119, 3) := by decide +kernel
theorem dX3_swap_66 : decode cX3_swap 66 = .ok (.iload_n 1, 1) := by decide +kernel
theorem dX3_swap_67 : decode cX3_swap 67 = .ok (.iaload, 1) := by decide +kernel
theorem dX3_swap_68 : decode cX3_swap 68 = .ok (.iconst 2, 1) := by decide +kernel
theorem dX3_swap_69 : decode cX3_swap 69 = .ok (.if_icmp .ne 20, 3) := by decide +kernel
theorem dX3_swap_72 : decode cX3_swap 72 = .ok (.aload_n 0, 1) := by decide +kernel
theorem dX3_swap_73 : decode cX3_swap 73 = .ok (.getfield 10, 3) := by decide +kernel
theorem dX3_swap_76 : decode cX3_swap 76 = .ok (.getfield 119, 3) := by decide +kernel
theorem dX3_swap_79 : decode cX3_swap 79 = .ok (.iload_n 2, 1) := by decide +kernel
theorem dX3_swap_80 : decode cX3_swap 80 = .ok (.iaload, 1) := by decide +kernel
theorem dX3_swap_81 : decode cX3_swap 81 = .ok (.iconst 1, 1) := by decide +kernel
theorem dX3_swap_82 : decode cX3_swap 82 = .ok (.if_icmp .ne 7, 3) := by decide +kernel
theorem dX3_swap_85 : decode cX3_swap 85 = .ok (.iconst 1, 1) := by decide +kernel
theorem dX3_swap_86 : decode cX3_swap 86 = .ok (.goto 4, 3) := by decide +kernel
theorem dX3_swap_89 : decode cX3_swap 89 = .ok (.iconst 0, 1) := by decide +kernel
theorem dX3_swap_90 : decode cX3_swap 90 = .ok (.istore_n 3, 1) := by decide +kernel
theorem dX3_swap_91 : decode cX3_swap 91 = .ok (.iload_n 3, 1) := by decide +kernel
theorem dX3_swap_92 : decode cX3_swap 92 = .ok (.ifCond .eq 25, 3) := by decide +kernel
theorem dX3_swap_95 : decode cX3_swap 95 = .ok (.aload_n 0, 1) := by decide +kernel
theorem dX3_swap_96 : decode cX3_swap 96 = .ok (.getfield 10, 3) := by decide +kernel
theorem dX3_swap_99 : decode cX3_swap 99 = .ok (.iload_n 1, 1) := by decide +kernel
theorem dX3_swap_100 : decode cX3_swap 100 = .ok (.invokevirtual 122, 3) := by decide +kernel
theorem dX3_swap_103 : decode cX3_swap 103 = .ok (.ifCond .eq 14, 3) := by decide +kernel
theorem dX3_swap_106 : decode cX3_swap 106 = .ok (.aload_n 0, 1) := by decide +kernel
theorem dX3_swap_107 : decode cX3_swap 107 = .ok (.getfield 10, 3) := by decide +kernel
theorem dX3_swap_110 : decode cX3_swap 110 = .ok (.iload_n 2, 1) := by decide +kernel
theorem dX3_swap_111 : decode cX3_swap 111 = .ok (.invokevirtual 122, 3) := by decide +kernel
theorem dX3_swap_114 : decode cX3_swap 114 = .ok (.ifCond .ne 9, 3) := by decide +kernel
theorem dX3_swap_117 : decode cX3_swap 117 = .ok (.aload_n 0, 1) := by decide +kernel
theorem dX3_swap_118 : decode cX3_swap 118 = .ok (.iconst 4, 1) := by decide +kernel
theorem dX3_swap_119 : decode cX3_swap 119 = .ok (.invokevirtual 48, 3) := by decide +kernel
theorem dX3_swap_122 : decode cX3_swap 122 = .ok (.ireturn, 1) := by decide +kernel
theorem dX3_swap_123 : decode cX3_swap 123 = .ok (.aload_n 0, 1) := by decide +kernel
theorem dX3_swap_124 : decode cX3_swap 124 = .ok (.getfield 10, 3) := by decide +kernel
theorem dX3_swap_127 : decode cX3_swap 127 = .ok (.iload_n 1, 1) := by decide +kernel
theorem dX3_swap_128 : decode cX3_swap 128 = .ok (.iload_n 2, 1) := by decide +kernel
theorem dX3_swap_129 : decode cX3_swap 129 = .ok (.invokevirtual 125, 3) := by decide +kernel
theorem dX3_swap_132 : decode cX3_swap 132 = .ok (.iconst 1, 1) := by decide +kernel
theorem dX3_swap_133 : decode cX3_swap 133 = .ok (.ireturn, 1) := by decide +kernel
theorem dX3_gates_0 : decode cX3_gates 0 = .ok (.aload_n 0, 1) := by decide +kernel
theorem dX3_gates_1 : decode cX3_gates 1 = .ok (.getfield 10, 3) := by decide +kernel
theorem dX3_gates_4 : decode cX3_gates 4 = .ok (.invokevirtual 128, 3) := by decide +kernel
theorem dX3_gates_7 : decode cX3_gates 7 = .ok (.ireturn, 1) := by decide +kernel
theorem dX3_changes_0 : decode cX3_changes 0 = .ok (.aload_n 0, 1) := by decide +kernel
theorem dX3_changes_1 : decode cX3_changes 1 = .ok (.getfield 16, 3) := by decide +kernel
theorem dX3_changes_4 : decode cX3_changes 4 = .ok (.aload_n 0, 1) := by decide +kernel
theorem dX3_changes_5 : decode cX3_changes 5 = .ok (.getfield 10, 3) := by decide +kernel
theorem dX3_changes_8 : decode cX3_changes 8 = .ok (.invokevirtual 131, 3) := by decide +kernel
theorem dX3_changes_11 : decode cX3_changes 11 = .ok (.aload_n 0, 1) := by decide +kernel
theorem dX3_changes_12 : decode cX3_changes 12 = .ok (.getfield 16, 3) := by decide +kernel
theorem dX3_changes_15 : decode cX3_changes 15 = .ok (.invokevirtual 128, 3) := by decide +kernel
theorem dX3_changes_18 : decode cX3_changes 18 = .ok (.ireturn, 1) := by decide +kernel
theorem dX3_buy_0 : decode cX3_buy 0 = .ok (.aload_n 0, 1) := by decide +kernel
theorem dX3_buy_1 : decode cX3_buy 1 = .ok (.getfield 10, 3) := by decide +kernel
theorem dX3_buy_4 : decode cX3_buy 4 = .ok (.iload_n 1, 1) := by decide +kernel
theorem dX3_buy_5 : decode cX3_buy 5 = .ok (.invokevirtual 60, 3) := by decide +kernel
theorem dX3_buy_8 : decode cX3_buy 8 = .ok (.ifCond .eq 23, 3) := by decide +kernel
theorem dX3_buy_11 : decode cX3_buy 11 = .ok (.aload_n 0, 1) := by decide +kernel
theorem dX3_buy_12 : decode cX3_buy 12 = .ok (.getfield 10, 3) := by decide +kernel
theorem dX3_buy_15 : decode cX3_buy 15 = .ok (.iload_n 2, 1) := by decide +kernel
theorem dX3_buy_16 : decode cX3_buy 16 = .ok (.invokevirtual 60, 3) := by decide +kernel
theorem dX3_buy_19 : decode cX3_buy 19 = .ok (.ifCond .eq 12, 3) := by decide +kernel
theorem dX3_buy_22 : decode cX3_buy 22 = .ok (.iload_n 1, 1) := by decide +kernel
theorem dX3_buy_23 : decode cX3_buy 23 = .ok (.iload_n 2, 1) := by decide +kernel
theorem dX3_buy_24 : decode cX3_buy 24 = .ok (.if_icmp .eq 7, 3) := by decide +kernel
theorem dX3_buy_27 : decode cX3_buy 27 = .ok (.iconst 1, 1) := by decide +kernel
theorem dX3_buy_28 : decode cX3_buy 28 = .ok (.goto 4, 3) := by decide +kernel
theorem dX3_buy_31 : decode cX3_buy 31 = .ok (.iconst 0, 1) := by decide +kernel
theorem dX3_buy_32 : decode cX3_buy 32 = .ok (.istore 4, 2) := by decide +kernel
theorem dX3_buy_34 : decode cX3_buy 34 = .ok (.iload 4, 2) := by decide +kernel
theorem dX3_buy_36 : decode cX3_buy 36 = .ok (.ifCond .eq 14, 3) := by decide +kernel
theorem dX3_buy_39 : decode cX3_buy 39 = .ok (.iload_n 3, 1) := by decide +kernel
theorem dX3_buy_40 : decode cX3_buy 40 = .ok (.iconst 1, 1) := by decide +kernel
theorem dX3_buy_41 : decode cX3_buy 41 = .ok (.if_icmp .lt 9, 3) := by decide +kernel
theorem dX3_buy_44 : decode cX3_buy 44 = .ok (.iload_n 3, 1) := by decide +kernel
theorem dX3_buy_45 : decode cX3_buy 45 = .ok (.bipush 99, 2) := by decide +kernel
theorem dX3_buy_47 : decode cX3_buy 47 = .ok (.if_icmp .le 9, 3) := by decide +kernel
theorem dX3_buy_50 : decode cX3_buy 50 = .ok (.aload_n 0, 1) := by decide +kernel
theorem dX3_buy_51 : decode cX3_buy 51 = .ok (.iconst 0, 1) := by decide +kernel
theorem dX3_buy_52 : decode cX3_buy 52 = .ok (.invokevirtual 48, 3) := by decide +kernel
theorem dX3_buy_55 : decode cX3_buy 55 = .ok (.ireturn, 1) := by decide +kernel
theorem dX3_buy_56 : decode cX3_buy 56 = .ok (.aload_n 0, 1) := by decide +kernel
theorem dX3_buy_57 : decode cX3_buy 57 = .ok (.getfield 10, 3) := by decide +kernel
theorem dX3_buy_60 : decode cX3_buy 60 = .ok (.iload_n 1, 1) := by decide +kernel
theorem dX3_buy_61 : decode cX3_buy 61 = .ok (.iload_n 2, 1) := by decide +kernel
theorem dX3_buy_62 : decode cX3_buy 62 = .ok (.iload_n 3, 1) := by decide +kernel
theorem dX3_buy_63 : decode cX3_buy 63 = .ok (.invokevirtual 135, 3) := by decide +kernel
theorem dX3_buy_66 : decode cX3_buy 66 = .ok (.ifCond .ne 9, 3) := by decide +kernel
theorem dX3_buy_69 : decode cX3_buy 69 = .ok (.aload_n 0, 1) := by decide +kernel
theorem dX3_buy_70 : decode cX3_buy 70 = .ok (.iconst 4, 1) := by decide +kernel
theorem dX3_buy_71 : decode cX3_buy 71 = .ok (.invokevirtual 48, 3) := by decide +kernel
theorem dX3_buy_74 : decode cX3_buy 74 = .ok (.ireturn, 1) := by decide +kernel
theorem dX3_buy_75 : decode cX3_buy 75 = .ok (.aload_n 0, 1) := by decide +kernel
theorem dX3_buy_76 : decode cX3_buy 76 = .ok (.getfield 10, 3) := by decide +kernel
theorem dX3_buy_79 : decode cX3_buy 79 = .ok (.iload_n 1, 1) := by decide +kernel
theorem dX3_buy_80 : decode cX3_buy 80 = .ok (.iload_n 2, 1) := by decide +kernel
theorem dX3_buy_81 : decode cX3_buy 81 = .ok (.iload_n 3, 1) := by decide +kernel
theorem dX3_buy_82 : decode cX3_buy 82 = .ok (.invokevirtual 139, 3) := by decide +kernel
theorem dX3_buy_85 : decode cX3_buy 85 = .ok (.aload_n 0, 1) := by decide +kernel
theorem dX3_buy_86 : decode cX3_buy 86 = .ok (.getfield 10, 3) := by decide +kernel
theorem dX3_buy_89 : decode cX3_buy 89 = .ok (.getfield 142, 3) := by decide +kernel
theorem dX3_buy_92 : decode cX3_buy 92 = .ok (.iload_n 1, 1) := by decide +kernel
theorem dX3_buy_93 : decode cX3_buy 93 = .ok (.iaload, 1) := by decide +kernel
theorem dX3_buy_94 : decode cX3_buy 94 = .ok (.ireturn, 1) := by decide +kernel
theorem dX3_welfare_0 : decode cX3_welfare 0 = .ok (.aload_n 0, 1) := by decide +kernel
theorem dX3_welfare_1 : decode cX3_welfare 1 = .ok (.getfield 10, 3) := by decide +kernel
theorem dX3_welfare_4 : decode cX3_welfare 4 = .ok (.invokevirtual 145, 3) := by decide +kernel
theorem dX3_welfare_7 : decode cX3_welfare 7 = .ok (.ireturn, 1) := by decide +kernel
theorem dX3_most_0 : decode cX3_most 0 = .ok (.aload_n 0, 1) := by decide +kernel
theorem dX3_most_1 : decode cX3_most 1 = .ok (.getfield 10, 3) := by decide +kernel
theorem dX3_most_4 : decode cX3_most 4 = .ok (.invokevirtual 148, 3) := by decide +kernel
theorem dX3_most_7 : decode cX3_most 7 = .ok (.ireturn, 1) := by decide +kernel
theorem dX3_price_0 : decode cX3_price 0 = .ok (.aload_n 0, 1) := by decide +kernel
theorem dX3_price_1 : decode cX3_price 1 = .ok (.getfield 10, 3) := by decide +kernel
theorem dX3_price_4 : decode cX3_price 4 = .ok (.iconst 2, 1) := by decide +kernel
theorem dX3_price_5 : decode cX3_price 5 = .ok (.invokevirtual 106, 3) := by decide +kernel
theorem dX3_price_8 : decode cX3_price 8 = .ok (.ifCond .ne 9, 3) := by decide +kernel
theorem dX3_price_11 : decode cX3_price 11 = .ok (.aload_n 0, 1) := by decide +kernel
theorem dX3_price_12 : decode cX3_price 12 = .ok (.iconst 3, 1) := by decide +kernel
theorem dX3_price_13 : decode cX3_price 13 = .ok (.invokevirtual 48, 3) := by decide +kernel
theorem dX3_price_16 : decode cX3_price 16 = .ok (.ireturn, 1) := by decide +kernel
theorem dX3_price_17 : decode cX3_price 17 = .ok (.aload_n 0, 1) := by decide +kernel
theorem dX3_price_18 : decode cX3_price 18 = .ok (.getfield 10, 3) := by decide +kernel
theorem dX3_price_21 : decode cX3_price 21 = .ok (.iconst 1, 1) := by decide +kernel
theorem dX3_price_22 : decode cX3_price 22 = .ok (.invokevirtual 106, 3) := by decide +kernel
theorem dX3_price_25 : decode cX3_price 25 = .ok (.invokestatic 151, 3) := by decide +kernel
theorem dX3_price_28 : decode cX3_price 28 = .ok (.istore_n 1, 1) := by decide +kernel
theorem dX3_price_29 : decode cX3_price 29 = .ok (.iconst 0, 1) := by decide +kernel
theorem dX3_price_30 : decode cX3_price 30 = .ok (.istore_n 2, 1) := by decide +kernel
theorem dX3_price_31 : decode cX3_price 31 = .ok (.iload_n 2, 1) := by decide +kernel
theorem dX3_price_32 : decode cX3_price 32 = .ok (.bipush 99, 2) := by decide +kernel
theorem dX3_price_34 : decode cX3_price 34 = .ok (.if_icmp .gt 23, 3) := by decide +kernel
theorem dX3_price_37 : decode cX3_price 37 = .ok (.aload_n 0, 1) := by decide +kernel
theorem dX3_price_38 : decode cX3_price 38 = .ok (.getfield 10, 3) := by decide +kernel
theorem dX3_price_41 : decode cX3_price 41 = .ok (.iload_n 2, 1) := by decide +kernel
theorem dX3_price_42 : decode cX3_price 42 = .ok (.invokevirtual 156, 3) := by decide +kernel
theorem dX3_price_45 : decode cX3_price 45 = .ok (.iload_n 1, 1) := by decide +kernel
theorem dX3_price_46 : decode cX3_price 46 = .ok (.if_icmp .lt 5, 3) := by decide +kernel
theorem dX3_price_49 : decode cX3_price 49 = .ok (.iload_n 2, 1) := by decide +kernel
theorem dX3_price_50 : decode cX3_price 50 = .ok (.ireturn, 1) := by decide +kernel
theorem dX3_price_51 : decode cX3_price 51 = .ok (.iinc 2 1, 3) := by decide +kernel
theorem dX3_price_54 : decode cX3_price 54 = .ok (.goto (-23), 3) := by decide +kernel
theorem dX3_price_57 : decode cX3_price 57 = .ok (.aload_n 0, 1) := by decide +kernel
theorem dX3_price_58 : decode cX3_price 58 = .ok (.iconst 3, 1) := by decide +kernel
theorem dX3_price_59 : decode cX3_price 59 = .ok (.invokevirtual 48, 3) := by decide +kernel
theorem dX3_price_62 : decode cX3_price 62 = .ok (.ireturn, 1) := by decide +kernel
theorem dX3_weeks_0 : decode cX3_weeks 0 = .ok (.aload_n 0, 1) := by decide +kernel
theorem dX3_weeks_1 : decode cX3_weeks 1 = .ok (.iload_n 1, 1) := by decide +kernel
theorem dX3_weeks_2 : decode cX3_weeks 2 = .ok (.invokevirtual 159, 3) := by decide +kernel
theorem dX3_weeks_5 : decode cX3_weeks 5 = .ok (.istore_n 2, 1) := by decide +kernel
theorem dX3_weeks_6 : decode cX3_weeks 6 = .ok (.iload_n 2, 1) := by decide +kernel
theorem dX3_weeks_7 : decode cX3_weeks 7 = .ok (.iconst (-1), 1) := by decide +kernel
theorem dX3_weeks_8 : decode cX3_weeks 8 = .ok (.if_icmp .eq 9, 3) := by decide +kernel
theorem dX3_weeks_11 : decode cX3_weeks 11 = .ok (.aload_n 0, 1) := by decide +kernel
theorem dX3_weeks_12 : decode cX3_weeks 12 = .ok (.iload_n 2, 1) := by decide +kernel
theorem dX3_weeks_13 : decode cX3_weeks 13 = .ok (.invokevirtual 48, 3) := by decide +kernel
theorem dX3_weeks_16 : decode cX3_weeks 16 = .ok (.ireturn, 1) := by decide +kernel
theorem dX3_weeks_17 : decode cX3_weeks 17 = .ok (.aload_n 0, 1) := by decide +kernel
theorem dX3_weeks_18 : decode cX3_weeks 18 = .ok (.getfield 10, 3) := by decide +kernel
theorem dX3_weeks_21 : decode cX3_weeks 21 = .ok (.getfield 100, 3) := by decide +kernel
theorem dX3_weeks_24 : decode cX3_weeks 24 = .ok (.istore_n 3, 1) := by decide +kernel
theorem dX3_weeks_25 : decode cX3_weeks 25 = .ok (.aload_n 0, 1) := by decide +kernel
theorem dX3_weeks_26 : decode cX3_weeks 26 = .ok (.getfield 10, 3) := by decide +kernel
theorem dX3_weeks_29 : decode cX3_weeks 29 = .ok (.iload_n 1, 1) := by decide +kernel
theorem dX3_weeks_30 : decode cX3_weeks 30 = .ok (.invokevirtual 162, 3) := by decide +kernel
theorem dX3_weeks_33 : decode cX3_weeks 33 = .ok (.pop, 1) := by decide +kernel
theorem dX3_weeks_34 : decode cX3_weeks 34 = .ok (.aload_n 0, 1) := by decide +kernel
theorem dX3_weeks_35 : decode cX3_weeks 35 = .ok (.getfield 10, 3) := by decide +kernel
theorem dX3_weeks_38 : decode cX3_weeks 38 = .ok (.getfield 100, 3) := by decide +kernel
theorem dX3_weeks_41 : decode cX3_weeks 41 = .ok (.iload_n 3, 1) := by decide +kernel
theorem dX3_weeks_42 : decode cX3_weeks 42 = .ok (.isub, 1) := by decide +kernel
theorem dX3_weeks_43 : decode cX3_weeks 43 = .ok (.ireturn, 1) := by decide +kernel
theorem dX3_ahead_0 : decode cX3_ahead 0 = .ok (.iload_n 2, 1) := by decide +kernel
theorem dX3_ahead_1 : decode cX3_ahead 1 = .ok (.ifCond .lt 20, 3) := by decide +kernel
theorem dX3_ahead_4 : decode cX3_ahead 4 = .ok (.iload_n 2, 1) := by decide +kernel
theorem dX3_ahead_5 : decode cX3_ahead 5 = .ok (.iconst 4, 1) := by decide +kernel
theorem dX3_ahead_6 : decode cX3_ahead 6 = .ok (.aload_n 0, 1) := by decide +kernel
theorem dX3_ahead_7 : decode cX3_ahead 7 = .ok (.getfield 10, 3) := by decide +kernel
theorem dX3_ahead_10 : decode cX3_ahead 10 = .ok (.getfield 52, 3) := by decide +kernel
theorem dX3_ahead_13 : decode cX3_ahead 13 = .ok (.iadd, 1) := by decide +kernel
theorem dX3_ahead_14 : decode cX3_ahead 14 = .ok (.if_icmp .ge 7, 3) := by decide +kernel
theorem dX3_ahead_17 : decode cX3_ahead 17 = .ok (.iconst 1, 1) := by decide +kernel
theorem dX3_ahead_18 : decode cX3_ahead 18 = .ok (.goto 4, 3) := by decide +kernel
theorem dX3_ahead_21 : decode cX3_ahead 21 = .ok (.iconst 0, 1) := by decide +kernel
theorem dX3_ahead_22 : decode cX3_ahead 22 = .ok (.istore_n 3, 1) := by decide +kernel
theorem dX3_ahead_23 : decode cX3_ahead 23 = .ok (.iload_n 1, 1) := by decide +kernel
theorem dX3_ahead_24 : decode cX3_ahead 24 = .ok (.ifCond .lt 13, 3) := by decide +kernel
theorem dX3_ahead_27 : decode cX3_ahead 27 = .ok (.iload_n 1, 1) := by decide +kernel
theorem dX3_ahead_28 : decode cX3_ahead 28 = .ok (.bipush 60, 2) := by decide +kernel
theorem dX3_ahead_30 : decode cX3_ahead 30 = .ok (.if_icmp .gt 7, 3) := by decide +kernel
theorem dX3_ahead_33 : decode cX3_ahead 33 = .ok (.iload_n 3, 1) := by decide +kernel
theorem dX3_ahead_34 : decode cX3_ahead 34 = .ok (.ifCond .ne 9, 3) := by decide +kernel
theorem dX3_ahead_37 : decode cX3_ahead 37 = .ok (.aload_n 0, 1) := by decide +kernel
theorem dX3_ahead_38 : decode cX3_ahead 38 = .ok (.iconst 0, 1) := by decide +kernel
theorem dX3_ahead_39 : decode cX3_ahead 39 = .ok (.invokevirtual 48, 3) := by decide +kernel
theorem dX3_ahead_42 : decode cX3_ahead 42 = .ok (.ireturn, 1) := by decide +kernel
theorem dX3_ahead_43 : decode cX3_ahead 43 = .ok (.aload_n 0, 1) := by decide +kernel
theorem dX3_ahead_44 : decode cX3_ahead 44 = .ok (.getfield 10, 3) := by decide +kernel
theorem dX3_ahead_47 : decode cX3_ahead 47 = .ok (.getfield 97, 3) := by decide +kernel
theorem dX3_ahead_50 : decode cX3_ahead 50 = .ok (.iload_n 1, 1) := by decide +kernel
theorem dX3_ahead_51 : decode cX3_ahead 51 = .ok (.iadd, 1) := by decide +kernel
theorem dX3_ahead_52 : decode cX3_ahead 52 = .ok (.sipush 999, 3) := by decide +kernel
theorem dX3_ahead_55 : decode cX3_ahead 55 = .ok (.if_icmp .le 9, 3) := by decide +kernel
theorem dX3_ahead_58 : decode cX3_ahead 58 = .ok (.aload_n 0, 1) := by decide +kernel
theorem dX3_ahead_59 : decode cX3_ahead 59 = .ok (.iconst 4, 1) := by decide +kernel
theorem dX3_ahead_60 : decode cX3_ahead 60 = .ok (.invokevirtual 48, 3) := by decide +kernel
theorem dX3_ahead_63 : decode cX3_ahead 63 = .ok (.ireturn, 1) := by decide +kernel
theorem dX3_ahead_64 : decode cX3_ahead 64 = .ok (.aload_n 0, 1) := by decide +kernel
theorem dX3_ahead_65 : decode cX3_ahead 65 = .ok (.getfield 16, 3) := by decide +kernel
theorem dX3_ahead_68 : decode cX3_ahead 68 = .ok (.aload_n 0, 1) := by decide +kernel
theorem dX3_ahead_69 : decode cX3_ahead 69 = .ok (.getfield 10, 3) := by decide +kernel
theorem dX3_ahead_72 : decode cX3_ahead 72 = .ok (.invokevirtual 131, 3) := by decide +kernel
theorem dX3_ahead_75 : decode cX3_ahead 75 = .ok (.aload_n 0, 1) := by decide +kernel
theorem dX3_ahead_76 : decode cX3_ahead 76 = .ok (.getfield 16, 3) := by decide +kernel
theorem dX3_ahead_79 : decode cX3_ahead 79 = .ok (.iload_n 1, 1) := by decide +kernel
theorem dX3_ahead_80 : decode cX3_ahead 80 = .ok (.invokevirtual 162, 3) := by decide +kernel
theorem dX3_ahead_83 : decode cX3_ahead 83 = .ok (.istore 4, 2) := by decide +kernel
theorem dX3_ahead_85 : decode cX3_ahead 85 = .ok (.iload_n 2, 1) := by decide +kernel
theorem dX3_ahead_86 : decode cX3_ahead 86 = .ok (.tableswitch 94 0 3 #[30, 46, 61, 91], 30) := by decide +kernel
theorem dX3_ahead_116 : decode cX3_ahead 116 = .ok (.aload_n 0, 1) := by decide +kernel
theorem dX3_ahead_117 : decode cX3_ahead 117 = .ok (.getfield 16, 3) := by decide +kernel
theorem dX3_ahead_120 : decode cX3_ahead 120 = .ok (.getfield 100, 3) := by decide +kernel
theorem dX3_ahead_123 : decode cX3_ahead 123 = .ok (.aload_n 0, 1) := by decide +kernel
theorem dX3_ahead_124 : decode cX3_ahead 124 = .ok (.getfield 10, 3) := by decide +kernel
theorem dX3_ahead_127 : decode cX3_ahead 127 = .ok (.getfield 100, 3) := by decide +kernel
theorem dX3_ahead_130 : decode cX3_ahead 130 = .ok (.isub, 1) := by decide +kernel
theorem dX3_ahead_131 : decode cX3_ahead 131 = .ok (.ireturn, 1) := by decide +kernel
theorem dX3_ahead_132 : decode cX3_ahead 132 = .ok (.aload_n 0, 1) := by decide +kernel
theorem dX3_ahead_133 : decode cX3_ahead 133 = .ok (.getfield 16, 3) := by decide +kernel
theorem dX3_ahead_136 : decode cX3_ahead 136 = .ok (.aload_n 0, 1) := by decide +kernel
theorem dX3_ahead_137 : decode cX3_ahead 137 = .ok (.getfield 16, 3) := by decide +kernel
theorem dX3_ahead_140 : decode cX3_ahead 140 = .ok (.getfield 165, 3) := by decide +kernel
theorem dX3_ahead_143 : decode cX3_ahead 143 = .ok (.invokevirtual 168, 3) := by decide +kernel
theorem dX3_ahead_146 : decode cX3_ahead 146 = .ok (.ireturn, 1) := by decide +kernel
theorem dX3_ahead_147 : decode cX3_ahead 147 = .ok (.aload_n 0, 1) := by decide +kernel
theorem dX3_ahead_148 : decode cX3_ahead 148 = .ok (.getfield 16, 3) := by decide +kernel
theorem dX3_ahead_151 : decode cX3_ahead 151 = .ok (.aload_n 0, 1) := by decide +kernel
theorem dX3_ahead_152 : decode cX3_ahead 152 = .ok (.getfield 16, 3) := by decide +kernel
theorem dX3_ahead_155 : decode cX3_ahead 155 = .ok (.getfield 63, 3) := by decide +kernel
theorem dX3_ahead_158 : decode cX3_ahead 158 = .ok (.invokevirtual 168, 3) := by decide +kernel
theorem dX3_ahead_161 : decode cX3_ahead 161 = .ok (.aload_n 0, 1) := by decide +kernel
theorem dX3_ahead_162 : decode cX3_ahead 162 = .ok (.getfield 10, 3) := by decide +kernel
theorem dX3_ahead_165 : decode cX3_ahead 165 = .ok (.aload_n 0, 1) := by decide +kernel
theorem dX3_ahead_166 : decode cX3_ahead 166 = .ok (.getfield 10, 3) := by decide +kernel
theorem dX3_ahead_169 : decode cX3_ahead 169 = .ok (.getfield 63, 3) := by decide +kernel
theorem dX3_ahead_172 : decode cX3_ahead 172 = .ok (.invokevirtual 168, 3) := by decide +kernel
theorem dX3_ahead_175 : decode cX3_ahead 175 = .ok (.isub, 1) := by decide +kernel
theorem dX3_ahead_176 : decode cX3_ahead 176 = .ok (.ireturn, 1) := by decide +kernel
theorem dX3_ahead_177 : decode cX3_ahead 177 = .ok (.iload 4, 2) := by decide +kernel
theorem dX3_ahead_179 : decode cX3_ahead 179 = .ok (.ireturn, 1) := by decide +kernel
theorem dX3_ahead_180 : decode cX3_ahead 180 = .ok (.aload_n 0, 1) := by decide +kernel
theorem dX3_ahead_181 : decode cX3_ahead 181 = .ok (.getfield 16, 3) := by decide +kernel
theorem dX3_ahead_184 : decode cX3_ahead 184 = .ok (.getfield 165, 3) := by decide +kernel
theorem dX3_ahead_187 : decode cX3_ahead 187 = .ok (.iload_n 2, 1) := by decide +kernel
theorem dX3_ahead_188 : decode cX3_ahead 188 = .ok (.iconst 4, 1) := by decide +kernel
theorem dX3_ahead_189 : decode cX3_ahead 189 = .ok (.isub, 1) := by decide +kernel
theorem dX3_ahead_190 : decode cX3_ahead 190 = .ok (.iaload, 1) := by decide +kernel
theorem dX3_ahead_191 : decode cX3_ahead 191 = .ok (.ireturn, 1) := by decide +kernel
theorem dX3_riot_0 : decode cX3_riot 0 = .ok (.aload_n 0, 1) := by decide +kernel
theorem dX3_riot_1 : decode cX3_riot 1 = .ok (.getfield 10, 3) := by decide +kernel
theorem dX3_riot_4 : decode cX3_riot 4 = .ok (.getfield 97, 3) := by decide +kernel
theorem dX3_riot_7 : decode cX3_riot 7 = .ok (.bipush 60, 2) := by decide +kernel
theorem dX3_riot_9 : decode cX3_riot 9 = .ok (.iadd, 1) := by decide +kernel
theorem dX3_riot_10 : decode cX3_riot 10 = .ok (.sipush 999, 3) := by decide +kernel
theorem dX3_riot_13 : decode cX3_riot 13 = .ok (.if_icmp .le 9, 3) := by decide +kernel
theorem dX3_riot_16 : decode cX3_riot 16 = .ok (.aload_n 0, 1) := by decide +kernel
theorem dX3_riot_17 : decode cX3_riot 17 = .ok (.iconst 4, 1) := by decide +kernel
theorem dX3_riot_18 : decode cX3_riot 18 = .ok (.invokevirtual 48, 3) := by decide +kernel
theorem dX3_riot_21 : decode cX3_riot 21 = .ok (.ireturn, 1) := by decide +kernel
theorem dX3_riot_22 : decode cX3_riot 22 = .ok (.aload_n 0, 1) := by decide +kernel
theorem dX3_riot_23 : decode cX3_riot 23 = .ok (.getfield 16, 3) := by decide +kernel
theorem dX3_riot_26 : decode cX3_riot 26 = .ok (.aload_n 0, 1) := by decide +kernel
theorem dX3_riot_27 : decode cX3_riot 27 = .ok (.getfield 10, 3) := by decide +kernel
theorem dX3_riot_30 : decode cX3_riot 30 = .ok (.invokevirtual 131, 3) := by decide +kernel
theorem dX3_riot_33 : decode cX3_riot 33 = .ok (.aload_n 0, 1) := by decide +kernel
theorem dX3_riot_34 : decode cX3_riot 34 = .ok (.getfield 16, 3) := by decide +kernel
theorem dX3_riot_37 : decode cX3_riot 37 = .ok (.bipush 60, 2) := by decide +kernel
theorem dX3_riot_39 : decode cX3_riot 39 = .ok (.invokevirtual 172, 3) := by decide +kernel
theorem dX3_riot_42 : decode cX3_riot 42 = .ok (.istore_n 1, 1) := by decide +kernel
theorem dX3_riot_43 : decode cX3_riot 43 = .ok (.iload_n 1, 1) := by decide +kernel
theorem dX3_riot_44 : decode cX3_riot 44 = .ok (.bipush 60, 2) := by decide +kernel
theorem dX3_riot_46 : decode cX3_riot 46 = .ok (.if_icmp .ge 9, 3) := by decide +kernel
theorem dX3_riot_49 : decode cX3_riot 49 = .ok (.iload_n 1, 1) := by decide +kernel
theorem dX3_riot_50 : decode cX3_riot 50 = .ok (.iconst 1, 1) := by decide +kernel
theorem dX3_riot_51 : decode cX3_riot 51 = .ok (.iadd, 1) := by decide +kernel
theorem dX3_riot_52 : decode cX3_riot 52 = .ok (.goto 8, 3) := by decide +kernel
theorem dX3_riot_55 : decode cX3_riot 55 = .ok (.aload_n 0, 1) := by decide +kernel
theorem dX3_riot_56 : decode cX3_riot 56 = .ok (.iconst 3, 1) := by decide +kernel
theorem dX3_riot_57 : decode cX3_riot 57 = .ok (.invokevirtual 48, 3) := by decide +kernel
theorem dX3_riot_60 : decode cX3_riot 60 = .ok (.ireturn, 1) := by decide +kernel
theorem dX3_next_0 : decode cX3_next 0 = .ok (.aload_n 0, 1) := by decide +kernel
theorem dX3_next_1 : decode cX3_next 1 = .ok (.getfield 10, 3) := by decide +kernel
theorem dX3_next_4 : decode cX3_next 4 = .ok (.iload_n 1, 1) := by decide +kernel
theorem dX3_next_5 : decode cX3_next 5 = .ok (.invokevirtual 60, 3) := by decide +kernel
theorem dX3_next_8 : decode cX3_next 8 = .ok (.ifCond .ne 9, 3) := by decide +kernel
theorem dX3_next_11 : decode cX3_next 11 = .ok (.aload_n 0, 1) := by decide +kernel
theorem dX3_next_12 : decode cX3_next 12 = .ok (.iconst 0, 1) := by decide +kernel
theorem dX3_next_13 : decode cX3_next 13 = .ok (.invokevirtual 48, 3) := by decide +kernel
theorem dX3_next_16 : decode cX3_next 16 = .ok (.ireturn, 1) := by decide +kernel
theorem dX3_next_17 : decode cX3_next 17 = .ok (.aload_n 0, 1) := by decide +kernel
theorem dX3_next_18 : decode cX3_next 18 = .ok (.getfield 10, 3) := by decide +kernel
theorem dX3_next_21 : decode cX3_next 21 = .ok (.getfield 97, 3) := by decide +kernel
theorem dX3_next_24 : decode cX3_next 24 = .ok (.sipush 999, 3) := by decide +kernel
theorem dX3_next_27 : decode cX3_next 27 = .ok (.if_icmp .lt 9, 3) := by decide +kernel
theorem dX3_next_30 : decode cX3_next 30 = .ok (.aload_n 0, 1) := by decide +kernel
theorem dX3_next_31 : decode cX3_next 31 = .ok (.iconst 4, 1) := by decide +kernel
theorem dX3_next_32 : decode cX3_next 32 = .ok (.invokevirtual 48, 3) := by decide +kernel
theorem dX3_next_35 : decode cX3_next 35 = .ok (.ireturn, 1) := by decide +kernel
theorem dX3_next_36 : decode cX3_next 36 = .ok (.aload_n 0, 1) := by decide +kernel
theorem dX3_next_37 : decode cX3_next 37 = .ok (.getfield 16, 3) := by decide +kernel
theorem dX3_next_40 : decode cX3_next 40 = .ok (.aload_n 0, 1) := by decide +kernel
theorem dX3_next_41 : decode cX3_next 41 = .ok (.getfield 10, 3) := by decide +kernel
theorem dX3_next_44 : decode cX3_next 44 = .ok (.invokevirtual 131, 3) := by decide +kernel
theorem dX3_next_47 : decode cX3_next 47 = .ok (.aload_n 0, 1) := by decide +kernel
theorem dX3_next_48 : decode cX3_next 48 = .ok (.getfield 16, 3) := by decide +kernel
theorem dX3_next_51 : decode cX3_next 51 = .ok (.invokevirtual 175, 3) := by decide +kernel
theorem dX3_next_54 : decode cX3_next 54 = .ok (.aload_n 0, 1) := by decide +kernel
theorem dX3_next_55 : decode cX3_next 55 = .ok (.getfield 16, 3) := by decide +kernel
theorem dX3_next_58 : decode cX3_next 58 = .ok (.invokevirtual 128, 3) := by decide +kernel
theorem dX3_next_61 : decode cX3_next 61 = .ok (.pop, 1) := by decide +kernel
theorem dX3_next_62 : decode cX3_next 62 = .ok (.aload_n 0, 1) := by decide +kernel
theorem dX3_next_63 : decode cX3_next 63 = .ok (.getfield 16, 3) := by decide +kernel
theorem dX3_next_66 : decode cX3_next 66 = .ok (.getfield 119, 3) := by decide +kernel
theorem dX3_next_69 : decode cX3_next 69 = .ok (.iload_n 1, 1) := by decide +kernel
theorem dX3_next_70 : decode cX3_next 70 = .ok (.iaload, 1) := by decide +kernel
theorem dX3_next_71 : decode cX3_next 71 = .ok (.ireturn, 1) := by decide +kernel
theorem dX3_loaves_0 : decode cX3_loaves 0 = .ok (.aload_n 0, 1) := by decide +kernel
theorem dX3_loaves_1 : decode cX3_loaves 1 = .ok (.iconst 0, 1) := by decide +kernel
theorem dX3_loaves_2 : decode cX3_loaves 2 = .ok (.iload_n 1, 1) := by decide +kernel
theorem dX3_loaves_3 : decode cX3_loaves 3 = .ok (.invokevirtual 178, 3) := by decide +kernel
theorem dX3_loaves_6 : decode cX3_loaves 6 = .ok (.ireturn, 1) := by decide +kernel
theorem dX3_cheapest_0 : decode cX3_cheapest 0 = .ok (.aload_n 0, 1) := by decide +kernel
theorem dX3_cheapest_1 : decode cX3_cheapest 1 = .ok (.iload_n 1, 1) := by decide +kernel
theorem dX3_cheapest_2 : decode cX3_cheapest 2 = .ok (.invokevirtual 159, 3) := by decide +kernel
theorem dX3_cheapest_5 : decode cX3_cheapest 5 = .ok (.istore_n 2, 1) := by decide +kernel
theorem dX3_cheapest_6 : decode cX3_cheapest 6 = .ok (.iload_n 2, 1) := by decide +kernel
theorem dX3_cheapest_7 : decode cX3_cheapest 7 = .ok (.iconst (-1), 1) := by decide +kernel
theorem dX3_cheapest_8 : decode cX3_cheapest 8 = .ok (.if_icmp .eq 9, 3) := by decide +kernel
theorem dX3_cheapest_11 : decode cX3_cheapest 11 = .ok (.aload_n 0, 1) := by decide +kernel
theorem dX3_cheapest_12 : decode cX3_cheapest 12 = .ok (.iload_n 2, 1) := by decide +kernel
theorem dX3_cheapest_13 : decode cX3_cheapest 13 = .ok (.invokevirtual 48, 3) := by decide +kernel
theorem dX3_cheapest_16 : decode cX3_cheapest 16 = .ok (.ireturn, 1) := by decide +kernel
theorem dX3_cheapest_17 : decode cX3_cheapest 17 = .ok (.bipush 50, 2) := by decide +kernel
theorem dX3_cheapest_19 : decode cX3_cheapest 19 = .ok (.istore_n 3, 1) := by decide +kernel
theorem dX3_cheapest_20 : decode cX3_cheapest 20 = .ok (.iconst 0, 1) := by decide +kernel
theorem dX3_cheapest_21 : decode cX3_cheapest 21 = .ok (.istore 4, 2) := by decide +kernel
theorem dX3_cheapest_23 : decode cX3_cheapest 23 = .ok (.iload 4, 2) := by decide +kernel
theorem dX3_cheapest_25 : decode cX3_cheapest 25 = .ok (.iload_n 3, 1) := by decide +kernel
theorem dX3_cheapest_26 : decode cX3_cheapest 26 = .ok (.if_icmp .gt 92, 3) := by decide +kernel
theorem dX3_cheapest_29 : decode cX3_cheapest 29 = .ok (.iconst 0, 1) := by decide +kernel
theorem dX3_cheapest_30 : decode cX3_cheapest 30 = .ok (.istore 5, 2) := by decide +kernel
theorem dX3_cheapest_32 : decode cX3_cheapest 32 = .ok (.iload 5, 2) := by decide +kernel
theorem dX3_cheapest_34 : decode cX3_cheapest 34 = .ok (.bipush 10, 2) := by decide +kernel
theorem dX3_cheapest_36 : decode cX3_cheapest 36 = .ok (.if_icmp .gt 76, 3) := by decide +kernel
theorem dX3_cheapest_39 : decode cX3_cheapest 39 = .ok (.iload 4, 2) := by decide +kernel
theorem dX3_cheapest_41 : decode cX3_cheapest 41 = .ok (.iconst 3, 1) := by decide +kernel
theorem dX3_cheapest_42 : decode cX3_cheapest 42 = .ok (.iload 5, 2) := by decide +kernel
theorem dX3_cheapest_44 : decode cX3_cheapest 44 = .ok (.imul, 1) := by decide +kernel
theorem dX3_cheapest_45 : decode cX3_cheapest 45 = .ok (.isub, 1) := by decide +kernel
theorem dX3_cheapest_46 : decode cX3_cheapest 46 = .ok (.istore 6, 2) := by decide +kernel
theorem dX3_cheapest_48 : decode cX3_cheapest 48 = .ok (.iload 6, 2) := by decide +kernel
theorem dX3_cheapest_50 : decode cX3_cheapest 50 = .ok (.ifCond .lt 23, 3) := by decide +kernel
theorem dX3_cheapest_53 : decode cX3_cheapest 53 = .ok (.iload 6, 2) := by decide +kernel
theorem dX3_cheapest_55 : decode cX3_cheapest 55 = .ok (.iconst 2, 1) := by decide +kernel
theorem dX3_cheapest_56 : decode cX3_cheapest 56 = .ok (.irem, 1) := by decide +kernel
theorem dX3_cheapest_57 : decode cX3_cheapest 57 = .ok (.ifCond .ne 16, 3) := by decide +kernel
theorem dX3_cheapest_60 : decode cX3_cheapest 60 = .ok (.iload 6, 2) := by decide +kernel
theorem dX3_cheapest_62 : decode cX3_cheapest 62 = .ok (.iconst 2, 1) := by decide +kernel
theorem dX3_cheapest_63 : decode cX3_cheapest 63 = .ok (.idiv, 1) := by decide +kernel
theorem dX3_cheapest_64 : decode cX3_cheapest 64 = .ok (.bipush 10, 2) := by decide +kernel
theorem dX3_cheapest_66 : decode cX3_cheapest 66 = .ok (.if_icmp .gt 7, 3) := by decide +kernel
theorem dX3_cheapest_69 : decode cX3_cheapest 69 = .ok (.iconst 1, 1) := by decide +kernel
theorem dX3_cheapest_70 : decode cX3_cheapest 70 = .ok (.goto 4, 3) := by decide +kernel
theorem dX3_cheapest_73 : decode cX3_cheapest 73 = .ok (.iconst 0, 1) := by decide +kernel
theorem dX3_cheapest_74 : decode cX3_cheapest 74 = .ok (.istore 7, 2) := by decide +kernel
theorem dX3_cheapest_76 : decode cX3_cheapest 76 = .ok (.iload 7, 2) := by decide +kernel
theorem dX3_cheapest_78 : decode cX3_cheapest 78 = .ok (.ifCond .eq 28, 3) := by decide +kernel
theorem dX3_cheapest_81 : decode cX3_cheapest 81 = .ok (.aload_n 0, 1) := by decide +kernel
theorem dX3_cheapest_82 : decode cX3_cheapest 82 = .ok (.iload 5, 2) := by decide +kernel
theorem dX3_cheapest_84 : decode cX3_cheapest 84 = .ok (.iload 6, 2) := by decide +kernel
theorem dX3_cheapest_86 : decode cX3_cheapest 86 = .ok (.iconst 2, 1) := by decide +kernel
theorem dX3_cheapest_87 : decode cX3_cheapest 87 = .ok (.idiv, 1) := by decide +kernel
theorem dX3_cheapest_88 : decode cX3_cheapest 88 = .ok (.iload_n 1, 1) := by decide +kernel
theorem dX3_cheapest_89 : decode cX3_cheapest 89 = .ok (.invokevirtual 181, 3) := by decide +kernel
theorem dX3_cheapest_92 : decode cX3_cheapest 92 = .ok (.ifCond .eq 14, 3) := by decide +kernel
theorem dX3_cheapest_95 : decode cX3_cheapest 95 = .ok (.bipush 100, 2) := by decide +kernel
theorem dX3_cheapest_97 : decode cX3_cheapest 97 = .ok (.iload 5, 2) := by decide +kernel
theorem dX3_cheapest_99 : decode cX3_cheapest 99 = .ok (.imul, 1) := by decide +kernel
theorem dX3_cheapest_100 : decode cX3_cheapest 100 = .ok (.iload 6, 2) := by decide +kernel
theorem dX3_cheapest_102 : decode cX3_cheapest 102 = .ok (.iconst 2, 1) := by decide +kernel
theorem dX3_cheapest_103 : decode cX3_cheapest 103 = .ok (.idiv, 1) := by decide +kernel
theorem dX3_cheapest_104 : decode cX3_cheapest 104 = .ok (.iadd, 1) := by decide +kernel
theorem dX3_cheapest_105 : decode cX3_cheapest 105 = .ok (.ireturn, 1) := by decide +kernel
theorem dX3_cheapest_106 : decode cX3_cheapest 106 = .ok (.iinc 5 1, 3) := by decide +kernel
theorem dX3_cheapest_109 : decode cX3_cheapest 109 = .ok (.goto (-77), 3) := by decide +kernel
theorem dX3_cheapest_112 : decode cX3_cheapest 112 = .ok (.iinc 4 1, 3) := by decide +kernel
theorem dX3_cheapest_115 : decode cX3_cheapest 115 = .ok (.goto (-92), 3) := by decide +kernel
theorem dX3_cheapest_118 : decode cX3_cheapest 118 = .ok (.aload_n 0, 1) := by decide +kernel
theorem dX3_cheapest_119 : decode cX3_cheapest 119 = .ok (.iconst 3, 1) := by decide +kernel
theorem dX3_cheapest_120 : decode cX3_cheapest 120 = .ok (.invokevirtual 48, 3) := by decide +kernel
theorem dX3_cheapest_123 : decode cX3_cheapest 123 = .ok (.ireturn, 1) := by decide +kernel
theorem dX3_leader_0 : decode cX3_leader 0 = .ok (.aload_n 0, 1) := by decide +kernel
theorem dX3_leader_1 : decode cX3_leader 1 = .ok (.iload_n 1, 1) := by decide +kernel
theorem dX3_leader_2 : decode cX3_leader 2 = .ok (.invokevirtual 159, 3) := by decide +kernel
theorem dX3_leader_5 : decode cX3_leader 5 = .ok (.istore_n 2, 1) := by decide +kernel
theorem dX3_leader_6 : decode cX3_leader 6 = .ok (.iload_n 2, 1) := by decide +kernel
theorem dX3_leader_7 : decode cX3_leader 7 = .ok (.iconst (-1), 1) := by decide +kernel
theorem dX3_leader_8 : decode cX3_leader 8 = .ok (.if_icmp .eq 9, 3) := by decide +kernel
theorem dX3_leader_11 : decode cX3_leader 11 = .ok (.aload_n 0, 1) := by decide +kernel
theorem dX3_leader_12 : decode cX3_leader 12 = .ok (.iload_n 2, 1) := by decide +kernel
theorem dX3_leader_13 : decode cX3_leader 13 = .ok (.invokevirtual 48, 3) := by decide +kernel
theorem dX3_leader_16 : decode cX3_leader 16 = .ok (.ireturn, 1) := by decide +kernel
theorem dX3_leader_17 : decode cX3_leader 17 = .ok (.iconst 0, 1) := by decide +kernel
theorem dX3_leader_18 : decode cX3_leader 18 = .ok (.istore_n 3, 1) := by decide +kernel
theorem dX3_leader_19 : decode cX3_leader 19 = .ok (.iconst (-1), 1) := by decide +kernel
theorem dX3_leader_20 : decode cX3_leader 20 = .ok (.istore 4, 2) := by decide +kernel
theorem dX3_leader_22 : decode cX3_leader 22 = .ok (.iconst 0, 1) := by decide +kernel
theorem dX3_leader_23 : decode cX3_leader 23 = .ok (.istore 5, 2) := by decide +kernel
theorem dX3_leader_25 : decode cX3_leader 25 = .ok (.iload 5, 2) := by decide +kernel
theorem dX3_leader_27 : decode cX3_leader 27 = .ok (.iconst 4, 1) := by decide +kernel
theorem dX3_leader_28 : decode cX3_leader 28 = .ok (.if_icmp .ge 68, 3) := by decide +kernel
theorem dX3_leader_31 : decode cX3_leader 31 = .ok (.aload_n 0, 1) := by decide +kernel
theorem dX3_leader_32 : decode cX3_leader 32 = .ok (.getfield 16, 3) := by decide +kernel
theorem dX3_leader_35 : decode cX3_leader 35 = .ok (.aload_n 0, 1) := by decide +kernel
theorem dX3_leader_36 : decode cX3_leader 36 = .ok (.getfield 10, 3) := by decide +kernel
theorem dX3_leader_39 : decode cX3_leader 39 = .ok (.invokevirtual 131, 3) := by decide +kernel
theorem dX3_leader_42 : decode cX3_leader 42 = .ok (.aload_n 0, 1) := by decide +kernel
theorem dX3_leader_43 : decode cX3_leader 43 = .ok (.getfield 16, 3) := by decide +kernel
theorem dX3_leader_46 : decode cX3_leader 46 = .ok (.iload 5, 2) := by decide +kernel
theorem dX3_leader_48 : decode cX3_leader 48 = .ok (.putfield 103, 3) := by decide +kernel
theorem dX3_leader_51 : decode cX3_leader 51 = .ok (.aload_n 0, 1) := by decide +kernel
theorem dX3_leader_52 : decode cX3_leader 52 = .ok (.getfield 16, 3) := by decide +kernel
theorem dX3_leader_55 : decode cX3_leader 55 = .ok (.iload_n 1, 1) := by decide +kernel
theorem dX3_leader_56 : decode cX3_leader 56 = .ok (.invokevirtual 162, 3) := by decide +kernel
theorem dX3_leader_59 : decode cX3_leader 59 = .ok (.pop, 1) := by decide +kernel
theorem dX3_leader_60 : decode cX3_leader 60 = .ok (.aload_n 0, 1) := by decide +kernel
theorem dX3_leader_61 : decode cX3_leader 61 = .ok (.getfield 16, 3) := by decide +kernel
theorem dX3_leader_64 : decode cX3_leader 64 = .ok (.aload_n 0, 1) := by decide +kernel
theorem dX3_leader_65 : decode cX3_leader 65 = .ok (.getfield 16, 3) := by decide +kernel
theorem dX3_leader_68 : decode cX3_leader 68 = .ok (.getfield 63, 3) := by decide +kernel
theorem dX3_leader_71 : decode cX3_leader 71 = .ok (.invokevirtual 168, 3) := by decide +kernel
theorem dX3_leader_74 : decode cX3_leader 74 = .ok (.istore 6, 2) := by decide +kernel
theorem dX3_leader_76 : decode cX3_leader 76 = .ok (.iload 6, 2) := by decide +kernel
theorem dX3_leader_78 : decode cX3_leader 78 = .ok (.iload 4, 2) := by decide +kernel
theorem dX3_leader_80 : decode cX3_leader 80 = .ok (.if_icmp .le 10, 3) := by decide +kernel
theorem dX3_leader_83 : decode cX3_leader 83 = .ok (.iload 6, 2) := by decide +kernel
theorem dX3_leader_85 : decode cX3_leader 85 = .ok (.istore 4, 2) := by decide +kernel
theorem dX3_leader_87 : decode cX3_leader 87 = .ok (.iload 5, 2) := by decide +kernel
theorem dX3_leader_89 : decode cX3_leader 89 = .ok (.istore_n 3, 1) := by decide +kernel
theorem dX3_leader_90 : decode cX3_leader 90 = .ok (.iinc 5 1, 3) := by decide +kernel
theorem dX3_leader_93 : decode cX3_leader 93 = .ok (.goto (-68), 3) := by decide +kernel
theorem dX3_leader_96 : decode cX3_leader 96 = .ok (.iload_n 3, 1) := by decide +kernel
theorem dX3_leader_97 : decode cX3_leader 97 = .ok (.ireturn, 1) := by decide +kernel
theorem dX3_colourFor_0 : decode cX3_colourFor 0 = .ok (.aload_n 0, 1) := by decide +kernel
theorem dX3_colourFor_1 : decode cX3_colourFor 1 = .ok (.iload_n 1, 1) := by decide +kernel
theorem dX3_colourFor_2 : decode cX3_colourFor 2 = .ok (.iconst 2, 1) := by decide +kernel
theorem dX3_colourFor_3 : decode cX3_colourFor 3 = .ok (.iconst 4, 1) := by decide +kernel
theorem dX3_colourFor_4 : decode cX3_colourFor 4 = .ok (.iload_n 2, 1) := by decide +kernel
theorem dX3_colourFor_5 : decode cX3_colourFor 5 = .ok (.invokevirtual 184, 3) := by decide +kernel
theorem dX3_colourFor_8 : decode cX3_colourFor 8 = .ok (.ireturn, 1) := by decide +kernel
theorem dX3_kindFor_0 : decode cX3_kindFor 0 = .ok (.aload_n 0, 1) := by decide +kernel
theorem dX3_kindFor_1 : decode cX3_kindFor 1 = .ok (.iload_n 1, 1) := by decide +kernel
theorem dX3_kindFor_2 : decode cX3_kindFor 2 = .ok (.iconst 0, 1) := by decide +kernel
theorem dX3_kindFor_3 : decode cX3_kindFor 3 = .ok (.bipush 7, 2) := by decide +kernel
theorem dX3_kindFor_5 : decode cX3_kindFor 5 = .ok (.iload_n 2, 1) := by decide +kernel
theorem dX3_kindFor_6 : decode cX3_kindFor 6 = .ok (.invokevirtual 184, 3) := by decide +kernel
theorem dX3_kindFor_9 : decode cX3_kindFor 9 = .ok (.ireturn, 1) := by decide +kernel
theorem dX3_stale_0 : decode cX3_stale 0 = .ok (.aload_n 0, 1) := by decide +kernel
theorem dX3_stale_1 : decode cX3_stale 1 = .ok (.iload_n 1, 1) := by decide +kernel
theorem dX3_stale_2 : decode cX3_stale 2 = .ok (.invokevirtual 159, 3) := by decide +kernel
theorem dX3_stale_5 : decode cX3_stale 5 = .ok (.istore_n 2, 1) := by decide +kernel
theorem dX3_stale_6 : decode cX3_stale 6 = .ok (.iload_n 2, 1) := by decide +kernel
theorem dX3_stale_7 : decode cX3_stale 7 = .ok (.iconst (-1), 1) := by decide +kernel
theorem dX3_stale_8 : decode cX3_stale 8 = .ok (.if_icmp .eq 9, 3) := by decide +kernel
theorem dX3_stale_11 : decode cX3_stale 11 = .ok (.aload_n 0, 1) := by decide +kernel
theorem dX3_stale_12 : decode cX3_stale 12 = .ok (.iload_n 2, 1) := by decide +kernel
theorem dX3_stale_13 : decode cX3_stale 13 = .ok (.invokevirtual 48, 3) := by decide +kernel
theorem dX3_stale_16 : decode cX3_stale 16 = .ok (.ireturn, 1) := by decide +kernel
theorem dX3_stale_17 : decode cX3_stale 17 = .ok (.aload_n 0, 1) := by decide +kernel
theorem dX3_stale_18 : decode cX3_stale 18 = .ok (.getfield 16, 3) := by decide +kernel
theorem dX3_stale_21 : decode cX3_stale 21 = .ok (.aload_n 0, 1) := by decide +kernel
theorem dX3_stale_22 : decode cX3_stale 22 = .ok (.getfield 10, 3) := by decide +kernel
theorem dX3_stale_25 : decode cX3_stale 25 = .ok (.invokevirtual 131, 3) := by decide +kernel
theorem dX3_stale_28 : decode cX3_stale 28 = .ok (.aload_n 0, 1) := by decide +kernel
theorem dX3_stale_29 : decode cX3_stale 29 = .ok (.getfield 16, 3) := by decide +kernel
theorem dX3_stale_32 : decode cX3_stale 32 = .ok (.iload_n 1, 1) := by decide +kernel
theorem dX3_stale_33 : decode cX3_stale 33 = .ok (.invokevirtual 162, 3) := by decide +kernel
theorem dX3_stale_36 : decode cX3_stale 36 = .ok (.pop, 1) := by decide +kernel
theorem dX3_stale_37 : decode cX3_stale 37 = .ok (.aload_n 0, 1) := by decide +kernel
theorem dX3_stale_38 : decode cX3_stale 38 = .ok (.getfield 16, 3) := by decide +kernel
theorem dX3_stale_41 : decode cX3_stale 41 = .ok (.getfield 100, 3) := by decide +kernel
theorem dX3_stale_44 : decode cX3_stale 44 = .ok (.istore_n 3, 1) := by decide +kernel
theorem dX3_stale_45 : decode cX3_stale 45 = .ok (.aload_n 0, 1) := by decide +kernel
theorem dX3_stale_46 : decode cX3_stale 46 = .ok (.getfield 16, 3) := by decide +kernel
theorem dX3_stale_49 : decode cX3_stale 49 = .ok (.aload_n 0, 1) := by decide +kernel
theorem dX3_stale_50 : decode cX3_stale 50 = .ok (.getfield 10, 3) := by decide +kernel
theorem dX3_stale_53 : decode cX3_stale 53 = .ok (.invokevirtual 131, 3) := by decide +kernel
theorem dX3_stale_56 : decode cX3_stale 56 = .ok (.aload_n 0, 1) := by decide +kernel
theorem dX3_stale_57 : decode cX3_stale 57 = .ok (.getfield 16, 3) := by decide +kernel
theorem dX3_stale_60 : decode cX3_stale 60 = .ok (.iconst 1, 1) := by decide +kernel
theorem dX3_stale_61 : decode cX3_stale 61 = .ok (.aload_n 0, 1) := by decide +kernel
theorem dX3_stale_62 : decode cX3_stale 62 = .ok (.getfield 10, 3) := by decide +kernel
theorem dX3_stale_65 : decode cX3_stale 65 = .ok (.getfield 188, 3) := by decide +kernel
theorem dX3_stale_68 : decode cX3_stale 68 = .ok (.isub, 1) := by decide +kernel
theorem dX3_stale_69 : decode cX3_stale 69 = .ok (.putfield 188, 3) := by decide +kernel
theorem dX3_stale_72 : decode cX3_stale 72 = .ok (.aload_n 0, 1) := by decide +kernel
theorem dX3_stale_73 : decode cX3_stale 73 = .ok (.getfield 16, 3) := by decide +kernel
theorem dX3_stale_76 : decode cX3_stale 76 = .ok (.iload_n 1, 1) := by decide +kernel
theorem dX3_stale_77 : decode cX3_stale 77 = .ok (.invokevirtual 162, 3) := by decide +kernel
theorem dX3_stale_80 : decode cX3_stale 80 = .ok (.pop, 1) := by decide +kernel
theorem dX3_stale_81 : decode cX3_stale 81 = .ok (.aload_n 0, 1) := by decide +kernel
theorem dX3_stale_82 : decode cX3_stale 82 = .ok (.getfield 16, 3) := by decide +kernel
theorem dX3_stale_85 : decode cX3_stale 85 = .ok (.getfield 100, 3) := by decide +kernel
theorem dX3_stale_88 : decode cX3_stale 88 = .ok (.iload_n 3, 1) := by decide +kernel
theorem dX3_stale_89 : decode cX3_stale 89 = .ok (.isub, 1) := by decide +kernel
theorem dX3_stale_90 : decode cX3_stale 90 = .ok (.ireturn, 1) := by decide +kernel
theorem dX3_bound_0 : decode cX3_bound 0 = .ok (.aload_n 0, 1) := by decide +kernel
theorem dX3_bound_1 : decode cX3_bound 1 = .ok (.iconst 2, 1) := by decide +kernel
theorem dX3_bound_2 : decode cX3_bound 2 = .ok (.iload_n 1, 1) := by decide +kernel
theorem dX3_bound_3 : decode cX3_bound 3 = .ok (.invokevirtual 178, 3) := by decide +kernel
theorem dX3_bound_6 : decode cX3_bound 6 = .ok (.ireturn, 1) := by decide +kernel
theorem dX3_law_0 : decode cX3_law 0 = .ok (.iload_n 1, 1) := by decide +kernel
theorem dX3_law_1 : decode cX3_law 1 = .ok (.invokestatic 44, 3) := by decide +kernel
theorem dX3_law_4 : decode cX3_law 4 = .ok (.ifCond .eq 11, 3) := by decide +kernel
theorem dX3_law_7 : decode cX3_law 7 = .ok (.aload_n 0, 1) := by decide +kernel
theorem dX3_law_8 : decode cX3_law 8 = .ok (.iload_n 2, 1) := by decide +kernel
theorem dX3_law_9 : decode cX3_law 9 = .ok (.invokevirtual 159, 3) := by decide +kernel
theorem dX3_law_12 : decode cX3_law 12 = .ok (.goto 4, 3) := by decide +kernel
theorem dX3_law_15 : decode cX3_law 15 = .ok (.iconst 0, 1) := by decide +kernel
theorem dX3_law_16 : decode cX3_law 16 = .ok (.istore_n 3, 1) := by decide +kernel
theorem dX3_law_17 : decode cX3_law 17 = .ok (.iload_n 3, 1) := by decide +kernel
theorem dX3_law_18 : decode cX3_law 18 = .ok (.iconst (-1), 1) := by decide +kernel
theorem dX3_law_19 : decode cX3_law 19 = .ok (.if_icmp .eq 9, 3) := by decide +kernel
theorem dX3_law_22 : decode cX3_law 22 = .ok (.aload_n 0, 1) := by decide +kernel
theorem dX3_law_23 : decode cX3_law 23 = .ok (.iload_n 3, 1) := by decide +kernel
theorem dX3_law_24 : decode cX3_law 24 = .ok (.invokevirtual 48, 3) := by decide +kernel
theorem dX3_law_27 : decode cX3_law 27 = .ok (.ireturn, 1) := by decide +kernel
theorem dX3_law_28 : decode cX3_law 28 = .ok (.aload_n 0, 1) := by decide +kernel
theorem dX3_law_29 : decode cX3_law 29 = .ok (.getfield 16, 3) := by decide +kernel
theorem dX3_law_32 : decode cX3_law 32 = .ok (.aload_n 0, 1) := by decide +kernel
theorem dX3_law_33 : decode cX3_law 33 = .ok (.getfield 10, 3) := by decide +kernel
theorem dX3_law_36 : decode cX3_law 36 = .ok (.invokevirtual 131, 3) := by decide +kernel
theorem dX3_law_39 : decode cX3_law 39 = .ok (.aload_n 0, 1) := by decide +kernel
theorem dX3_law_40 : decode cX3_law 40 = .ok (.getfield 16, 3) := by decide +kernel
theorem dX3_law_43 : decode cX3_law 43 = .ok (.iload_n 2, 1) := by decide +kernel
theorem dX3_law_44 : decode cX3_law 44 = .ok (.invokevirtual 162, 3) := by decide +kernel
theorem dX3_law_47 : decode cX3_law 47 = .ok (.istore 4, 2) := by decide +kernel
theorem dX3_law_49 : decode cX3_law 49 = .ok (.aload_n 0, 1) := by decide +kernel
theorem dX3_law_50 : decode cX3_law 50 = .ok (.getfield 16, 3) := by decide +kernel
theorem dX3_law_53 : decode cX3_law 53 = .ok (.aload_n 0, 1) := by decide +kernel
theorem dX3_law_54 : decode cX3_law 54 = .ok (.getfield 10, 3) := by decide +kernel
theorem dX3_law_57 : decode cX3_law 57 = .ok (.invokevirtual 131, 3) := by decide +kernel
theorem dX3_law_60 : decode cX3_law 60 = .ok (.iconst 0, 1) := by decide +kernel
theorem dX3_law_61 : decode cX3_law 61 = .ok (.istore 5, 2) := by decide +kernel
theorem dX3_law_63 : decode cX3_law 63 = .ok (.iload 5, 2) := by decide +kernel
theorem dX3_law_65 : decode cX3_law 65 = .ok (.aload_n 0, 1) := by decide +kernel
theorem dX3_law_66 : decode cX3_law 66 = .ok (.getfield 16, 3) := by decide +kernel
theorem dX3_law_69 : decode cX3_law 69 = .ok (.getfield 52, 3) := by decide +kernel
theorem dX3_law_72 : decode cX3_law 72 = .ok (.if_icmp .ge 20, 3) := by decide +kernel
theorem dX3_law_75 : decode cX3_law 75 = .ok (.aload_n 0, 1) := by decide +kernel
theorem dX3_law_76 : decode cX3_law 76 = .ok (.getfield 16, 3) := by decide +kernel
theorem dX3_law_79 : decode cX3_law 79 = .ok (.getfield 191, 3) := by decide +kernel
theorem dX3_law_82 : decode cX3_law 82 = .ok (.iload 5, 2) := by decide +kernel
theorem dX3_law_84 : decode cX3_law 84 = .ok (.iload_n 1, 1) := by decide +kernel
theorem dX3_law_85 : decode cX3_law 85 = .ok (.iastore, 1) := by decide +kernel
theorem dX3_law_86 : decode cX3_law 86 = .ok (.iinc 5 1, 3) := by decide +kernel
theorem dX3_law_89 : decode cX3_law 89 = .ok (.goto (-26), 3) := by decide +kernel
theorem dX3_law_92 : decode cX3_law 92 = .ok (.iload 4, 2) := by decide +kernel
theorem dX3_law_94 : decode cX3_law 94 = .ok (.aload_n 0, 1) := by decide +kernel
theorem dX3_law_95 : decode cX3_law 95 = .ok (.getfield 16, 3) := by decide +kernel
theorem dX3_law_98 : decode cX3_law 98 = .ok (.iload_n 2, 1) := by decide +kernel
theorem dX3_law_99 : decode cX3_law 99 = .ok (.invokevirtual 162, 3) := by decide +kernel
theorem dX3_law_102 : decode cX3_law 102 = .ok (.isub, 1) := by decide +kernel
theorem dX3_law_103 : decode cX3_law 103 = .ok (.ireturn, 1) := by decide +kernel
theorem dX3_ways_0 : decode cX3_ways 0 = .ok (.aload_n 0, 1) := by decide +kernel
theorem dX3_ways_1 : decode cX3_ways 1 = .ok (.iconst 0, 1) := by decide +kernel
theorem dX3_ways_2 : decode cX3_ways 2 = .ok (.iconst 0, 1) := by decide +kernel
theorem dX3_ways_3 : decode cX3_ways 3 = .ok (.invokevirtual 194, 3) := by decide +kernel
theorem dX3_ways_6 : decode cX3_ways 6 = .ok (.lreturn, 1) := by decide +kernel
theorem dX3_eats_0 : decode cX3_eats 0 = .ok (.aload_n 0, 1) := by decide +kernel
theorem dX3_eats_1 : decode cX3_eats 1 = .ok (.getfield 10, 3) := by decide +kernel
theorem dX3_eats_4 : decode cX3_eats 4 = .ok (.iload_n 1, 1) := by decide +kernel
theorem dX3_eats_5 : decode cX3_eats 5 = .ok (.invokevirtual 60, 3) := by decide +kernel
theorem dX3_eats_8 : decode cX3_eats 8 = .ok (.ifCond .eq 12, 3) := by decide +kernel
theorem dX3_eats_11 : decode cX3_eats 11 = .ok (.aload_n 0, 1) := by decide +kernel
theorem dX3_eats_12 : decode cX3_eats 12 = .ok (.iconst 1, 1) := by decide +kernel
theorem dX3_eats_13 : decode cX3_eats 13 = .ok (.iload_n 1, 1) := by decide +kernel
theorem dX3_eats_14 : decode cX3_eats 14 = .ok (.invokevirtual 194, 3) := by decide +kernel
theorem dX3_eats_17 : decode cX3_eats 17 = .ok (.goto 9, 3) := by decide +kernel
theorem dX3_eats_20 : decode cX3_eats 20 = .ok (.aload_n 0, 1) := by decide +kernel
theorem dX3_eats_21 : decode cX3_eats 21 = .ok (.iconst 0, 1) := by decide +kernel
theorem dX3_eats_22 : decode cX3_eats 22 = .ok (.invokevirtual 48, 3) := by decide +kernel
theorem dX3_eats_25 : decode cX3_eats 25 = .ok (.i2l, 1) := by decide +kernel
theorem dX3_eats_26 : decode cX3_eats 26 = .ok (.lreturn, 1) := by decide +kernel
theorem dX3_busy_0 : decode cX3_busy 0 = .ok (.iload_n 1, 1) := by decide +kernel
theorem dX3_busy_1 : decode cX3_busy 1 = .ok (.ifCond .lt 18, 3) := by decide +kernel
theorem dX3_busy_4 : decode cX3_busy 4 = .ok (.iload_n 1, 1) := by decide +kernel
theorem dX3_busy_5 : decode cX3_busy 5 = .ok (.bipush 30, 2) := by decide +kernel
theorem dX3_busy_7 : decode cX3_busy 7 = .ok (.if_icmp .gt 12, 3) := by decide +kernel
theorem dX3_busy_10 : decode cX3_busy 10 = .ok (.aload_n 0, 1) := by decide +kernel
theorem dX3_busy_11 : decode cX3_busy 11 = .ok (.iconst 2, 1) := by decide +kernel
theorem dX3_busy_12 : decode cX3_busy 12 = .ok (.iload_n 1, 1) := by decide +kernel
theorem dX3_busy_13 : decode cX3_busy 13 = .ok (.invokevirtual 194, 3) := by decide +kernel
theorem dX3_busy_16 : decode cX3_busy 16 = .ok (.goto 9, 3) := by decide +kernel
theorem dX3_busy_19 : decode cX3_busy 19 = .ok (.aload_n 0, 1) := by decide +kernel
theorem dX3_busy_20 : decode cX3_busy 20 = .ok (.iconst 0, 1) := by decide +kernel
theorem dX3_busy_21 : decode cX3_busy 21 = .ok (.invokevirtual 48, 3) := by decide +kernel
theorem dX3_busy_24 : decode cX3_busy 24 = .ok (.i2l, 1) := by decide +kernel
theorem dX3_busy_25 : decode cX3_busy 25 = .ok (.lreturn, 1) := by decide +kernel
theorem dX3_famine_0 : decode cX3_famine 0 = .ok (.iload_n 1, 1) := by decide +kernel
theorem dX3_famine_1 : decode cX3_famine 1 = .ok (.iconst 1, 1) := by decide +kernel
theorem dX3_famine_2 : decode cX3_famine 2 = .ok (.if_icmp .lt 9, 3) := by decide +kernel
theorem dX3_famine_5 : decode cX3_famine 5 = .ok (.iload_n 1, 1) := by decide +kernel
theorem dX3_famine_6 : decode cX3_famine 6 = .ok (.bipush 12, 2) := by decide +kernel
theorem dX3_famine_8 : decode cX3_famine 8 = .ok (.if_icmp .le 9, 3) := by decide +kernel
theorem dX3_famine_11 : decode cX3_famine 11 = .ok (.aload_n 0, 1) := by decide +kernel
theorem dX3_famine_12 : decode cX3_famine 12 = .ok (.iconst 0, 1) := by decide +kernel
theorem dX3_famine_13 : decode cX3_famine 13 = .ok (.invokevirtual 48, 3) := by decide +kernel
theorem dX3_famine_16 : decode cX3_famine 16 = .ok (.ireturn, 1) := by decide +kernel
theorem dX3_famine_17 : decode cX3_famine 17 = .ok (.aload_n 0, 1) := by decide +kernel
theorem dX3_famine_18 : decode cX3_famine 18 = .ok (.getfield 10, 3) := by decide +kernel
theorem dX3_famine_21 : decode cX3_famine 21 = .ok (.getfield 52, 3) := by decide +kernel
theorem dX3_famine_24 : decode cX3_famine 24 = .ok (.ifCond .ne 9, 3) := by decide +kernel
theorem dX3_famine_27 : decode cX3_famine 27 = .ok (.aload_n 0, 1) := by decide +kernel
theorem dX3_famine_28 : decode cX3_famine 28 = .ok (.iconst 4, 1) := by decide +kernel
theorem dX3_famine_29 : decode cX3_famine 29 = .ok (.invokevirtual 48, 3) := by decide +kernel
theorem dX3_famine_32 : decode cX3_famine 32 = .ok (.ireturn, 1) := by decide +kernel
theorem dX3_famine_33 : decode cX3_famine 33 = .ok (.iconst 0, 1) := by decide +kernel
theorem dX3_famine_34 : decode cX3_famine 34 = .ok (.istore_n 2, 1) := by decide +kernel
theorem dX3_famine_35 : decode cX3_famine 35 = .ok (.iload_n 2, 1) := by decide +kernel
theorem dX3_famine_36 : decode cX3_famine 36 = .ok (.iload_n 1, 1) := by decide +kernel
theorem dX3_famine_37 : decode cX3_famine 37 = .ok (.if_icmp .ge 16, 3) := by decide +kernel
theorem dX3_famine_40 : decode cX3_famine 40 = .ok (.aload_n 0, 1) := by decide +kernel
theorem dX3_famine_41 : decode cX3_famine 41 = .ok (.getfield 10, 3) := by decide +kernel
theorem dX3_famine_44 : decode cX3_famine 44 = .ok (.invokevirtual 198, 3) := by decide +kernel
theorem dX3_famine_47 : decode cX3_famine 47 = .ok (.iinc 2 1, 3) := by decide +kernel
theorem dX3_famine_50 : decode cX3_famine 50 = .ok (.goto (-15), 3) := by decide +kernel
theorem dX3_famine_53 : decode cX3_famine 53 = .ok (.aload_n 0, 1) := by decide +kernel
theorem dX3_famine_54 : decode cX3_famine 54 = .ok (.getfield 10, 3) := by decide +kernel
theorem dX3_famine_57 : decode cX3_famine 57 = .ok (.invokevirtual 109, 3) := by decide +kernel
theorem dX3_famine_60 : decode cX3_famine 60 = .ok (.invokestatic 151, 3) := by decide +kernel
theorem dX3_famine_63 : decode cX3_famine 63 = .ok (.ireturn, 1) := by decide +kernel
theorem dX3_seed_0 : decode cX3_seed 0 = .ok (.aload_n 0, 1) := by decide +kernel
theorem dX3_seed_1 : decode cX3_seed 1 = .ok (.getfield 10, 3) := by decide +kernel
theorem dX3_seed_4 : decode cX3_seed 4 = .ok (.getfield 201, 3) := by decide +kernel
theorem dX3_seed_7 : decode cX3_seed 7 = .ok (.istore_n 2, 1) := by decide +kernel
theorem dX3_seed_8 : decode cX3_seed 8 = .ok (.aload_n 0, 1) := by decide +kernel
theorem dX3_seed_9 : decode cX3_seed 9 = .ok (.getfield 10, 3) := by decide +kernel
theorem dX3_seed_12 : decode cX3_seed 12 = .ok (.iload_n 1, 1) := by decide +kernel
theorem dX3_seed_13 : decode cX3_seed 13 = .ok (.putfield 201, 3) := by decide +kernel
theorem dX3_seed_16 : decode cX3_seed 16 = .ok (.iload_n 2, 1) := by decide +kernel
theorem dX3_seed_17 : decode cX3_seed 17 = .ok (.ireturn, 1) := by decide +kernel
theorem dX3_feed_0 : decode cX3_feed 0 = .ok (.iload_n 2, 1) := by decide +kernel
theorem dX3_feed_1 : decode cX3_feed 1 = .ok (.iconst 1, 1) := by decide +kernel
theorem dX3_feed_2 : decode cX3_feed 2 = .ok (.if_icmp .lt 8, 3) := by decide +kernel
theorem dX3_feed_5 : decode cX3_feed 5 = .ok (.iload_n 2, 1) := by decide +kernel
theorem dX3_feed_6 : decode cX3_feed 6 = .ok (.iconst 4, 1) := by decide +kernel
theorem dX3_feed_7 : decode cX3_feed 7 = .ok (.if_icmp .le 9, 3) := by decide +kernel
theorem dX3_feed_10 : decode cX3_feed 10 = .ok (.aload_n 0, 1) := by decide +kernel
theorem dX3_feed_11 : decode cX3_feed 11 = .ok (.iconst 0, 1) := by decide +kernel
theorem dX3_feed_12 : decode cX3_feed 12 = .ok (.invokevirtual 48, 3) := by decide +kernel
theorem dX3_feed_15 : decode cX3_feed 15 = .ok (.ireturn, 1) := by decide +kernel
theorem dX3_feed_16 : decode cX3_feed 16 = .ok (.aload_n 0, 1) := by decide +kernel
theorem dX3_feed_17 : decode cX3_feed 17 = .ok (.getfield 25, 3) := by decide +kernel
theorem dX3_feed_20 : decode cX3_feed 20 = .ok (.getfield 204, 3) := by decide +kernel
theorem dX3_feed_23 : decode cX3_feed 23 = .ok (.iload_n 2, 1) := by decide +kernel
theorem dX3_feed_24 : decode cX3_feed 24 = .ok (.iadd, 1) := by decide +kernel
theorem dX3_feed_25 : decode cX3_feed 25 = .ok (.bipush 120, 2) := by decide +kernel
theorem dX3_feed_27 : decode cX3_feed 27 = .ok (.if_icmp .le 9, 3) := by decide +kernel
theorem dX3_feed_30 : decode cX3_feed 30 = .ok (.aload_n 0, 1) := by decide +kernel
theorem dX3_feed_31 : decode cX3_feed 31 = .ok (.iconst 1, 1) := by decide +kernel
theorem dX3_feed_32 : decode cX3_feed 32 = .ok (.invokevirtual 48, 3) := by decide +kernel
theorem dX3_feed_35 : decode cX3_feed 35 = .ok (.ireturn, 1) := by decide +kernel
theorem dX3_feed_36 : decode cX3_feed 36 = .ok (.iload_n 2, 1) := by decide +kernel
theorem dX3_feed_37 : decode cX3_feed 37 = .ok (.iconst 1, 1) := by decide +kernel
theorem dX3_feed_38 : decode cX3_feed 38 = .ok (.isub, 1) := by decide +kernel
theorem dX3_feed_39 : decode cX3_feed 39 = .ok (.istore_n 3, 1) := by decide +kernel
theorem dX3_feed_40 : decode cX3_feed 40 = .ok (.iload_n 3, 1) := by decide +kernel
theorem dX3_feed_41 : decode cX3_feed 41 = .ok (.ifCond .lt 26, 3) := by decide +kernel
theorem dX3_feed_44 : decode cX3_feed 44 = .ok (.aload_n 0, 1) := by decide +kernel
theorem dX3_feed_45 : decode cX3_feed 45 = .ok (.getfield 25, 3) := by decide +kernel
theorem dX3_feed_48 : decode cX3_feed 48 = .ok (.iload_n 1, 1) := by decide +kernel
theorem dX3_feed_49 : decode cX3_feed 49 = .ok (.bipush 8, 2) := by decide +kernel
theorem dX3_feed_51 : decode cX3_feed 51 = .ok (.iload_n 3, 1) := by decide +kernel
theorem dX3_feed_52 : decode cX3_feed 52 = .ok (.imul, 1) := by decide +kernel
theorem dX3_feed_53 : decode cX3_feed 53 = .ok (.iushr, 1) := by decide +kernel
theorem dX3_feed_54 : decode cX3_feed 54 = .ok (.sipush 255, 3) := by decide +kernel
theorem dX3_feed_57 : decode cX3_feed 57 = .ok (.iand, 1) := by decide +kernel
theorem dX3_feed_58 : decode cX3_feed 58 = .ok (.invokevirtual 207, 3) := by decide +kernel
theorem dX3_feed_61 : decode cX3_feed 61 = .ok (.iinc 3 (-1), 3) := by decide +kernel
theorem dX3_feed_64 : decode cX3_feed 64 = .ok (.goto (-24), 3) := by decide +kernel
theorem dX3_feed_67 : decode cX3_feed 67 = .ok (.aload_n 0, 1) := by decide +kernel
theorem dX3_feed_68 : decode cX3_feed 68 = .ok (.getfield 25, 3) := by decide +kernel
theorem dX3_feed_71 : decode cX3_feed 71 = .ok (.getfield 204, 3) := by decide +kernel
theorem dX3_feed_74 : decode cX3_feed 74 = .ok (.ireturn, 1) := by decide +kernel
theorem dX3_wipe_0 : decode cX3_wipe 0 = .ok (.aload_n 0, 1) := by decide +kernel
theorem dX3_wipe_1 : decode cX3_wipe 1 = .ok (.getfield 25, 3) := by decide +kernel
theorem dX3_wipe_4 : decode cX3_wipe 4 = .ok (.getfield 204, 3) := by decide +kernel
theorem dX3_wipe_7 : decode cX3_wipe 7 = .ok (.istore_n 1, 1) := by decide +kernel
theorem dX3_wipe_8 : decode cX3_wipe 8 = .ok (.aload_n 0, 1) := by decide +kernel
theorem dX3_wipe_9 : decode cX3_wipe 9 = .ok (.getfield 25, 3) := by decide +kernel
theorem dX3_wipe_12 : decode cX3_wipe 12 = .ok (.iconst 0, 1) := by decide +kernel
theorem dX3_wipe_13 : decode cX3_wipe 13 = .ok (.putfield 204, 3) := by decide +kernel
theorem dX3_wipe_16 : decode cX3_wipe 16 = .ok (.iload_n 1, 1) := by decide +kernel
theorem dX3_wipe_17 : decode cX3_wipe 17 = .ok (.ireturn, 1) := by decide +kernel
theorem dX3_text_0 : decode cX3_text 0 = .ok (.aload_n 0, 1) := by decide +kernel
theorem dX3_text_1 : decode cX3_text 1 = .ok (.getfield 16, 3) := by decide +kernel
theorem dX3_text_4 : decode cX3_text 4 = .ok (.aload_n 0, 1) := by decide +kernel
theorem dX3_text_5 : decode cX3_text 5 = .ok (.getfield 10, 3) := by decide +kernel
theorem dX3_text_8 : decode cX3_text 8 = .ok (.invokevirtual 131, 3) := by decide +kernel
theorem dX3_text_11 : decode cX3_text 11 = .ok (.aload_n 0, 1) := by decide +kernel
theorem dX3_text_12 : decode cX3_text 12 = .ok (.getfield 25, 3) := by decide +kernel
theorem dX3_text_15 : decode cX3_text 15 = .ok (.invokevirtual 210, 3) := by decide +kernel
theorem dX3_text_18 : decode cX3_text 18 = .ok (.iconst 0, 1) := by decide +kernel
theorem dX3_text_19 : decode cX3_text 19 = .ok (.istore_n 1, 1) := by decide +kernel
theorem dX3_text_20 : decode cX3_text 20 = .ok (.iconst 1, 1) := by decide +kernel
theorem dX3_text_21 : decode cX3_text 21 = .ok (.istore_n 2, 1) := by decide +kernel
theorem dX3_text_22 : decode cX3_text 22 = .ok (.iconst 1, 1) := by decide +kernel
theorem dX3_text_23 : decode cX3_text 23 = .ok (.istore_n 3, 1) := by decide +kernel
theorem dX3_text_24 : decode cX3_text 24 = .ok (.iconst 0, 1) := by decide +kernel
theorem dX3_text_25 : decode cX3_text 25 = .ok (.istore 4, 2) := by decide +kernel
theorem dX3_text_27 : decode cX3_text 27 = .ok (.iload 4, 2) := by decide +kernel
theorem dX3_text_29 : decode cX3_text 29 = .ok (.bipush 120, 2) := by decide +kernel
theorem dX3_text_31 : decode cX3_text 31 = .ok (.if_icmp .gt 53, 3) := by decide +kernel
theorem dX3_text_34 : decode cX3_text 34 = .ok (.iload_n 2, 1) := by decide +kernel
theorem dX3_text_35 : decode cX3_text 35 = .ok (.ifCond .eq 49, 3) := by decide +kernel
theorem dX3_text_38 : decode cX3_text 38 = .ok (.iload_n 3, 1) := by decide +kernel
theorem dX3_text_39 : decode cX3_text 39 = .ok (.ifCond .eq 45, 3) := by decide +kernel
theorem dX3_text_42 : decode cX3_text 42 = .ok (.aload_n 0, 1) := by decide +kernel
theorem dX3_text_43 : decode cX3_text 43 = .ok (.getfield 25, 3) := by decide +kernel
theorem dX3_text_46 : decode cX3_text 46 = .ok (.invokevirtual 213, 3) := by decide +kernel
theorem dX3_text_49 : decode cX3_text 49 = .ok (.aload_n 0, 1) := by decide +kernel
theorem dX3_text_50 : decode cX3_text 50 = .ok (.invokevirtual 216, 3) := by decide +kernel
theorem dX3_text_53 : decode cX3_text 53 = .ok (.istore_n 2, 1) := by decide +kernel
theorem dX3_text_54 : decode cX3_text 54 = .ok (.iinc 1 1, 3) := by decide +kernel
theorem dX3_text_57 : decode cX3_text 57 = .ok (.iload_n 2, 1) := by decide +kernel
theorem dX3_text_58 : decode cX3_text 58 = .ok (.ifCond .eq 18, 3) := by decide +kernel
theorem dX3_text_61 : decode cX3_text 61 = .ok (.aload_n 0, 1) := by decide +kernel
theorem dX3_text_62 : decode cX3_text 62 = .ok (.getfield 25, 3) := by decide +kernel
theorem dX3_text_65 : decode cX3_text 65 = .ok (.getfield 220, 3) := by decide +kernel
theorem dX3_text_68 : decode cX3_text 68 = .ok (.iconst 3, 1) := by decide +kernel
theorem dX3_text_69 : decode cX3_text 69 = .ok (.if_icmp .ne 7, 3) := by decide +kernel
theorem dX3_text_72 : decode cX3_text 72 = .ok (.iconst 1, 1) := by decide +kernel
theorem dX3_text_73 : decode cX3_text 73 = .ok (.goto 4, 3) := by decide +kernel
theorem dX3_text_76 : decode cX3_text 76 = .ok (.iconst 0, 1) := by decide +kernel
theorem dX3_text_77 : decode cX3_text 77 = .ok (.istore_n 3, 1) := by decide +kernel
theorem dX3_text_78 : decode cX3_text 78 = .ok (.iinc 4 1, 3) := by decide +kernel
theorem dX3_text_81 : decode cX3_text 81 = .ok (.goto (-54), 3) := by decide +kernel
theorem dX3_text_84 : decode cX3_text 84 = .ok (.aload_n 0, 1) := by decide +kernel
theorem dX3_text_85 : decode cX3_text 85 = .ok (.getfield 25, 3) := by decide +kernel
theorem dX3_text_88 : decode cX3_text 88 = .ok (.getfield 223, 3) := by decide +kernel
theorem dX3_text_91 : decode cX3_text 91 = .ok (.istore 4, 2) := by decide +kernel
theorem dX3_text_93 : decode cX3_text 93 = .ok (.iload_n 2, 1) := by decide +kernel
theorem dX3_text_94 : decode cX3_text 94 = .ok (.ifCond .eq 17, 3) := by decide +kernel
theorem dX3_text_97 : decode cX3_text 97 = .ok (.aload_n 0, 1) := by decide +kernel
theorem dX3_text_98 : decode cX3_text 98 = .ok (.getfield 25, 3) := by decide +kernel
theorem dX3_text_101 : decode cX3_text 101 = .ok (.getfield 220, 3) := by decide +kernel
theorem dX3_text_104 : decode cX3_text 104 = .ok (.ifCond .ne 7, 3) := by decide +kernel
theorem dX3_text_107 : decode cX3_text 107 = .ok (.iconst 1, 1) := by decide +kernel
theorem dX3_text_108 : decode cX3_text 108 = .ok (.goto 4, 3) := by decide +kernel
theorem dX3_text_111 : decode cX3_text 111 = .ok (.iconst 0, 1) := by decide +kernel
theorem dX3_text_112 : decode cX3_text 112 = .ok (.istore_n 2, 1) := by decide +kernel
theorem dX3_text_113 : decode cX3_text 113 = .ok (.aload_n 0, 1) := by decide +kernel
theorem dX3_text_114 : decode cX3_text 114 = .ok (.getfield 25, 3) := by decide +kernel
theorem dX3_text_117 : decode cX3_text 117 = .ok (.iconst 0, 1) := by decide +kernel
theorem dX3_text_118 : decode cX3_text 118 = .ok (.putfield 204, 3) := by decide +kernel
theorem dX3_text_121 : decode cX3_text 121 = .ok (.iload_n 2, 1) := by decide +kernel
theorem dX3_text_122 : decode cX3_text 122 = .ok (.ifCond .ne 8, 3) := by decide +kernel
theorem dX3_text_125 : decode cX3_text 125 = .ok (.iconst (-1), 1) := by decide +kernel
theorem dX3_text_126 : decode cX3_text 126 = .ok (.iload 4, 2) := by decide +kernel
theorem dX3_text_128 : decode cX3_text 128 = .ok (.isub, 1) := by decide +kernel
theorem dX3_text_129 : decode cX3_text 129 = .ok (.ireturn, 1) := by decide +kernel
theorem dX3_text_130 : decode cX3_text 130 = .ok (.aload_n 0, 1) := by decide +kernel
theorem dX3_text_131 : decode cX3_text 131 = .ok (.getfield 10, 3) := by decide +kernel
theorem dX3_text_134 : decode cX3_text 134 = .ok (.aload_n 0, 1) := by decide +kernel
theorem dX3_text_135 : decode cX3_text 135 = .ok (.getfield 16, 3) := by decide +kernel
theorem dX3_text_138 : decode cX3_text 138 = .ok (.invokevirtual 131, 3) := by decide +kernel
theorem dX3_text_141 : decode cX3_text 141 = .ok (.iload_n 1, 1) := by decide +kernel
theorem dX3_text_142 : decode cX3_text 142 = .ok (.ireturn, 1) := by decide +kernel
theorem dX3_hold_0 : decode cX3_hold 0 = .ok (.iload_n 1, 1) := by decide +kernel
theorem dX3_hold_1 : decode cX3_hold 1 = .ok (.invokestatic 226, 3) := by decide +kernel
theorem dX3_hold_4 : decode cX3_hold 4 = .ok (.ifCond .eq 19, 3) := by decide +kernel
theorem dX3_hold_7 : decode cX3_hold 7 = .ok (.iload_n 2, 1) := by decide +kernel
theorem dX3_hold_8 : decode cX3_hold 8 = .ok (.iconst (-1), 1) := by decide +kernel
theorem dX3_hold_9 : decode cX3_hold 9 = .ok (.if_icmp .eq 20, 3) := by decide +kernel
theorem dX3_hold_12 : decode cX3_hold 12 = .ok (.aload_n 0, 1) := by decide +kernel
theorem dX3_hold_13 : decode cX3_hold 13 = .ok (.getfield 10, 3) := by decide +kernel
theorem dX3_hold_16 : decode cX3_hold 16 = .ok (.iload_n 2, 1) := by decide +kernel
theorem dX3_hold_17 : decode cX3_hold 17 = .ok (.invokevirtual 60, 3) := by decide +kernel
theorem dX3_hold_20 : decode cX3_hold 20 = .ok (.ifCond .ne 9, 3) := by decide +kernel
theorem dX3_hold_23 : decode cX3_hold 23 = .ok (.aload_n 0, 1) := by decide +kernel
theorem dX3_hold_24 : decode cX3_hold 24 = .ok (.iconst 0, 1) := by decide +kernel
theorem dX3_hold_25 : decode cX3_hold 25 = .ok (.invokevirtual 48, 3) := by decide +kernel
theorem dX3_hold_28 : decode cX3_hold 28 = .ok (.ireturn, 1) := by decide +kernel
theorem dX3_hold_29 : decode cX3_hold 29 = .ok (.aload_n 0, 1) := by decide +kernel
theorem dX3_hold_30 : decode cX3_hold 30 = .ok (.getfield 10, 3) := by decide +kernel
theorem dX3_hold_33 : decode cX3_hold 33 = .ok (.getfield 229, 3) := by decide +kernel
theorem dX3_hold_36 : decode cX3_hold 36 = .ok (.iload_n 1, 1) := by decide +kernel
theorem dX3_hold_37 : decode cX3_hold 37 = .ok (.iload_n 2, 1) := by decide +kernel
theorem dX3_hold_38 : decode cX3_hold 38 = .ok (.iastore, 1) := by decide +kernel
theorem dX3_hold_39 : decode cX3_hold 39 = .ok (.iconst 1, 1) := by decide +kernel
theorem dX3_hold_40 : decode cX3_hold 40 = .ok (.ireturn, 1) := by decide +kernel
theorem dX3_as_0 : decode cX3_as 0 = .ok (.iload_n 1, 1) := by decide +kernel
theorem dX3_as_1 : decode cX3_as 1 = .ok (.invokestatic 226, 3) := by decide +kernel
theorem dX3_as_4 : decode cX3_as 4 = .ok (.ifCond .eq 10, 3) := by decide +kernel
theorem dX3_as_7 : decode cX3_as 7 = .ok (.iload_n 2, 1) := by decide +kernel
theorem dX3_as_8 : decode cX3_as 8 = .ok (.invokestatic 44, 3) := by decide +kernel
theorem dX3_as_11 : decode cX3_as 11 = .ok (.ifCond .ne 9, 3) := by decide +kernel
theorem dX3_as_14 : decode cX3_as 14 = .ok (.aload_n 0, 1) := by decide +kernel
theorem dX3_as_15 : decode cX3_as 15 = .ok (.iconst 0, 1) := by decide +kernel
theorem dX3_as_16 : decode cX3_as 16 = .ok (.invokevirtual 48, 3) := by decide +kernel
theorem dX3_as_19 : decode cX3_as 19 = .ok (.ireturn, 1) := by decide +kernel
theorem dX3_as_20 : decode cX3_as 20 = .ok (.aload_n 0, 1) := by decide +kernel
theorem dX3_as_21 : decode cX3_as 21 = .ok (.getfield 10, 3) := by decide +kernel
theorem dX3_as_24 : decode cX3_as 24 = .ok (.getfield 229, 3) := by decide +kernel
theorem dX3_as_27 : decode cX3_as 27 = .ok (.iload_n 1, 1) := by decide +kernel
theorem dX3_as_28 : decode cX3_as 28 = .ok (.iaload, 1) := by decide +kernel
theorem dX3_as_29 : decode cX3_as 29 = .ok (.istore_n 3, 1) := by decide +kernel
theorem dX3_as_30 : decode cX3_as 30 = .ok (.aload_n 0, 1) := by decide +kernel
theorem dX3_as_31 : decode cX3_as 31 = .ok (.getfield 10, 3) := by decide +kernel
theorem dX3_as_34 : decode cX3_as 34 = .ok (.iload_n 3, 1) := by decide +kernel
theorem dX3_as_35 : decode cX3_as 35 = .ok (.invokevirtual 60, 3) := by decide +kernel
theorem dX3_as_38 : decode cX3_as 38 = .ok (.ifCond .ne 9, 3) := by decide +kernel
theorem dX3_as_41 : decode cX3_as 41 = .ok (.aload_n 0, 1) := by decide +kernel
theorem dX3_as_42 : decode cX3_as 42 = .ok (.iconst 5, 1) := by decide +kernel
theorem dX3_as_43 : decode cX3_as 43 = .ok (.invokevirtual 48, 3) := by decide +kernel
theorem dX3_as_46 : decode cX3_as 46 = .ok (.ireturn, 1) := by decide +kernel
theorem dX3_as_47 : decode cX3_as 47 = .ok (.aload_n 0, 1) := by decide +kernel
theorem dX3_as_48 : decode cX3_as 48 = .ok (.getfield 10, 3) := by decide +kernel
theorem dX3_as_51 : decode cX3_as 51 = .ok (.getfield 191, 3) := by decide +kernel
theorem dX3_as_54 : decode cX3_as 54 = .ok (.iload_n 3, 1) := by decide +kernel
theorem dX3_as_55 : decode cX3_as 55 = .ok (.iaload, 1) := by decide +kernel
theorem dX3_as_56 : decode cX3_as 56 = .ok (.iload_n 2, 1) := by decide +kernel
theorem dX3_as_57 : decode cX3_as 57 = .ok (.invokestatic 232, 3) := by decide +kernel
theorem dX3_as_60 : decode cX3_as 60 = .ok (.ifCond .eq 7, 3) := by decide +kernel
theorem dX3_as_63 : decode cX3_as 63 = .ok (.iload_n 3, 1) := by decide +kernel
theorem dX3_as_64 : decode cX3_as 64 = .ok (.goto 8, 3) := by decide +kernel
theorem dX3_as_67 : decode cX3_as 67 = .ok (.aload_n 0, 1) := by decide +kernel
theorem dX3_as_68 : decode cX3_as 68 = .ok (.iconst 2, 1) := by decide +kernel
theorem dX3_as_69 : decode cX3_as 69 = .ok (.invokevirtual 48, 3) := by decide +kernel
theorem dX3_as_72 : decode cX3_as 72 = .ok (.ireturn, 1) := by decide +kernel
theorem dX3_sheet_0 : decode cX3_sheet 0 = .ok (.iload_n 2, 1) := by decide +kernel
theorem dX3_sheet_1 : decode cX3_sheet 1 = .ok (.ifCond .eq 21, 3) := by decide +kernel
theorem dX3_sheet_4 : decode cX3_sheet 4 = .ok (.iload_n 2, 1) := by decide +kernel
theorem dX3_sheet_5 : decode cX3_sheet 5 = .ok (.bipush 8, 2) := by decide +kernel
theorem dX3_sheet_7 : decode cX3_sheet 7 = .ok (.if_icmp .eq 15, 3) := by decide +kernel
theorem dX3_sheet_10 : decode cX3_sheet 10 = .ok (.iload_n 2, 1) := by decide +kernel
theorem dX3_sheet_11 : decode cX3_sheet 11 = .ok (.bipush 16, 2) := by decide +kernel
theorem dX3_sheet_13 : decode cX3_sheet 13 = .ok (.if_icmp .eq 9, 3) := by decide +kernel
theorem dX3_sheet_16 : decode cX3_sheet 16 = .ok (.iload_n 2, 1) := by decide +kernel
theorem dX3_sheet_17 : decode cX3_sheet 17 = .ok (.bipush 32, 2) := by decide +kernel
theorem dX3_sheet_19 : decode cX3_sheet 19 = .ok (.if_icmp .ne 7, 3) := by decide +kernel
theorem dX3_sheet_22 : decode cX3_sheet 22 = .ok (.iconst 1, 1) := by decide +kernel
theorem dX3_sheet_23 : decode cX3_sheet 23 = .ok (.goto 4, 3) := by decide +kernel
theorem dX3_sheet_26 : decode cX3_sheet 26 = .ok (.iconst 0, 1) := by decide +kernel
theorem dX3_sheet_27 : decode cX3_sheet 27 = .ok (.istore 4, 2) := by decide +kernel
theorem dX3_sheet_29 : decode cX3_sheet 29 = .ok (.iload_n 1, 1) := by decide +kernel
theorem dX3_sheet_30 : decode cX3_sheet 30 = .ok (.invokestatic 235, 3) := by decide +kernel
theorem dX3_sheet_33 : decode cX3_sheet 33 = .ok (.ifCond .eq 8, 3) := by decide +kernel
theorem dX3_sheet_36 : decode cX3_sheet 36 = .ok (.iload 4, 2) := by decide +kernel
theorem dX3_sheet_38 : decode cX3_sheet 38 = .ok (.ifCond .ne 9, 3) := by decide +kernel
theorem dX3_sheet_41 : decode cX3_sheet 41 = .ok (.aload_n 0, 1) := by decide +kernel
theorem dX3_sheet_42 : decode cX3_sheet 42 = .ok (.iconst 0, 1) := by decide +kernel
theorem dX3_sheet_43 : decode cX3_sheet 43 = .ok (.invokevirtual 48, 3) := by decide +kernel
theorem dX3_sheet_46 : decode cX3_sheet 46 = .ok (.ireturn, 1) := by decide +kernel
theorem dX3_sheet_47 : decode cX3_sheet 47 = .ok (.iload_n 3, 1) := by decide +kernel
theorem dX3_sheet_48 : decode cX3_sheet 48 = .ok (.ifCond .ge 10, 3) := by decide +kernel
theorem dX3_sheet_51 : decode cX3_sheet 51 = .ok (.aload_n 0, 1) := by decide +kernel
theorem dX3_sheet_52 : decode cX3_sheet 52 = .ok (.bipush 6, 2) := by decide +kernel
theorem dX3_sheet_54 : decode cX3_sheet 54 = .ok (.invokevirtual 48, 3) := by decide +kernel
theorem dX3_sheet_57 : decode cX3_sheet 57 = .ok (.ireturn, 1) := by decide +kernel
theorem dX3_sheet_58 : decode cX3_sheet 58 = .ok (.iload_n 3, 1) := by decide +kernel
theorem dX3_sheet_59 : decode cX3_sheet 59 = .ok (.bipush 40, 2) := by decide +kernel
theorem dX3_sheet_61 : decode cX3_sheet 61 = .ok (.if_icmp .le 9, 3) := by decide +kernel
theorem dX3_sheet_64 : decode cX3_sheet 64 = .ok (.aload_n 0, 1) := by decide +kernel
theorem dX3_sheet_65 : decode cX3_sheet 65 = .ok (.iconst 0, 1) := by decide +kernel
theorem dX3_sheet_66 : decode cX3_sheet 66 = .ok (.invokevirtual 48, 3) := by decide +kernel
theorem dX3_sheet_69 : decode cX3_sheet 69 = .ok (.ireturn, 1) := by decide +kernel
theorem dX3_sheet_70 : decode cX3_sheet 70 = .ok (.aload_n 0, 1) := by decide +kernel
theorem dX3_sheet_71 : decode cX3_sheet 71 = .ok (.getfield 31, 3) := by decide +kernel
theorem dX3_sheet_74 : decode cX3_sheet 74 = .ok (.iload_n 1, 1) := by decide +kernel
theorem dX3_sheet_75 : decode cX3_sheet 75 = .ok (.aaload, 1) := by decide +kernel
theorem dX3_sheet_76 : decode cX3_sheet 76 = .ok (.iload_n 2, 1) := by decide +kernel
theorem dX3_sheet_77 : decode cX3_sheet 77 = .ok (.iload_n 2, 1) := by decide +kernel
theorem dX3_sheet_78 : decode cX3_sheet 78 = .ok (.ifCond .ne 7, 3) := by decide +kernel
theorem dX3_sheet_81 : decode cX3_sheet 81 = .ok (.iconst 0, 1) := by decide +kernel
theorem dX3_sheet_82 : decode cX3_sheet 82 = .ok (.goto 4, 3) := by decide +kernel
theorem dX3_sheet_85 : decode cX3_sheet 85 = .ok (.iload_n 3, 1) := by decide +kernel
theorem dX3_sheet_86 : decode cX3_sheet 86 = .ok (.invokevirtual 238, 3) := by decide +kernel
theorem dX3_sheet_89 : decode cX3_sheet 89 = .ok (.aload_n 0, 1) := by decide +kernel
theorem dX3_sheet_90 : decode cX3_sheet 90 = .ok (.getfield 31, 3) := by decide +kernel
theorem dX3_sheet_93 : decode cX3_sheet 93 = .ok (.iload_n 1, 1) := by decide +kernel
theorem dX3_sheet_94 : decode cX3_sheet 94 = .ok (.aaload, 1) := by decide +kernel
theorem dX3_sheet_95 : decode cX3_sheet 95 = .ok (.getfield 241, 3) := by decide +kernel
theorem dX3_sheet_98 : decode cX3_sheet 98 = .ok (.ireturn, 1) := by decide +kernel
theorem dX3_write_0 : decode cX3_write 0 = .ok (.aload_n 0, 1) := by decide +kernel
theorem dX3_write_1 : decode cX3_write 1 = .ok (.iload_n 1, 1) := by decide +kernel
theorem dX3_write_2 : decode cX3_write 2 = .ok (.invokevirtual 244, 3) := by decide +kernel
theorem dX3_write_5 : decode cX3_write 5 = .ok (.istore 4, 2) := by decide +kernel
theorem dX3_write_7 : decode cX3_write 7 = .ok (.iload 4, 2) := by decide +kernel
theorem dX3_write_9 : decode cX3_write 9 = .ok (.iconst (-1), 1) := by decide +kernel
theorem dX3_write_10 : decode cX3_write 10 = .ok (.if_icmp .eq 10, 3) := by decide +kernel
theorem dX3_write_13 : decode cX3_write 13 = .ok (.aload_n 0, 1) := by decide +kernel
theorem dX3_write_14 : decode cX3_write 14 = .ok (.iload 4, 2) := by decide +kernel
theorem dX3_write_16 : decode cX3_write 16 = .ok (.invokevirtual 48, 3) := by decide +kernel
theorem dX3_write_19 : decode cX3_write 19 = .ok (.ireturn, 1) := by decide +kernel
theorem dX3_write_20 : decode cX3_write 20 = .ok (.iload_n 2, 1) := by decide +kernel
theorem dX3_write_21 : decode cX3_write 21 = .ok (.ifCond .lt 16, 3) := by decide +kernel
theorem dX3_write_24 : decode cX3_write 24 = .ok (.iload_n 2, 1) := by decide +kernel
theorem dX3_write_25 : decode cX3_write 25 = .ok (.aload_n 0, 1) := by decide +kernel
theorem dX3_write_26 : decode cX3_write 26 = .ok (.getfield 31, 3) := by decide +kernel
theorem dX3_write_29 : decode cX3_write 29 = .ok (.iload_n 1, 1) := by decide +kernel
theorem dX3_write_30 : decode cX3_write 30 = .ok (.aaload, 1) := by decide +kernel
theorem dX3_write_31 : decode cX3_write 31 = .ok (.getfield 241, 3) := by decide +kernel
theorem dX3_write_34 : decode cX3_write 34 = .ok (.if_icmp .lt 9, 3) := by decide +kernel
theorem dX3_write_37 : decode cX3_write 37 = .ok (.aload_n 0, 1) := by decide +kernel
theorem dX3_write_38 : decode cX3_write 38 = .ok (.iconst 0, 1) := by decide +kernel
theorem dX3_write_39 : decode cX3_write 39 = .ok (.invokevirtual 48, 3) := by decide +kernel
theorem dX3_write_42 : decode cX3_write 42 = .ok (.ireturn, 1) := by decide +kernel
theorem dX3_write_43 : decode cX3_write 43 = .ok (.aload_n 0, 1) := by decide +kernel
theorem dX3_write_44 : decode cX3_write 44 = .ok (.getfield 31, 3) := by decide +kernel
theorem dX3_write_47 : decode cX3_write 47 = .ok (.iload_n 1, 1) := by decide +kernel
theorem dX3_write_48 : decode cX3_write 48 = .ok (.aaload, 1) := by decide +kernel
theorem dX3_write_49 : decode cX3_write 49 = .ok (.iload_n 2, 1) := by decide +kernel
theorem dX3_write_50 : decode cX3_write 50 = .ok (.iload_n 3, 1) := by decide +kernel
theorem dX3_write_51 : decode cX3_write 51 = .ok (.invokevirtual 247, 3) := by decide +kernel
theorem dX3_write_54 : decode cX3_write 54 = .ok (.iconst 1, 1) := by decide +kernel
theorem dX3_write_55 : decode cX3_write 55 = .ok (.ireturn, 1) := by decide +kernel
theorem dX3_copy_0 : decode cX3_copy 0 = .ok (.iload_n 1, 1) := by decide +kernel
theorem dX3_copy_1 : decode cX3_copy 1 = .ok (.invokestatic 235, 3) := by decide +kernel
theorem dX3_copy_4 : decode cX3_copy 4 = .ok (.ifCond .eq 10, 3) := by decide +kernel
theorem dX3_copy_7 : decode cX3_copy 7 = .ok (.iload_n 3, 1) := by decide +kernel
theorem dX3_copy_8 : decode cX3_copy 8 = .ok (.invokestatic 235, 3) := by decide +kernel
theorem dX3_copy_11 : decode cX3_copy 11 = .ok (.ifCond .ne 9, 3) := by decide +kernel
theorem dX3_copy_14 : decode cX3_copy 14 = .ok (.aload_n 0, 1) := by decide +kernel
theorem dX3_copy_15 : decode cX3_copy 15 = .ok (.iconst 0, 1) := by decide +kernel
theorem dX3_copy_16 : decode cX3_copy 16 = .ok (.invokevirtual 48, 3) := by decide +kernel
theorem dX3_copy_19 : decode cX3_copy 19 = .ok (.ireturn, 1) := by decide +kernel
theorem dX3_copy_20 : decode cX3_copy 20 = .ok (.aload_n 0, 1) := by decide +kernel
theorem dX3_copy_21 : decode cX3_copy 21 = .ok (.getfield 31, 3) := by decide +kernel
theorem dX3_copy_24 : decode cX3_copy 24 = .ok (.iload_n 1, 1) := by decide +kernel
theorem dX3_copy_25 : decode cX3_copy 25 = .ok (.aaload, 1) := by decide +kernel
theorem dX3_copy_26 : decode cX3_copy 26 = .ok (.astore 6, 2) := by decide +kernel
theorem dX3_copy_28 : decode cX3_copy 28 = .ok (.aload_n 0, 1) := by decide +kernel
theorem dX3_copy_29 : decode cX3_copy 29 = .ok (.getfield 31, 3) := by decide +kernel
theorem dX3_copy_32 : decode cX3_copy 32 = .ok (.iload_n 3, 1) := by decide +kernel
theorem dX3_copy_33 : decode cX3_copy 33 = .ok (.aaload, 1) := by decide +kernel
theorem dX3_copy_34 : decode cX3_copy 34 = .ok (.astore 7, 2) := by decide +kernel
theorem dX3_copy_36 : decode cX3_copy 36 = .ok (.aload 6, 2) := by decide +kernel
theorem dX3_copy_38 : decode cX3_copy 38 = .ok (.getfield 250, 3) := by decide +kernel
theorem dX3_copy_41 : decode cX3_copy 41 = .ok (.ifCond .eq 11, 3) := by decide +kernel
theorem dX3_copy_44 : decode cX3_copy 44 = .ok (.aload 7, 2) := by decide +kernel
theorem dX3_copy_46 : decode cX3_copy 46 = .ok (.getfield 250, 3) := by decide +kernel
theorem dX3_copy_49 : decode cX3_copy 49 = .ok (.ifCond .ne 9, 3) := by decide +kernel
theorem dX3_copy_52 : decode cX3_copy 52 = .ok (.aload_n 0, 1) := by decide +kernel
theorem dX3_copy_53 : decode cX3_copy 53 = .ok (.iconst 5, 1) := by decide +kernel
theorem dX3_copy_54 : decode cX3_copy 54 = .ok (.invokevirtual 48, 3) := by decide +kernel
theorem dX3_copy_57 : decode cX3_copy 57 = .ok (.ireturn, 1) := by decide +kernel
theorem dX3_copy_58 : decode cX3_copy 58 = .ok (.aload 6, 2) := by decide +kernel
theorem dX3_copy_60 : decode cX3_copy 60 = .ok (.getfield 250, 3) := by decide +kernel
theorem dX3_copy_63 : decode cX3_copy 63 = .ok (.aload 7, 2) := by decide +kernel
theorem dX3_copy_65 : decode cX3_copy 65 = .ok (.getfield 250, 3) := by decide +kernel
theorem dX3_copy_68 : decode cX3_copy 68 = .ok (.if_icmp .eq 9, 3) := by decide +kernel
theorem dX3_copy_71 : decode cX3_copy 71 = .ok (.aload_n 0, 1) := by decide +kernel
theorem dX3_copy_72 : decode cX3_copy 72 = .ok (.iconst 2, 1) := by decide +kernel
theorem dX3_copy_73 : decode cX3_copy 73 = .ok (.invokevirtual 48, 3) := by decide +kernel
theorem dX3_copy_76 : decode cX3_copy 76 = .ok (.ireturn, 1) := by decide +kernel
theorem dX3_copy_77 : decode cX3_copy 77 = .ok (.aload 6, 2) := by decide +kernel
theorem dX3_copy_79 : decode cX3_copy 79 = .ok (.iload_n 2, 1) := by decide +kernel
theorem dX3_copy_80 : decode cX3_copy 80 = .ok (.iload 5, 2) := by decide +kernel
theorem dX3_copy_82 : decode cX3_copy 82 = .ok (.invokevirtual 253, 3) := by decide +kernel
theorem dX3_copy_85 : decode cX3_copy 85 = .ok (.ifCond .eq 15, 3) := by decide +kernel
theorem dX3_copy_88 : decode cX3_copy 88 = .ok (.aload 7, 2) := by decide +kernel
theorem dX3_copy_90 : decode cX3_copy 90 = .ok (.iload 4, 2) := by decide +kernel
theorem dX3_copy_92 : decode cX3_copy 92 = .ok (.iload 5, 2) := by decide +kernel
theorem dX3_copy_94 : decode cX3_copy 94 = .ok (.invokevirtual 253, 3) := by decide +kernel
theorem dX3_copy_97 : decode cX3_copy 97 = .ok (.ifCond .ne 9, 3) := by decide +kernel
theorem dX3_copy_100 : decode cX3_copy 100 = .ok (.aload_n 0, 1) := by decide +kernel
theorem dX3_copy_101 : decode cX3_copy 101 = .ok (.iconst 0, 1) := by decide +kernel
theorem dX3_copy_102 : decode cX3_copy 102 = .ok (.invokevirtual 48, 3) := by decide +kernel
theorem dX3_copy_105 : decode cX3_copy 105 = .ok (.ireturn, 1) := by decide +kernel
theorem dX3_copy_106 : decode cX3_copy 106 = .ok (.aload 6, 2) := by decide +kernel
theorem dX3_copy_108 : decode cX3_copy 108 = .ok (.getfield 256, 3) := by decide +kernel
theorem dX3_copy_111 : decode cX3_copy 111 = .ok (.iload_n 2, 1) := by decide +kernel
theorem dX3_copy_112 : decode cX3_copy 112 = .ok (.aload 7, 2) := by decide +kernel
theorem dX3_copy_114 : decode cX3_copy 114 = .ok (.getfield 256, 3) := by decide +kernel
theorem dX3_copy_117 : decode cX3_copy 117 = .ok (.iload 4, 2) := by decide +kernel
theorem dX3_copy_119 : decode cX3_copy 119 = .ok (.iload 5, 2) := by decide +kernel
theorem dX3_copy_121 : decode cX3_copy 121 = .ok (.invokestatic 259, 3) := by decide +kernel
theorem dX3_copy_124 : decode cX3_copy 124 = .ok (.iload 5, 2) := by decide +kernel
theorem dX3_copy_126 : decode cX3_copy 126 = .ok (.ireturn, 1) := by decide +kernel
theorem dX3_load_0 : decode cX3_load 0 = .ok (.aload_n 0, 1) := by decide +kernel
theorem dX3_load_1 : decode cX3_load 1 = .ok (.iload_n 1, 1) := by decide +kernel
theorem dX3_load_2 : decode cX3_load 2 = .ok (.invokevirtual 244, 3) := by decide +kernel
theorem dX3_load_5 : decode cX3_load 5 = .ok (.istore_n 2, 1) := by decide +kernel
theorem dX3_load_6 : decode cX3_load 6 = .ok (.iload_n 2, 1) := by decide +kernel
theorem dX3_load_7 : decode cX3_load 7 = .ok (.iconst (-1), 1) := by decide +kernel
theorem dX3_load_8 : decode cX3_load 8 = .ok (.if_icmp .eq 9, 3) := by decide +kernel
theorem dX3_load_11 : decode cX3_load 11 = .ok (.aload_n 0, 1) := by decide +kernel
theorem dX3_load_12 : decode cX3_load 12 = .ok (.iload_n 2, 1) := by decide +kernel
theorem dX3_load_13 : decode cX3_load 13 = .ok (.invokevirtual 48, 3) := by decide +kernel
theorem dX3_load_16 : decode cX3_load 16 = .ok (.ireturn, 1) := by decide +kernel
theorem dX3_load_17 : decode cX3_load 17 = .ok (.aload_n 0, 1) := by decide +kernel
theorem dX3_load_18 : decode cX3_load 18 = .ok (.getfield 31, 3) := by decide +kernel
theorem dX3_load_21 : decode cX3_load 21 = .ok (.iload_n 1, 1) := by decide +kernel
theorem dX3_load_22 : decode cX3_load 22 = .ok (.aaload, 1) := by decide +kernel
theorem dX3_load_23 : decode cX3_load 23 = .ok (.astore_n 3, 1) := by decide +kernel
theorem dX3_load_24 : decode cX3_load 24 = .ok (.aload_n 3, 1) := by decide +kernel
theorem dX3_load_25 : decode cX3_load 25 = .ok (.getfield 241, 3) := by decide +kernel
theorem dX3_load_28 : decode cX3_load 28 = .ok (.aload_n 0, 1) := by decide +kernel
theorem dX3_load_29 : decode cX3_load 29 = .ok (.getfield 10, 3) := by decide +kernel
theorem dX3_load_32 : decode cX3_load 32 = .ok (.getfield 52, 3) := by decide +kernel
theorem dX3_load_35 : decode cX3_load 35 = .ok (.invokestatic 265, 3) := by decide +kernel
theorem dX3_load_38 : decode cX3_load 38 = .ok (.istore 4, 2) := by decide +kernel
theorem dX3_load_40 : decode cX3_load 40 = .ok (.iconst 0, 1) := by decide +kernel
theorem dX3_load_41 : decode cX3_load 41 = .ok (.istore 5, 2) := by decide +kernel
theorem dX3_load_43 : decode cX3_load 43 = .ok (.iload 5, 2) := by decide +kernel
theorem dX3_load_45 : decode cX3_load 45 = .ok (.iload 4, 2) := by decide +kernel
theorem dX3_load_47 : decode cX3_load 47 = .ok (.if_icmp .ge 43, 3) := by decide +kernel
theorem dX3_load_50 : decode cX3_load 50 = .ok (.iconst 1, 1) := by decide +kernel
theorem dX3_load_51 : decode cX3_load 51 = .ok (.aload_n 3, 1) := by decide +kernel
theorem dX3_load_52 : decode cX3_load 52 = .ok (.getfield 256, 3) := by decide +kernel
theorem dX3_load_55 : decode cX3_load 55 = .ok (.iload 5, 2) := by decide +kernel
theorem dX3_load_57 : decode cX3_load 57 = .ok (.iaload, 1) := by decide +kernel
theorem dX3_load_58 : decode cX3_load 58 = .ok (.invokestatic 79, 3) := by decide +kernel
theorem dX3_load_61 : decode cX3_load 61 = .ok (.ifCond .ne 6, 3) := by decide +kernel
theorem dX3_load_64 : decode cX3_load 64 = .ok (.iload 5, 2) := by decide +kernel
theorem dX3_load_66 : decode cX3_load 66 = .ok (.ireturn, 1) := by decide +kernel
theorem dX3_load_67 : decode cX3_load 67 = .ok (.aload_n 0, 1) := by decide +kernel
theorem dX3_load_68 : decode cX3_load 68 = .ok (.getfield 10, 3) := by decide +kernel
theorem dX3_load_71 : decode cX3_load 71 = .ok (.getfield 165, 3) := by decide +kernel
theorem dX3_load_74 : decode cX3_load 74 = .ok (.iload 5, 2) := by decide +kernel
theorem dX3_load_76 : decode cX3_load 76 = .ok (.aload_n 3, 1) := by decide +kernel
theorem dX3_load_77 : decode cX3_load 77 = .ok (.getfield 256, 3) := by decide +kernel
theorem dX3_load_80 : decode cX3_load 80 = .ok (.iload 5, 2) := by decide +kernel
theorem dX3_load_82 : decode cX3_load 82 = .ok (.iaload, 1) := by decide +kernel
theorem dX3_load_83 : decode cX3_load 83 = .ok (.iastore, 1) := by decide +kernel
theorem dX3_load_84 : decode cX3_load 84 = .ok (.iinc 5 1, 3) := by decide +kernel
theorem dX3_load_87 : decode cX3_load 87 = .ok (.goto (-44), 3) := by decide +kernel
theorem dX3_load_90 : decode cX3_load 90 = .ok (.iload 4, 2) := by decide +kernel
theorem dX3_load_92 : decode cX3_load 92 = .ok (.ireturn, 1) := by decide +kernel
theorem dX3_tally_0 : decode cX3_tally 0 = .ok (.aload_n 0, 1) := by decide +kernel
theorem dX3_tally_1 : decode cX3_tally 1 = .ok (.iload_n 1, 1) := by decide +kernel
theorem dX3_tally_2 : decode cX3_tally 2 = .ok (.invokevirtual 244, 3) := by decide +kernel
theorem dX3_tally_5 : decode cX3_tally 5 = .ok (.istore_n 2, 1) := by decide +kernel
theorem dX3_tally_6 : decode cX3_tally 6 = .ok (.iload_n 2, 1) := by decide +kernel
theorem dX3_tally_7 : decode cX3_tally 7 = .ok (.iconst (-1), 1) := by decide +kernel
theorem dX3_tally_8 : decode cX3_tally 8 = .ok (.if_icmp .eq 10, 3) := by decide +kernel
theorem dX3_tally_11 : decode cX3_tally 11 = .ok (.aload_n 0, 1) := by decide +kernel
theorem dX3_tally_12 : decode cX3_tally 12 = .ok (.iload_n 2, 1) := by decide +kernel
theorem dX3_tally_13 : decode cX3_tally 13 = .ok (.invokevirtual 48, 3) := by decide +kernel
theorem dX3_tally_16 : decode cX3_tally 16 = .ok (.i2l, 1) := by decide +kernel
theorem dX3_tally_17 : decode cX3_tally 17 = .ok (.lreturn, 1) := by decide +kernel
theorem dX3_tally_18 : decode cX3_tally 18 = .ok (.aload_n 0, 1) := by decide +kernel
theorem dX3_tally_19 : decode cX3_tally 19 = .ok (.iconst 3, 1) := by decide +kernel
theorem dX3_tally_20 : decode cX3_tally 20 = .ok (.iload_n 1, 1) := by decide +kernel
theorem dX3_tally_21 : decode cX3_tally 21 = .ok (.invokevirtual 194, 3) := by decide +kernel
theorem dX3_tally_24 : decode cX3_tally 24 = .ok (.lreturn, 1) := by decide +kernel
theorem dX3_judge_0 : decode cX3_judge 0 = .ok (.aload_n 0, 1) := by decide +kernel
theorem dX3_judge_1 : decode cX3_judge 1 = .ok (.iload_n 1, 1) := by decide +kernel
theorem dX3_judge_2 : decode cX3_judge 2 = .ok (.invokevirtual 244, 3) := by decide +kernel
theorem dX3_judge_5 : decode cX3_judge 5 = .ok (.istore_n 2, 1) := by decide +kernel
theorem dX3_judge_6 : decode cX3_judge 6 = .ok (.iload_n 2, 1) := by decide +kernel
theorem dX3_judge_7 : decode cX3_judge 7 = .ok (.iconst (-1), 1) := by decide +kernel
theorem dX3_judge_8 : decode cX3_judge 8 = .ok (.if_icmp .eq 9, 3) := by decide +kernel
theorem dX3_judge_11 : decode cX3_judge 11 = .ok (.aload_n 0, 1) := by decide +kernel
theorem dX3_judge_12 : decode cX3_judge 12 = .ok (.iload_n 2, 1) := by decide +kernel
theorem dX3_judge_13 : decode cX3_judge 13 = .ok (.invokevirtual 48, 3) := by decide +kernel
theorem dX3_judge_16 : decode cX3_judge 16 = .ok (.ireturn, 1) := by decide +kernel
theorem dX3_judge_17 : decode cX3_judge 17 = .ok (.aload_n 0, 1) := by decide +kernel
theorem dX3_judge_18 : decode cX3_judge 18 = .ok (.getfield 31, 3) := by decide +kernel
theorem dX3_judge_21 : decode cX3_judge 21 = .ok (.iload_n 1, 1) := by decide +kernel
theorem dX3_judge_22 : decode cX3_judge 22 = .ok (.aaload, 1) := by decide +kernel
theorem dX3_judge_23 : decode cX3_judge 23 = .ok (.astore_n 3, 1) := by decide +kernel
theorem dX3_judge_24 : decode cX3_judge 24 = .ok (.aload_n 0, 1) := by decide +kernel
theorem dX3_judge_25 : decode cX3_judge 25 = .ok (.getfield 10, 3) := by decide +kernel
theorem dX3_judge_28 : decode cX3_judge 28 = .ok (.getfield 97, 3) := by decide +kernel
theorem dX3_judge_31 : decode cX3_judge 31 = .ok (.aload_n 3, 1) := by decide +kernel
theorem dX3_judge_32 : decode cX3_judge 32 = .ok (.getfield 241, 3) := by decide +kernel
theorem dX3_judge_35 : decode cX3_judge 35 = .ok (.iadd, 1) := by decide +kernel
theorem dX3_judge_36 : decode cX3_judge 36 = .ok (.sipush 999, 3) := by decide +kernel
theorem dX3_judge_39 : decode cX3_judge 39 = .ok (.if_icmp .le 9, 3) := by decide +kernel
theorem dX3_judge_42 : decode cX3_judge 42 = .ok (.aload_n 0, 1) := by decide +kernel
theorem dX3_judge_43 : decode cX3_judge 43 = .ok (.iconst 4, 1) := by decide +kernel
theorem dX3_judge_44 : decode cX3_judge 44 = .ok (.invokevirtual 48, 3) := by decide +kernel
theorem dX3_judge_47 : decode cX3_judge 47 = .ok (.ireturn, 1) := by decide +kernel
theorem dX3_judge_48 : decode cX3_judge 48 = .ok (.aload_n 0, 1) := by decide +kernel
theorem dX3_judge_49 : decode cX3_judge 49 = .ok (.getfield 16, 3) := by decide +kernel
theorem dX3_judge_52 : decode cX3_judge 52 = .ok (.aload_n 0, 1) := by decide +kernel
theorem dX3_judge_53 : decode cX3_judge 53 = .ok (.getfield 10, 3) := by decide +kernel
theorem dX3_judge_56 : decode cX3_judge 56 = .ok (.invokevirtual 131, 3) := by decide +kernel
theorem dX3_judge_59 : decode cX3_judge 59 = .ok (.iconst 0, 1) := by decide +kernel
theorem dX3_judge_60 : decode cX3_judge 60 = .ok (.istore 4, 2) := by decide +kernel
theorem dX3_judge_62 : decode cX3_judge 62 = .ok (.iload 4, 2) := by decide +kernel
theorem dX3_judge_64 : decode cX3_judge 64 = .ok (.aload_n 3, 1) := by decide +kernel
theorem dX3_judge_65 : decode cX3_judge 65 = .ok (.getfield 241, 3) := by decide +kernel
theorem dX3_judge_68 : decode cX3_judge 68 = .ok (.if_icmp .ge 39, 3) := by decide +kernel
theorem dX3_judge_71 : decode cX3_judge 71 = .ok (.aload_n 0, 1) := by decide +kernel
theorem dX3_judge_72 : decode cX3_judge 72 = .ok (.getfield 16, 3) := by decide +kernel
theorem dX3_judge_75 : decode cX3_judge 75 = .ok (.invokevirtual 270, 3) := by decide +kernel
theorem dX3_judge_78 : decode cX3_judge 78 = .ok (.pop, 1) := by decide +kernel
theorem dX3_judge_79 : decode cX3_judge 79 = .ok (.aload_n 0, 1) := by decide +kernel
theorem dX3_judge_80 : decode cX3_judge 80 = .ok (.getfield 16, 3) := by decide +kernel
theorem dX3_judge_83 : decode cX3_judge 83 = .ok (.getfield 100, 3) := by decide +kernel
theorem dX3_judge_86 : decode cX3_judge 86 = .ok (.aload_n 3, 1) := by decide +kernel
theorem dX3_judge_87 : decode cX3_judge 87 = .ok (.getfield 256, 3) := by decide +kernel
theorem dX3_judge_90 : decode cX3_judge 90 = .ok (.iload 4, 2) := by decide +kernel
theorem dX3_judge_92 : decode cX3_judge 92 = .ok (.iaload, 1) := by decide +kernel
theorem dX3_judge_93 : decode cX3_judge 93 = .ok (.if_icmp .eq 8, 3) := by decide +kernel
theorem dX3_judge_96 : decode cX3_judge 96 = .ok (.iconst 1, 1) := by decide +kernel
theorem dX3_judge_97 : decode cX3_judge 97 = .ok (.iload 4, 2) := by decide +kernel
theorem dX3_judge_99 : decode cX3_judge 99 = .ok (.iadd, 1) := by decide +kernel
theorem dX3_judge_100 : decode cX3_judge 100 = .ok (.ireturn, 1) := by decide +kernel
theorem dX3_judge_101 : decode cX3_judge 101 = .ok (.iinc 4 1, 3) := by decide +kernel
theorem dX3_judge_104 : decode cX3_judge 104 = .ok (.goto (-42), 3) := by decide +kernel
theorem dX3_judge_107 : decode cX3_judge 107 = .ok (.iconst 0, 1) := by decide +kernel
theorem dX3_judge_108 : decode cX3_judge 108 = .ok (.ireturn, 1) := by decide +kernel
theorem dX3_image_0 : decode cX3_image 0 = .ok (.aload_n 0, 1) := by decide +kernel
theorem dX3_image_1 : decode cX3_image 1 = .ok (.getfield 19, 3) := by decide +kernel
theorem dX3_image_4 : decode cX3_image 4 = .ok (.aload_n 0, 1) := by decide +kernel
theorem dX3_image_5 : decode cX3_image 5 = .ok (.getfield 10, 3) := by decide +kernel
theorem dX3_image_8 : decode cX3_image 8 = .ok (.invokevirtual 131, 3) := by decide +kernel
theorem dX3_image_11 : decode cX3_image 11 = .ok (.aload_n 0, 1) := by decide +kernel
theorem dX3_image_12 : decode cX3_image 12 = .ok (.iconst 1, 1) := by decide +kernel
theorem dX3_image_13 : decode cX3_image 13 = .ok (.putfield 40, 3) := by decide +kernel
theorem dX3_image_16 : decode cX3_image 16 = .ok (.iconst 1, 1) := by decide +kernel
theorem dX3_image_17 : decode cX3_image 17 = .ok (.ireturn, 1) := by decide +kernel
theorem dX3_undo_0 : decode cX3_undo 0 = .ok (.aload_n 0, 1) := by decide +kernel
theorem dX3_undo_1 : decode cX3_undo 1 = .ok (.getfield 40, 3) := by decide +kernel
theorem dX3_undo_4 : decode cX3_undo 4 = .ok (.ifCond .ne 9, 3) := by decide +kernel
theorem dX3_undo_7 : decode cX3_undo 7 = .ok (.aload_n 0, 1) := by decide +kernel
theorem dX3_undo_8 : decode cX3_undo 8 = .ok (.iconst 3, 1) := by decide +kernel
theorem dX3_undo_9 : decode cX3_undo 9 = .ok (.invokevirtual 48, 3) := by decide +kernel
theorem dX3_undo_12 : decode cX3_undo 12 = .ok (.ireturn, 1) := by decide +kernel
theorem dX3_undo_13 : decode cX3_undo 13 = .ok (.aload_n 0, 1) := by decide +kernel
theorem dX3_undo_14 : decode cX3_undo 14 = .ok (.getfield 10, 3) := by decide +kernel
theorem dX3_undo_17 : decode cX3_undo 17 = .ok (.aload_n 0, 1) := by decide +kernel
theorem dX3_undo_18 : decode cX3_undo 18 = .ok (.getfield 19, 3) := by decide +kernel
theorem dX3_undo_21 : decode cX3_undo 21 = .ok (.invokevirtual 131, 3) := by decide +kernel
theorem dX3_undo_24 : decode cX3_undo 24 = .ok (.aload_n 0, 1) := by decide +kernel
theorem dX3_undo_25 : decode cX3_undo 25 = .ok (.getfield 10, 3) := by decide +kernel
theorem dX3_undo_28 : decode cX3_undo 28 = .ok (.getfield 97, 3) := by decide +kernel
theorem dX3_undo_31 : decode cX3_undo 31 = .ok (.ireturn, 1) := by decide +kernel
theorem dX3_tear_0 : decode cX3_tear 0 = .ok (.aload_n 0, 1) := by decide +kernel
theorem dX3_tear_1 : decode cX3_tear 1 = .ok (.getfield 40, 3) := by decide +kernel
theorem dX3_tear_4 : decode cX3_tear 4 = .ok (.ifCond .eq 7, 3) := by decide +kernel
theorem dX3_tear_7 : decode cX3_tear 7 = .ok (.iconst 1, 1) := by decide +kernel
theorem dX3_tear_8 : decode cX3_tear 8 = .ok (.goto 4, 3) := by decide +kernel
theorem dX3_tear_11 : decode cX3_tear 11 = .ok (.iconst 0, 1) := by decide +kernel
theorem dX3_tear_12 : decode cX3_tear 12 = .ok (.istore_n 1, 1) := by decide +kernel
theorem dX3_tear_13 : decode cX3_tear 13 = .ok (.aload_n 0, 1) := by decide +kernel
theorem dX3_tear_14 : decode cX3_tear 14 = .ok (.iconst 0, 1) := by decide +kernel
theorem dX3_tear_15 : decode cX3_tear 15 = .ok (.putfield 40, 3) := by decide +kernel
theorem dX3_tear_18 : decode cX3_tear 18 = .ok (.iload_n 1, 1) := by decide +kernel
theorem dX3_tear_19 : decode cX3_tear 19 = .ok (.ireturn, 1) := by decide +kernel
theorem dX3_count_0 : decode cX3_count 0 = .ok (.iload_n 1, 1) := by decide +kernel
theorem dX3_count_1 : decode cX3_count 1 = .ok (.tableswitch 132 0 7 #[47, 55, 63, 78, 93, 108, 116, 124], 47) := by decide +kernel
theorem dX3_count_48 : decode cX3_count 48 = .ok (.aload_n 0, 1) := by decide +kernel
theorem dX3_count_49 : decode cX3_count 49 = .ok (.getfield 10, 3) := by decide +kernel
theorem dX3_count_52 : decode cX3_count 52 = .ok (.getfield 97, 3) := by decide +kernel
theorem dX3_count_55 : decode cX3_count 55 = .ok (.ireturn, 1) := by decide +kernel
theorem dX3_count_56 : decode cX3_count 56 = .ok (.aload_n 0, 1) := by decide +kernel
theorem dX3_count_57 : decode cX3_count 57 = .ok (.getfield 10, 3) := by decide +kernel
theorem dX3_count_60 : decode cX3_count 60 = .ok (.getfield 52, 3) := by decide +kernel
theorem dX3_count_63 : decode cX3_count 63 = .ok (.ireturn, 1) := by decide +kernel
theorem dX3_count_64 : decode cX3_count 64 = .ok (.aload_n 0, 1) := by decide +kernel
theorem dX3_count_65 : decode cX3_count 65 = .ok (.getfield 10, 3) := by decide +kernel
theorem dX3_count_68 : decode cX3_count 68 = .ok (.aload_n 0, 1) := by decide +kernel
theorem dX3_count_69 : decode cX3_count 69 = .ok (.getfield 10, 3) := by decide +kernel
theorem dX3_count_72 : decode cX3_count 72 = .ok (.getfield 165, 3) := by decide +kernel
theorem dX3_count_75 : decode cX3_count 75 = .ok (.invokevirtual 168, 3) := by decide +kernel
theorem dX3_count_78 : decode cX3_count 78 = .ok (.ireturn, 1) := by decide +kernel
theorem dX3_count_79 : decode cX3_count 79 = .ok (.aload_n 0, 1) := by decide +kernel
theorem dX3_count_80 : decode cX3_count 80 = .ok (.getfield 10, 3) := by decide +kernel
theorem dX3_count_83 : decode cX3_count 83 = .ok (.aload_n 0, 1) := by decide +kernel
theorem dX3_count_84 : decode cX3_count 84 = .ok (.getfield 10, 3) := by decide +kernel
theorem dX3_count_87 : decode cX3_count 87 = .ok (.getfield 142, 3) := by decide +kernel
theorem dX3_count_90 : decode cX3_count 90 = .ok (.invokevirtual 168, 3) := by decide +kernel
theorem dX3_count_93 : decode cX3_count 93 = .ok (.ireturn, 1) := by decide +kernel
theorem dX3_count_94 : decode cX3_count 94 = .ok (.aload_n 0, 1) := by decide +kernel
theorem dX3_count_95 : decode cX3_count 95 = .ok (.getfield 10, 3) := by decide +kernel
theorem dX3_count_98 : decode cX3_count 98 = .ok (.aload_n 0, 1) := by decide +kernel
theorem dX3_count_99 : decode cX3_count 99 = .ok (.getfield 10, 3) := by decide +kernel
theorem dX3_count_102 : decode cX3_count 102 = .ok (.getfield 63, 3) := by decide +kernel
theorem dX3_count_105 : decode cX3_count 105 = .ok (.invokevirtual 168, 3) := by decide +kernel
theorem dX3_count_108 : decode cX3_count 108 = .ok (.ireturn, 1) := by decide +kernel
theorem dX3_count_109 : decode cX3_count 109 = .ok (.aload_n 0, 1) := by decide +kernel
theorem dX3_count_110 : decode cX3_count 110 = .ok (.getfield 25, 3) := by decide +kernel
theorem dX3_count_113 : decode cX3_count 113 = .ok (.getfield 204, 3) := by decide +kernel
theorem dX3_count_116 : decode cX3_count 116 = .ok (.ireturn, 1) := by decide +kernel
theorem dX3_count_117 : decode cX3_count 117 = .ok (.aload_n 0, 1) := by decide +kernel
theorem dX3_count_118 : decode cX3_count 118 = .ok (.getfield 10, 3) := by decide +kernel
theorem dX3_count_121 : decode cX3_count 121 = .ok (.getfield 201, 3) := by decide +kernel
theorem dX3_count_124 : decode cX3_count 124 = .ok (.ireturn, 1) := by decide +kernel
theorem dX3_count_125 : decode cX3_count 125 = .ok (.aload_n 0, 1) := by decide +kernel
theorem dX3_count_126 : decode cX3_count 126 = .ok (.getfield 10, 3) := by decide +kernel
theorem dX3_count_129 : decode cX3_count 129 = .ok (.invokevirtual 273, 3) := by decide +kernel
theorem dX3_count_132 : decode cX3_count 132 = .ok (.ireturn, 1) := by decide +kernel
theorem dX3_count_133 : decode cX3_count 133 = .ok (.aload_n 0, 1) := by decide +kernel
theorem dX3_count_134 : decode cX3_count 134 = .ok (.iconst 0, 1) := by decide +kernel
theorem dX3_count_135 : decode cX3_count 135 = .ok (.invokevirtual 48, 3) := by decide +kernel
theorem dX3_count_138 : decode cX3_count 138 = .ok (.ireturn, 1) := by decide +kernel
theorem dX3_status_0 : decode cX3_status 0 = .ok (.iload_n 1, 1) := by decide +kernel
theorem dX3_status_1 : decode cX3_status 1 = .ok (.iconst (-1), 1) := by decide +kernel
theorem dX3_status_2 : decode cX3_status 2 = .ok (.if_icmp .lt 9, 3) := by decide +kernel
theorem dX3_status_5 : decode cX3_status 5 = .ok (.iload_n 1, 1) := by decide +kernel
theorem dX3_status_6 : decode cX3_status 6 = .ok (.bipush 7, 2) := by decide +kernel
theorem dX3_status_8 : decode cX3_status 8 = .ok (.if_icmp .lt 9, 3) := by decide +kernel
theorem dX3_status_11 : decode cX3_status 11 = .ok (.aload_n 0, 1) := by decide +kernel
theorem dX3_status_12 : decode cX3_status 12 = .ok (.iconst 0, 1) := by decide +kernel
theorem dX3_status_13 : decode cX3_status 13 = .ok (.invokevirtual 48, 3) := by decide +kernel
theorem dX3_status_16 : decode cX3_status 16 = .ok (.ireturn, 1) := by decide +kernel
theorem dX3_status_17 : decode cX3_status 17 = .ok (.iload_n 1, 1) := by decide +kernel
theorem dX3_status_18 : decode cX3_status 18 = .ok (.ifCond .lt 10, 3) := by decide +kernel
theorem dX3_status_21 : decode cX3_status 21 = .ok (.aload_n 0, 1) := by decide +kernel
theorem dX3_status_22 : decode cX3_status 22 = .ok (.getfield 36, 3) := by decide +kernel
theorem dX3_status_25 : decode cX3_status 25 = .ok (.iload_n 1, 1) := by decide +kernel
theorem dX3_status_26 : decode cX3_status 26 = .ok (.iaload, 1) := by decide +kernel
theorem dX3_status_27 : decode cX3_status 27 = .ok (.ireturn, 1) := by decide +kernel
theorem dX3_status_28 : decode cX3_status 28 = .ok (.iconst 0, 1) := by decide +kernel
theorem dX3_status_29 : decode cX3_status 29 = .ok (.istore_n 2, 1) := by decide +kernel
theorem dX3_status_30 : decode cX3_status 30 = .ok (.iconst 0, 1) := by decide +kernel
theorem dX3_status_31 : decode cX3_status 31 = .ok (.istore_n 3, 1) := by decide +kernel
theorem dX3_status_32 : decode cX3_status 32 = .ok (.iload_n 3, 1) := by decide +kernel
theorem dX3_status_33 : decode cX3_status 33 = .ok (.bipush 7, 2) := by decide +kernel
theorem dX3_status_35 : decode cX3_status 35 = .ok (.if_icmp .ge 18, 3) := by decide +kernel
theorem dX3_status_38 : decode cX3_status 38 = .ok (.iload_n 2, 1) := by decide +kernel
theorem dX3_status_39 : decode cX3_status 39 = .ok (.aload_n 0, 1) := by decide +kernel
theorem dX3_status_40 : decode cX3_status 40 = .ok (.getfield 36, 3) := by decide +kernel
theorem dX3_status_43 : decode cX3_status 43 = .ok (.iload_n 3, 1) := by decide +kernel
theorem dX3_status_44 : decode cX3_status 44 = .ok (.iaload, 1) := by decide +kernel
theorem dX3_status_45 : decode cX3_status 45 = .ok (.iadd, 1) := by decide +kernel
theorem dX3_status_46 : decode cX3_status 46 = .ok (.istore_n 2, 1) := by decide +kernel
theorem dX3_status_47 : decode cX3_status 47 = .ok (.iinc 3 1, 3) := by decide +kernel
theorem dX3_status_50 : decode cX3_status 50 = .ok (.goto (-18), 3) := by decide +kernel
theorem dX3_status_53 : decode cX3_status 53 = .ok (.iload_n 2, 1) := by decide +kernel
theorem dX3_status_54 : decode cX3_status 54 = .ok (.ireturn, 1) := by decide +kernel
theorem dX3_finding_0 : decode cX3_finding 0 = .ok (.iload_n 1, 1) := by decide +kernel
theorem dX3_finding_1 : decode cX3_finding 1 = .ok (.ifCond .lt 19, 3) := by decide +kernel
theorem dX3_finding_4 : decode cX3_finding 4 = .ok (.iload_n 1, 1) := by decide +kernel
theorem dX3_finding_5 : decode cX3_finding 5 = .ok (.bipush 7, 2) := by decide +kernel
theorem dX3_finding_7 : decode cX3_finding 7 = .ok (.if_icmp .ge 13, 3) := by decide +kernel
theorem dX3_finding_10 : decode cX3_finding 10 = .ok (.aload_n 0, 1) := by decide +kernel
theorem dX3_finding_11 : decode cX3_finding 11 = .ok (.getfield 36, 3) := by decide +kernel
theorem dX3_finding_14 : decode cX3_finding 14 = .ok (.iload_n 1, 1) := by decide +kernel
theorem dX3_finding_15 : decode cX3_finding 15 = .ok (.dup2, 1) := by decide +kernel
theorem dX3_finding_16 : decode cX3_finding 16 = .ok (.iaload, 1) := by decide +kernel
theorem dX3_finding_17 : decode cX3_finding 17 = .ok (.iconst 1, 1) := by decide +kernel
theorem dX3_finding_18 : decode cX3_finding 18 = .ok (.iadd, 1) := by decide +kernel
theorem dX3_finding_19 : decode cX3_finding 19 = .ok (.iastore, 1) := by decide +kernel
theorem dX3_finding_20 : decode cX3_finding 20 = .ok (.ldc_w 276, 3) := by decide +kernel
theorem dX3_finding_23 : decode cX3_finding 23 = .ok (.iload_n 1, 1) := by decide +kernel
theorem dX3_finding_24 : decode cX3_finding 24 = .ok (.isub, 1) := by decide +kernel
theorem dX3_finding_25 : decode cX3_finding 25 = .ok (.ireturn, 1) := by decide +kernel
theorem dX3_hindrance_0 : decode cX3_hindrance 0 = .ok (.iload_n 1, 1) := by decide +kernel
theorem dX3_hindrance_1 : decode cX3_hindrance 1 = .ok (.iconst 1, 1) := by decide +kernel
theorem dX3_hindrance_2 : decode cX3_hindrance 2 = .ok (.if_icmp .lt 9, 3) := by decide +kernel
theorem dX3_hindrance_5 : decode cX3_hindrance 5 = .ok (.iload_n 1, 1) := by decide +kernel
theorem dX3_hindrance_6 : decode cX3_hindrance 6 = .ok (.bipush 60, 2) := by decide +kernel
theorem dX3_hindrance_8 : decode cX3_hindrance 8 = .ok (.if_icmp .le 5, 3) := by decide +kernel
theorem dX3_hindrance_11 : decode cX3_hindrance 11 = .ok (.iconst 0, 1) := by decide +kernel
theorem dX3_hindrance_12 : decode cX3_hindrance 12 = .ok (.ireturn, 1) := by decide +kernel
theorem dX3_hindrance_13 : decode cX3_hindrance 13 = .ok (.aload_n 0, 1) := by decide +kernel
theorem dX3_hindrance_14 : decode cX3_hindrance 14 = .ok (.getfield 10, 3) := by decide +kernel
theorem dX3_hindrance_17 : decode cX3_hindrance 17 = .ok (.getfield 97, 3) := by decide +kernel
theorem dX3_hindrance_20 : decode cX3_hindrance 20 = .ok (.iload_n 1, 1) := by decide +kernel
theorem dX3_hindrance_21 : decode cX3_hindrance 21 = .ok (.iadd, 1) := by decide +kernel
theorem dX3_hindrance_22 : decode cX3_hindrance 22 = .ok (.sipush 999, 3) := by decide +kernel
theorem dX3_hindrance_25 : decode cX3_hindrance 25 = .ok (.if_icmp .le 7, 3) := by decide +kernel
theorem dX3_hindrance_28 : decode cX3_hindrance 28 = .ok (.iconst 4, 1) := by decide +kernel
theorem dX3_hindrance_29 : decode cX3_hindrance 29 = .ok (.goto 4, 3) := by decide +kernel
theorem dX3_hindrance_32 : decode cX3_hindrance 32 = .ok (.iconst (-1), 1) := by decide +kernel
theorem dX3_hindrance_33 : decode cX3_hindrance 33 = .ok (.ireturn, 1) := by decide +kernel
theorem dX3_sheetHindrance_0 : decode cX3_sheetHindrance 0 = .ok (.iload_n 1, 1) := by decide +kernel
theorem dX3_sheetHindrance_1 : decode cX3_sheetHindrance 1 = .ok (.invokestatic 235, 3) := by decide +kernel
theorem dX3_sheetHindrance_4 : decode cX3_sheetHindrance 4 = .ok (.ifCond .ne 5, 3) := by decide +kernel
theorem dX3_sheetHindrance_7 : decode cX3_sheetHindrance 7 = .ok (.iconst 0, 1) := by decide +kernel
theorem dX3_sheetHindrance_8 : decode cX3_sheetHindrance 8 = .ok (.ireturn, 1) := by decide +kernel
theorem dX3_sheetHindrance_9 : decode cX3_sheetHindrance 9 = .ok (.aload_n 0, 1) := by decide +kernel
theorem dX3_sheetHindrance_10 : decode cX3_sheetHindrance 10 = .ok (.getfield 31, 3) := by decide +kernel
theorem dX3_sheetHindrance_13 : decode cX3_sheetHindrance 13 = .ok (.iload_n 1, 1) := by decide +kernel
theorem dX3_sheetHindrance_14 : decode cX3_sheetHindrance 14 = .ok (.aaload, 1) := by decide +kernel
theorem dX3_sheetHindrance_15 : decode cX3_sheetHindrance 15 = .ok (.getfield 250, 3) := by decide +kernel
theorem dX3_sheetHindrance_18 : decode cX3_sheetHindrance 18 = .ok (.ifCond .ne 7, 3) := by decide +kernel
theorem dX3_sheetHindrance_21 : decode cX3_sheetHindrance 21 = .ok (.iconst 5, 1) := by decide +kernel
theorem dX3_sheetHindrance_22 : decode cX3_sheetHindrance 22 = .ok (.goto 4, 3) := by decide +kernel
theorem dX3_sheetHindrance_25 : decode cX3_sheetHindrance 25 = .ok (.iconst (-1), 1) := by decide +kernel
theorem dX3_sheetHindrance_26 : decode cX3_sheetHindrance 26 = .ok (.ireturn, 1) := by decide +kernel
theorem dX3_isKind_0 : decode cX3_isKind 0 = .ok (.iload_n 0, 1) := by decide +kernel
theorem dX3_isKind_1 : decode cX3_isKind 1 = .ok (.ifCond .lt 13, 3) := by decide +kernel
theorem dX3_isKind_4 : decode cX3_isKind 4 = .ok (.iload_n 0, 1) := by decide +kernel
theorem dX3_isKind_5 : decode cX3_isKind 5 = .ok (.bipush 7, 2) := by decide +kernel
theorem dX3_isKind_7 : decode cX3_isKind 7 = .ok (.if_icmp .ge 7, 3) := by decide +kernel
theorem dX3_isKind_10 : decode cX3_isKind 10 = .ok (.iconst 1, 1) := by decide +kernel
theorem dX3_isKind_11 : decode cX3_isKind 11 = .ok (.goto 4, 3) := by decide +kernel
theorem dX3_isKind_14 : decode cX3_isKind 14 = .ok (.iconst 0, 1) := by decide +kernel
theorem dX3_isKind_15 : decode cX3_isKind 15 = .ok (.ireturn, 1) := by decide +kernel
theorem dX3_isSpot_0 : decode cX3_isSpot 0 = .ok (.iload_n 0, 1) := by decide +kernel
theorem dX3_isSpot_1 : decode cX3_isSpot 1 = .ok (.ifCond .lt 13, 3) := by decide +kernel
theorem dX3_isSpot_4 : decode cX3_isSpot 4 = .ok (.iload_n 0, 1) := by decide +kernel
theorem dX3_isSpot_5 : decode cX3_isSpot 5 = .ok (.bipush 10, 2) := by decide +kernel
theorem dX3_isSpot_7 : decode cX3_isSpot 7 = .ok (.if_icmp .ge 7, 3) := by decide +kernel
theorem dX3_isSpot_10 : decode cX3_isSpot 10 = .ok (.iconst 1, 1) := by decide +kernel
theorem dX3_isSpot_11 : decode cX3_isSpot 11 = .ok (.goto 4, 3) := by decide +kernel
theorem dX3_isSpot_14 : decode cX3_isSpot 14 = .ok (.iconst 0, 1) := by decide +kernel
theorem dX3_isSpot_15 : decode cX3_isSpot 15 = .ok (.ireturn, 1) := by decide +kernel
theorem dX3_isSheet_0 : decode cX3_isSheet 0 = .ok (.iload_n 0, 1) := by decide +kernel
theorem dX3_isSheet_1 : decode cX3_isSheet 1 = .ok (.ifCond .lt 12, 3) := by decide +kernel
theorem dX3_isSheet_4 : decode cX3_isSheet 4 = .ok (.iload_n 0, 1) := by decide +kernel
theorem dX3_isSheet_5 : decode cX3_isSheet 5 = .ok (.iconst 4, 1) := by decide +kernel
theorem dX3_isSheet_6 : decode cX3_isSheet 6 = .ok (.if_icmp .ge 7, 3) := by decide +kernel
theorem dX3_isSheet_9 : decode cX3_isSheet 9 = .ok (.iconst 1, 1) := by decide +kernel
theorem dX3_isSheet_10 : decode cX3_isSheet 10 = .ok (.goto 4, 3) := by decide +kernel
theorem dX3_isSheet_13 : decode cX3_isSheet 13 = .ok (.iconst 0, 1) := by decide +kernel
theorem dX3_isSheet_14 : decode cX3_isSheet 14 = .ok (.ireturn, 1) := by decide +kernel
theorem dX3_isUnder_0 : decode cX3_isUnder 0 = .ok (.iload_n 0, 1) := by decide +kernel
theorem dX3_isUnder_1 : decode cX3_isUnder 1 = .ok (.istore_n 2, 1) := by decide +kernel
theorem dX3_isUnder_2 : decode cX3_isUnder 2 = .ok (.iconst 0, 1) := by decide +kernel
theorem dX3_isUnder_3 : decode cX3_isUnder 3 = .ok (.istore_n 3, 1) := by decide +kernel
theorem dX3_isUnder_4 : decode cX3_isUnder 4 = .ok (.iload_n 3, 1) := by decide +kernel
theorem dX3_isUnder_5 : decode cX3_isUnder 5 = .ok (.bipush 7, 2) := by decide +kernel
theorem dX3_isUnder_7 : decode cX3_isUnder 7 = .ok (.if_icmp .ge 29, 3) := by decide +kernel
theorem dX3_isUnder_10 : decode cX3_isUnder 10 = .ok (.iload_n 2, 1) := by decide +kernel
theorem dX3_isUnder_11 : decode cX3_isUnder 11 = .ok (.invokestatic 44, 3) := by decide +kernel
theorem dX3_isUnder_14 : decode cX3_isUnder 14 = .ok (.ifCond .eq 22, 3) := by decide +kernel
theorem dX3_isUnder_17 : decode cX3_isUnder 17 = .ok (.iload_n 2, 1) := by decide +kernel
theorem dX3_isUnder_18 : decode cX3_isUnder 18 = .ok (.iload_n 1, 1) := by decide +kernel
theorem dX3_isUnder_19 : decode cX3_isUnder 19 = .ok (.if_icmp .ne 5, 3) := by decide +kernel
theorem dX3_isUnder_22 : decode cX3_isUnder 22 = .ok (.iconst 1, 1) := by decide +kernel
theorem dX3_isUnder_23 : decode cX3_isUnder 23 = .ok (.ireturn, 1) := by decide +kernel
theorem dX3_isUnder_24 : decode cX3_isUnder 24 = .ok (.getstatic 277, 3) := by decide +kernel
theorem dX3_isUnder_27 : decode cX3_isUnder 27 = .ok (.iload_n 2, 1) := by decide +kernel
theorem dX3_isUnder_28 : decode cX3_isUnder 28 = .ok (.iaload, 1) := by decide +kernel
theorem dX3_isUnder_29 : decode cX3_isUnder 29 = .ok (.istore_n 2, 1) := by decide +kernel
theorem dX3_isUnder_30 : decode cX3_isUnder 30 = .ok (.iinc 3 1, 3) := by decide +kernel
theorem dX3_isUnder_33 : decode cX3_isUnder 33 = .ok (.goto (-29), 3) := by decide +kernel
theorem dX3_isUnder_36 : decode cX3_isUnder 36 = .ok (.iconst 0, 1) := by decide +kernel
theorem dX3_isUnder_37 : decode cX3_isUnder 37 = .ok (.ireturn, 1) := by decide +kernel
theorem dX3_leastCalmRuling_0 : decode cX3_leastCalmRuling 0 = .ok (.aload_n 0, 1) := by decide +kernel
theorem dX3_leastCalmRuling_1 : decode cX3_leastCalmRuling 1 = .ok (.iload_n 2, 1) := by decide +kernel
theorem dX3_leastCalmRuling_2 : decode cX3_leastCalmRuling 2 = .ok (.invokevirtual 159, 3) := by decide +kernel
theorem dX3_leastCalmRuling_5 : decode cX3_leastCalmRuling 5 = .ok (.istore_n 3, 1) := by decide +kernel
theorem dX3_leastCalmRuling_6 : decode cX3_leastCalmRuling 6 = .ok (.iload_n 3, 1) := by decide +kernel
theorem dX3_leastCalmRuling_7 : decode cX3_leastCalmRuling 7 = .ok (.iconst (-1), 1) := by decide +kernel
theorem dX3_leastCalmRuling_8 : decode cX3_leastCalmRuling 8 = .ok (.if_icmp .eq 9, 3) := by decide +kernel
theorem dX3_leastCalmRuling_11 : decode cX3_leastCalmRuling 11 = .ok (.aload_n 0, 1) := by decide +kernel
theorem dX3_leastCalmRuling_12 : decode cX3_leastCalmRuling 12 = .ok (.iload_n 3, 1) := by decide +kernel
theorem dX3_leastCalmRuling_13 : decode cX3_leastCalmRuling 13 = .ok (.invokevirtual 48, 3) := by decide +kernel
theorem dX3_leastCalmRuling_16 : decode cX3_leastCalmRuling 16 = .ok (.ireturn, 1) := by decide +kernel
theorem dX3_leastCalmRuling_17 : decode cX3_leastCalmRuling 17 = .ok (.iconst 0, 1) := by decide +kernel
theorem dX3_leastCalmRuling_18 : decode cX3_leastCalmRuling 18 = .ok (.istore 4, 2) := by decide +kernel
theorem dX3_leastCalmRuling_20 : decode cX3_leastCalmRuling 20 = .ok (.iload 4, 2) := by decide +kernel
theorem dX3_leastCalmRuling_22 : decode cX3_leastCalmRuling 22 = .ok (.bipush 10, 2) := by decide +kernel
theorem dX3_leastCalmRuling_24 : decode cX3_leastCalmRuling 24 = .ok (.if_icmp .gt 54, 3) := by decide +kernel
theorem dX3_leastCalmRuling_27 : decode cX3_leastCalmRuling 27 = .ok (.iload_n 1, 1) := by decide +kernel
theorem dX3_leastCalmRuling_28 : decode cX3_leastCalmRuling 28 = .ok (.iload 4, 2) := by decide +kernel
theorem dX3_leastCalmRuling_30 : decode cX3_leastCalmRuling 30 = .ok (.invokestatic 87, 3) := by decide +kernel
theorem dX3_leastCalmRuling_33 : decode cX3_leastCalmRuling 33 = .ok (.ifCond .eq 39, 3) := by decide +kernel
theorem dX3_leastCalmRuling_36 : decode cX3_leastCalmRuling 36 = .ok (.aload_n 0, 1) := by decide +kernel
theorem dX3_leastCalmRuling_37 : decode cX3_leastCalmRuling 37 = .ok (.getfield 16, 3) := by decide +kernel
theorem dX3_leastCalmRuling_40 : decode cX3_leastCalmRuling 40 = .ok (.aload_n 0, 1) := by decide +kernel
theorem dX3_leastCalmRuling_41 : decode cX3_leastCalmRuling 41 = .ok (.getfield 10, 3) := by decide +kernel
theorem dX3_leastCalmRuling_44 : decode cX3_leastCalmRuling 44 = .ok (.invokevirtual 131, 3) := by decide +kernel
theorem dX3_leastCalmRuling_47 : decode cX3_leastCalmRuling 47 = .ok (.aload_n 0, 1) := by decide +kernel
theorem dX3_leastCalmRuling_48 : decode cX3_leastCalmRuling 48 = .ok (.getfield 16, 3) := by decide +kernel
theorem dX3_leastCalmRuling_51 : decode cX3_leastCalmRuling 51 = .ok (.iload_n 1, 1) := by decide +kernel
theorem dX3_leastCalmRuling_52 : decode cX3_leastCalmRuling 52 = .ok (.iload 4, 2) := by decide +kernel
theorem dX3_leastCalmRuling_54 : decode cX3_leastCalmRuling 54 = .ok (.invokevirtual 93, 3) := by decide +kernel
theorem dX3_leastCalmRuling_57 : decode cX3_leastCalmRuling 57 = .ok (.aload_n 0, 1) := by decide +kernel
theorem dX3_leastCalmRuling_58 : decode cX3_leastCalmRuling 58 = .ok (.getfield 16, 3) := by decide +kernel
theorem dX3_leastCalmRuling_61 : decode cX3_leastCalmRuling 61 = .ok (.iload_n 2, 1) := by decide +kernel
theorem dX3_leastCalmRuling_62 : decode cX3_leastCalmRuling 62 = .ok (.invokevirtual 172, 3) := by decide +kernel
theorem dX3_leastCalmRuling_65 : decode cX3_leastCalmRuling 65 = .ok (.iload_n 2, 1) := by decide +kernel
theorem dX3_leastCalmRuling_66 : decode cX3_leastCalmRuling 66 = .ok (.if_icmp .ne 6, 3) := by decide +kernel
theorem dX3_leastCalmRuling_69 : decode cX3_leastCalmRuling 69 = .ok (.iload 4, 2) := by decide +kernel
theorem dX3_leastCalmRuling_71 : decode cX3_leastCalmRuling 71 = .ok (.ireturn, 1) := by decide +kernel
theorem dX3_leastCalmRuling_72 : decode cX3_leastCalmRuling 72 = .ok (.iinc 4 1, 3) := by decide +kernel
theorem dX3_leastCalmRuling_75 : decode cX3_leastCalmRuling 75 = .ok (.goto (-55), 3) := by decide +kernel
theorem dX3_leastCalmRuling_78 : decode cX3_leastCalmRuling 78 = .ok (.aload_n 0, 1) := by decide +kernel
theorem dX3_leastCalmRuling_79 : decode cX3_leastCalmRuling 79 = .ok (.iconst 3, 1) := by decide +kernel
theorem dX3_leastCalmRuling_80 : decode cX3_leastCalmRuling 80 = .ok (.invokevirtual 48, 3) := by decide +kernel
theorem dX3_leastCalmRuling_83 : decode cX3_leastCalmRuling 83 = .ok (.ireturn, 1) := by decide +kernel
theorem dX3_waysThat_0 : decode cX3_waysThat 0 = .ok (.aload_n 0, 1) := by decide +kernel
theorem dX3_waysThat_1 : decode cX3_waysThat 1 = .ok (.getfield 16, 3) := by decide +kernel
theorem dX3_waysThat_4 : decode cX3_waysThat 4 = .ok (.aload_n 0, 1) := by decide +kernel
theorem dX3_waysThat_5 : decode cX3_waysThat 5 = .ok (.getfield 10, 3) := by decide +kernel
theorem dX3_waysThat_8 : decode cX3_waysThat 8 = .ok (.invokevirtual 131, 3) := by decide +kernel
theorem dX3_waysThat_11 : decode cX3_waysThat 11 = .ok (.lconst 0, 1) := by decide +kernel
theorem dX3_waysThat_12 : decode cX3_waysThat 12 = .ok (.lstore_n 3, 1) := by decide +kernel
theorem dX3_waysThat_13 : decode cX3_waysThat 13 = .ok (.iconst 1, 1) := by decide +kernel
theorem dX3_waysThat_14 : decode cX3_waysThat 14 = .ok (.aload_n 0, 1) := by decide +kernel
theorem dX3_waysThat_15 : decode cX3_waysThat 15 = .ok (.getfield 16, 3) := by decide +kernel
theorem dX3_waysThat_18 : decode cX3_waysThat 18 = .ok (.invokevirtual 280, 3) := by decide +kernel
theorem dX3_waysThat_21 : decode cX3_waysThat 21 = .ok (.ishl, 1) := by decide +kernel
theorem dX3_waysThat_22 : decode cX3_waysThat 22 = .ok (.istore 5, 2) := by decide +kernel
theorem dX3_waysThat_24 : decode cX3_waysThat 24 = .ok (.iconst 0, 1) := by decide +kernel
theorem dX3_waysThat_25 : decode cX3_waysThat 25 = .ok (.istore 6, 2) := by decide +kernel
theorem dX3_waysThat_27 : decode cX3_waysThat 27 = .ok (.iload 6, 2) := by decide +kernel
theorem dX3_waysThat_29 : decode cX3_waysThat 29 = .ok (.iload 5, 2) := by decide +kernel
theorem dX3_waysThat_31 : decode cX3_waysThat 31 = .ok (.if_icmp .ge 54, 3) := by decide +kernel
theorem dX3_waysThat_34 : decode cX3_waysThat 34 = .ok (.aload_n 0, 1) := by decide +kernel
theorem dX3_waysThat_35 : decode cX3_waysThat 35 = .ok (.getfield 16, 3) := by decide +kernel
theorem dX3_waysThat_38 : decode cX3_waysThat 38 = .ok (.iload 6, 2) := by decide +kernel
theorem dX3_waysThat_40 : decode cX3_waysThat 40 = .ok (.invokevirtual 283, 3) := by decide +kernel
theorem dX3_waysThat_43 : decode cX3_waysThat 43 = .ok (.ifCond .eq 36, 3) := by decide +kernel
theorem dX3_waysThat_46 : decode cX3_waysThat 46 = .ok (.aload_n 0, 1) := by decide +kernel
theorem dX3_waysThat_47 : decode cX3_waysThat 47 = .ok (.getfield 16, 3) := by decide +kernel
theorem dX3_waysThat_50 : decode cX3_waysThat 50 = .ok (.iload 6, 2) := by decide +kernel
theorem dX3_waysThat_52 : decode cX3_waysThat 52 = .ok (.invokevirtual 286, 3) := by decide +kernel
theorem dX3_waysThat_55 : decode cX3_waysThat 55 = .ok (.aload_n 0, 1) := by decide +kernel
theorem dX3_waysThat_56 : decode cX3_waysThat 56 = .ok (.getfield 16, 3) := by decide +kernel
theorem dX3_waysThat_59 : decode cX3_waysThat 59 = .ok (.invokevirtual 128, 3) := by decide +kernel
theorem dX3_waysThat_62 : decode cX3_waysThat 62 = .ok (.istore 7, 2) := by decide +kernel
theorem dX3_waysThat_64 : decode cX3_waysThat 64 = .ok (.aload_n 0, 1) := by decide +kernel
theorem dX3_waysThat_65 : decode cX3_waysThat 65 = .ok (.iload_n 1, 1) := by decide +kernel
theorem dX3_waysThat_66 : decode cX3_waysThat 66 = .ok (.iload_n 2, 1) := by decide +kernel
theorem dX3_waysThat_67 : decode cX3_waysThat 67 = .ok (.iload 7, 2) := by decide +kernel
theorem dX3_waysThat_69 : decode cX3_waysThat 69 = .ok (.invokevirtual 289, 3) := by decide +kernel
theorem dX3_waysThat_72 : decode cX3_waysThat 72 = .ok (.ifCond .eq 7, 3) := by decide +kernel
theorem dX3_waysThat_75 : decode cX3_waysThat 75 = .ok (.lload_n 3, 1) := by decide +kernel
theorem dX3_waysThat_76 : decode cX3_waysThat 76 = .ok (.lconst 1, 1) := by decide +kernel
theorem dX3_waysThat_77 : decode cX3_waysThat 77 = .ok (.ladd, 1) := by decide +kernel
theorem dX3_waysThat_78 : decode cX3_waysThat 78 = .ok (.lstore_n 3, 1) := by decide +kernel
theorem dX3_waysThat_79 : decode cX3_waysThat 79 = .ok (.iinc 6 1, 3) := by decide +kernel
theorem dX3_waysThat_82 : decode cX3_waysThat 82 = .ok (.goto (-55), 3) := by decide +kernel
theorem dX3_waysThat_85 : decode cX3_waysThat 85 = .ok (.lload_n 3, 1) := by decide +kernel
theorem dX3_waysThat_86 : decode cX3_waysThat 86 = .ok (.lreturn, 1) := by decide +kernel
theorem dX3_isSo_0 : decode cX3_isSo 0 = .ok (.iload_n 1, 1) := by decide +kernel
theorem dX3_isSo_1 : decode cX3_isSo 1 = .ok (.tableswitch 97 1 3 #[27, 57, 68], 27) := by decide +kernel
theorem dX3_isSo_28 : decode cX3_isSo 28 = .ok (.aload_n 0, 1) := by decide +kernel
theorem dX3_isSo_29 : decode cX3_isSo 29 = .ok (.getfield 16, 3) := by decide +kernel
theorem dX3_isSo_32 : decode cX3_isSo 32 = .ok (.iload_n 2, 1) := by decide +kernel
theorem dX3_isSo_33 : decode cX3_isSo 33 = .ok (.invokevirtual 60, 3) := by decide +kernel
theorem dX3_isSo_36 : decode cX3_isSo 36 = .ok (.ifCond .eq 20, 3) := by decide +kernel
theorem dX3_isSo_39 : decode cX3_isSo 39 = .ok (.aload_n 0, 1) := by decide +kernel
theorem dX3_isSo_40 : decode cX3_isSo 40 = .ok (.getfield 16, 3) := by decide +kernel
theorem dX3_isSo_43 : decode cX3_isSo 43 = .ok (.getfield 119, 3) := by decide +kernel
theorem dX3_isSo_46 : decode cX3_isSo 46 = .ok (.iload_n 2, 1) := by decide +kernel
theorem dX3_isSo_47 : decode cX3_isSo 47 = .ok (.iaload, 1) := by decide +kernel
theorem dX3_isSo_48 : decode cX3_isSo 48 = .ok (.iconst 1, 1) := by decide +kernel
theorem dX3_isSo_49 : decode cX3_isSo 49 = .ok (.if_icmp .ne 7, 3) := by decide +kernel
theorem dX3_isSo_52 : decode cX3_isSo 52 = .ok (.iconst 1, 1) := by decide +kernel
theorem dX3_isSo_53 : decode cX3_isSo 53 = .ok (.goto 4, 3) := by decide +kernel
theorem dX3_isSo_56 : decode cX3_isSo 56 = .ok (.iconst 0, 1) := by decide +kernel
theorem dX3_isSo_57 : decode cX3_isSo 57 = .ok (.ireturn, 1) := by decide +kernel
theorem dX3_isSo_58 : decode cX3_isSo 58 = .ok (.iload_n 3, 1) := by decide +kernel
theorem dX3_isSo_59 : decode cX3_isSo 59 = .ok (.iload_n 2, 1) := by decide +kernel
theorem dX3_isSo_60 : decode cX3_isSo 60 = .ok (.if_icmp .ne 7, 3) := by decide +kernel
theorem dX3_isSo_63 : decode cX3_isSo 63 = .ok (.iconst 1, 1) := by decide +kernel
theorem dX3_isSo_64 : decode cX3_isSo 64 = .ok (.goto 4, 3) := by decide +kernel
theorem dX3_isSo_67 : decode cX3_isSo 67 = .ok (.iconst 0, 1) := by decide +kernel
theorem dX3_isSo_68 : decode cX3_isSo 68 = .ok (.ireturn, 1) := by decide +kernel
theorem dX3_isSo_69 : decode cX3_isSo 69 = .ok (.iload_n 2, 1) := by decide +kernel
theorem dX3_isSo_70 : decode cX3_isSo 70 = .ok (.invokestatic 235, 3) := by decide +kernel
theorem dX3_isSo_73 : decode cX3_isSo 73 = .ok (.ifCond .eq 23, 3) := by decide +kernel
theorem dX3_isSo_76 : decode cX3_isSo 76 = .ok (.aload_n 0, 1) := by decide +kernel
theorem dX3_isSo_77 : decode cX3_isSo 77 = .ok (.getfield 16, 3) := by decide +kernel
theorem dX3_isSo_80 : decode cX3_isSo 80 = .ok (.aload_n 0, 1) := by decide +kernel
theorem dX3_isSo_81 : decode cX3_isSo 81 = .ok (.getfield 31, 3) := by decide +kernel
theorem dX3_isSo_84 : decode cX3_isSo 84 = .ok (.iload_n 2, 1) := by decide +kernel
theorem dX3_isSo_85 : decode cX3_isSo 85 = .ok (.aaload, 1) := by decide +kernel
theorem dX3_isSo_86 : decode cX3_isSo 86 = .ok (.invokevirtual 292, 3) := by decide +kernel
theorem dX3_isSo_89 : decode cX3_isSo 89 = .ok (.ifCond .eq 7, 3) := by decide +kernel
theorem dX3_isSo_92 : decode cX3_isSo 92 = .ok (.iconst 1, 1) := by decide +kernel
theorem dX3_isSo_93 : decode cX3_isSo 93 = .ok (.goto 4, 3) := by decide +kernel
theorem dX3_isSo_96 : decode cX3_isSo 96 = .ok (.iconst 0, 1) := by decide +kernel
theorem dX3_isSo_97 : decode cX3_isSo 97 = .ok (.ireturn, 1) := by decide +kernel
theorem dX3_isSo_98 : decode cX3_isSo 98 = .ok (.iconst 1, 1) := by decide +kernel
theorem dX3_isSo_99 : decode cX3_isSo 99 = .ok (.ireturn, 1) := by decide +kernel
theorem dX3_bestTrait_0 : decode cX3_bestTrait 0 = .ok (.aload_n 0, 1) := by decide +kernel
theorem dX3_bestTrait_1 : decode cX3_bestTrait 1 = .ok (.getfield 10, 3) := by decide +kernel
theorem dX3_bestTrait_4 : decode cX3_bestTrait 4 = .ok (.iload_n 1, 1) := by decide +kernel
theorem dX3_bestTrait_5 : decode cX3_bestTrait 5 = .ok (.invokevirtual 60, 3) := by decide +kernel
theorem dX3_bestTrait_8 : decode cX3_bestTrait 8 = .ok (.ifCond .eq 12, 3) := by decide +kernel
theorem dX3_bestTrait_11 : decode cX3_bestTrait 11 = .ok (.aload_n 0, 1) := by decide +kernel
theorem dX3_bestTrait_12 : decode cX3_bestTrait 12 = .ok (.iload 4, 2) := by decide +kernel
theorem dX3_bestTrait_14 : decode cX3_bestTrait 14 = .ok (.invokevirtual 159, 3) := by decide +kernel
theorem dX3_bestTrait_17 : decode cX3_bestTrait 17 = .ok (.goto 4, 3) := by decide +kernel
theorem dX3_bestTrait_20 : decode cX3_bestTrait 20 = .ok (.iconst 0, 1) := by decide +kernel
theorem dX3_bestTrait_21 : decode cX3_bestTrait 21 = .ok (.istore 5, 2) := by decide +kernel
theorem dX3_bestTrait_23 : decode cX3_bestTrait 23 = .ok (.iload 5, 2) := by decide +kernel
theorem dX3_bestTrait_25 : decode cX3_bestTrait 25 = .ok (.iconst (-1), 1) := by decide +kernel
theorem dX3_bestTrait_26 : decode cX3_bestTrait 26 = .ok (.if_icmp .eq 10, 3) := by decide +kernel
theorem dX3_bestTrait_29 : decode cX3_bestTrait 29 = .ok (.aload_n 0, 1) := by decide +kernel
theorem dX3_bestTrait_30 : decode cX3_bestTrait 30 = .ok (.iload 5, 2) := by decide +kernel
theorem dX3_bestTrait_32 : decode cX3_bestTrait 32 = .ok (.invokevirtual 48, 3) := by decide +kernel
theorem dX3_bestTrait_35 : decode cX3_bestTrait 35 = .ok (.ireturn, 1) := by decide +kernel
theorem dX3_bestTrait_36 : decode cX3_bestTrait 36 = .ok (.iconst 0, 1) := by decide +kernel
theorem dX3_bestTrait_37 : decode cX3_bestTrait 37 = .ok (.istore 6, 2) := by decide +kernel
theorem dX3_bestTrait_39 : decode cX3_bestTrait 39 = .ok (.iconst 0, 1) := by decide +kernel
theorem dX3_bestTrait_40 : decode cX3_bestTrait 40 = .ok (.istore 7, 2) := by decide +kernel
theorem dX3_bestTrait_42 : decode cX3_bestTrait 42 = .ok (.iconst 0, 1) := by decide +kernel
theorem dX3_bestTrait_43 : decode cX3_bestTrait 43 = .ok (.istore 8, 2) := by decide +kernel
theorem dX3_bestTrait_45 : decode cX3_bestTrait 45 = .ok (.iload 8, 2) := by decide +kernel
theorem dX3_bestTrait_47 : decode cX3_bestTrait 47 = .ok (.iload_n 3, 1) := by decide +kernel
theorem dX3_bestTrait_48 : decode cX3_bestTrait 48 = .ok (.if_icmp .ge 90, 3) := by decide +kernel
theorem dX3_bestTrait_51 : decode cX3_bestTrait 51 = .ok (.aload_n 0, 1) := by decide +kernel
theorem dX3_bestTrait_52 : decode cX3_bestTrait 52 = .ok (.getfield 16, 3) := by decide +kernel
theorem dX3_bestTrait_55 : decode cX3_bestTrait 55 = .ok (.aload_n 0, 1) := by decide +kernel
theorem dX3_bestTrait_56 : decode cX3_bestTrait 56 = .ok (.getfield 10, 3) := by decide +kernel
theorem dX3_bestTrait_59 : decode cX3_bestTrait 59 = .ok (.invokevirtual 131, 3) := by decide +kernel
theorem dX3_bestTrait_62 : decode cX3_bestTrait 62 = .ok (.aload_n 0, 1) := by decide +kernel
theorem dX3_bestTrait_63 : decode cX3_bestTrait 63 = .ok (.getfield 16, 3) := by decide +kernel
theorem dX3_bestTrait_66 : decode cX3_bestTrait 66 = .ok (.iload_n 1, 1) := by decide +kernel
theorem dX3_bestTrait_67 : decode cX3_bestTrait 67 = .ok (.iload_n 2, 1) := by decide +kernel
theorem dX3_bestTrait_68 : decode cX3_bestTrait 68 = .ok (.iload 8, 2) := by decide +kernel
theorem dX3_bestTrait_70 : decode cX3_bestTrait 70 = .ok (.invokevirtual 83, 3) := by decide +kernel
theorem dX3_bestTrait_73 : decode cX3_bestTrait 73 = .ok (.aload_n 0, 1) := by decide +kernel
theorem dX3_bestTrait_74 : decode cX3_bestTrait 74 = .ok (.getfield 16, 3) := by decide +kernel
theorem dX3_bestTrait_77 : decode cX3_bestTrait 77 = .ok (.iload 4, 2) := by decide +kernel
theorem dX3_bestTrait_79 : decode cX3_bestTrait 79 = .ok (.invokevirtual 162, 3) := by decide +kernel
theorem dX3_bestTrait_82 : decode cX3_bestTrait 82 = .ok (.pop, 1) := by decide +kernel
theorem dX3_bestTrait_83 : decode cX3_bestTrait 83 = .ok (.iload_n 2, 1) := by decide +kernel
theorem dX3_bestTrait_84 : decode cX3_bestTrait 84 = .ok (.iconst 2, 1) := by decide +kernel
theorem dX3_bestTrait_85 : decode cX3_bestTrait 85 = .ok (.if_icmp .ne 15, 3) := by decide +kernel
theorem dX3_bestTrait_88 : decode cX3_bestTrait 88 = .ok (.aload_n 0, 1) := by decide +kernel
theorem dX3_bestTrait_89 : decode cX3_bestTrait 89 = .ok (.getfield 16, 3) := by decide +kernel
theorem dX3_bestTrait_92 : decode cX3_bestTrait 92 = .ok (.getfield 63, 3) := by decide +kernel
theorem dX3_bestTrait_95 : decode cX3_bestTrait 95 = .ok (.iload_n 1, 1) := by decide +kernel
theorem dX3_bestTrait_96 : decode cX3_bestTrait 96 = .ok (.iaload, 1) := by decide +kernel
theorem dX3_bestTrait_97 : decode cX3_bestTrait 97 = .ok (.goto 13, 3) := by decide +kernel
theorem dX3_bestTrait_100 : decode cX3_bestTrait 100 = .ok (.aload_n 0, 1) := by decide +kernel
theorem dX3_bestTrait_101 : decode cX3_bestTrait 101 = .ok (.getfield 16, 3) := by decide +kernel
theorem dX3_bestTrait_104 : decode cX3_bestTrait 104 = .ok (.getfield 165, 3) := by decide +kernel
theorem dX3_bestTrait_107 : decode cX3_bestTrait 107 = .ok (.iload_n 1, 1) := by decide +kernel
theorem dX3_bestTrait_108 : decode cX3_bestTrait 108 = .ok (.iaload, 1) := by decide +kernel
theorem dX3_bestTrait_109 : decode cX3_bestTrait 109 = .ok (.ineg, 1) := by decide +kernel
theorem dX3_bestTrait_110 : decode cX3_bestTrait 110 = .ok (.istore 9, 2) := by decide +kernel
theorem dX3_bestTrait_112 : decode cX3_bestTrait 112 = .ok (.iload 8, 2) := by decide +kernel
theorem dX3_bestTrait_114 : decode cX3_bestTrait 114 = .ok (.ifCond .eq 10, 3) := by decide +kernel
theorem dX3_bestTrait_117 : decode cX3_bestTrait 117 = .ok (.iload 9, 2) := by decide +kernel
theorem dX3_bestTrait_119 : decode cX3_bestTrait 119 = .ok (.iload 7, 2) := by decide +kernel
theorem dX3_bestTrait_121 : decode cX3_bestTrait 121 = .ok (.if_icmp .le 11, 3) := by decide +kernel
theorem dX3_bestTrait_124 : decode cX3_bestTrait 124 = .ok (.iload 8, 2) := by decide +kernel
theorem dX3_bestTrait_126 : decode cX3_bestTrait 126 = .ok (.istore 6, 2) := by decide +kernel
theorem dX3_bestTrait_128 : decode cX3_bestTrait 128 = .ok (.iload 9, 2) := by decide +kernel
theorem dX3_bestTrait_130 : decode cX3_bestTrait 130 = .ok (.istore 7, 2) := by decide +kernel
theorem dX3_bestTrait_132 : decode cX3_bestTrait 132 = .ok (.iinc 8 1, 3) := by decide +kernel
theorem dX3_bestTrait_135 : decode cX3_bestTrait 135 = .ok (.goto (-90), 3) := by decide +kernel
theorem dX3_bestTrait_138 : decode cX3_bestTrait 138 = .ok (.iload 6, 2) := by decide +kernel
theorem dX3_bestTrait_140 : decode cX3_bestTrait 140 = .ok (.ireturn, 1) := by decide +kernel
theorem dX3_isCalmWith_0 : decode cX3_isCalmWith 0 = .ok (.aload_n 0, 1) := by decide +kernel
theorem dX3_isCalmWith_1 : decode cX3_isCalmWith 1 = .ok (.getfield 16, 3) := by decide +kernel
theorem dX3_isCalmWith_4 : decode cX3_isCalmWith 4 = .ok (.aload_n 0, 1) := by decide +kernel
theorem dX3_isCalmWith_5 : decode cX3_isCalmWith 5 = .ok (.getfield 10, 3) := by decide +kernel
theorem dX3_isCalmWith_8 : decode cX3_isCalmWith 8 = .ok (.invokevirtual 131, 3) := by decide +kernel
theorem dX3_isCalmWith_11 : decode cX3_isCalmWith 11 = .ok (.aload_n 0, 1) := by decide +kernel
theorem dX3_isCalmWith_12 : decode cX3_isCalmWith 12 = .ok (.getfield 16, 3) := by decide +kernel
theorem dX3_isCalmWith_15 : decode cX3_isCalmWith 15 = .ok (.iload_n 1, 1) := by decide +kernel
theorem dX3_isCalmWith_16 : decode cX3_isCalmWith 16 = .ok (.putfield 113, 3) := by decide +kernel
theorem dX3_isCalmWith_19 : decode cX3_isCalmWith 19 = .ok (.aload_n 0, 1) := by decide +kernel
theorem dX3_isCalmWith_20 : decode cX3_isCalmWith 20 = .ok (.getfield 16, 3) := by decide +kernel
theorem dX3_isCalmWith_23 : decode cX3_isCalmWith 23 = .ok (.iload_n 2, 1) := by decide +kernel
theorem dX3_isCalmWith_24 : decode cX3_isCalmWith 24 = .ok (.putfield 116, 3) := by decide +kernel
theorem dX3_isCalmWith_27 : decode cX3_isCalmWith 27 = .ok (.aload_n 0, 1) := by decide +kernel
theorem dX3_isCalmWith_28 : decode cX3_isCalmWith 28 = .ok (.getfield 16, 3) := by decide +kernel
theorem dX3_isCalmWith_31 : decode cX3_isCalmWith 31 = .ok (.iload_n 3, 1) := by decide +kernel
theorem dX3_isCalmWith_32 : decode cX3_isCalmWith 32 = .ok (.invokevirtual 172, 3) := by decide +kernel
theorem dX3_isCalmWith_35 : decode cX3_isCalmWith 35 = .ok (.iload_n 3, 1) := by decide +kernel
theorem dX3_isCalmWith_36 : decode cX3_isCalmWith 36 = .ok (.if_icmp .ne 7, 3) := by decide +kernel
theorem dX3_isCalmWith_39 : decode cX3_isCalmWith 39 = .ok (.iconst 1, 1) := by decide +kernel
theorem dX3_isCalmWith_40 : decode cX3_isCalmWith 40 = .ok (.goto 4, 3) := by decide +kernel
theorem dX3_isCalmWith_43 : decode cX3_isCalmWith 43 = .ok (.iconst 0, 1) := by decide +kernel
theorem dX3_isCalmWith_44 : decode cX3_isCalmWith 44 = .ok (.ireturn, 1) := by decide +kernel
theorem dX3_readItem_0 : decode cX3_readItem 0 = .ok (.aload_n 0, 1) := by decide +kernel
theorem dX3_readItem_1 : decode cX3_readItem 1 = .ok (.getfield 25, 3) := by decide +kernel
theorem dX3_readItem_4 : decode cX3_readItem 4 = .ok (.invokevirtual 296, 3) := by decide +kernel
theorem dX3_readItem_7 : decode cX3_readItem 7 = .ok (.istore_n 1, 1) := by decide +kernel
theorem dX3_readItem_8 : decode cX3_readItem 8 = .ok (.iload_n 1, 1) := by decide +kernel
theorem dX3_readItem_9 : decode cX3_readItem 9 = .ok (.invokestatic 44, 3) := by decide +kernel
theorem dX3_readItem_12 : decode cX3_readItem 12 = .ok (.ifCond .eq 9, 3) := by decide +kernel
theorem dX3_readItem_15 : decode cX3_readItem 15 = .ok (.aload_n 0, 1) := by decide +kernel
theorem dX3_readItem_16 : decode cX3_readItem 16 = .ok (.iload_n 1, 1) := by decide +kernel
theorem dX3_readItem_17 : decode cX3_readItem 17 = .ok (.invokevirtual 299, 3) := by decide +kernel
theorem dX3_readItem_20 : decode cX3_readItem 20 = .ok (.ireturn, 1) := by decide +kernel
theorem dX3_readItem_21 : decode cX3_readItem 21 = .ok (.aload_n 0, 1) := by decide +kernel
theorem dX3_readItem_22 : decode cX3_readItem 22 = .ok (.getfield 25, 3) := by decide +kernel
theorem dX3_readItem_25 : decode cX3_readItem 25 = .ok (.ldc_w 302, 3) := by decide +kernel
theorem dX3_readItem_28 : decode cX3_readItem 28 = .ok (.invokevirtual 303, 3) := by decide +kernel
theorem dX3_readItem_31 : decode cX3_readItem 31 = .ok (.ifCond .eq 9, 3) := by decide +kernel
theorem dX3_readItem_34 : decode cX3_readItem 34 = .ok (.aload_n 0, 1) := by decide +kernel
theorem dX3_readItem_35 : decode cX3_readItem 35 = .ok (.iconst 0, 1) := by decide +kernel
theorem dX3_readItem_36 : decode cX3_readItem 36 = .ok (.invokevirtual 307, 3) := by decide +kernel
theorem dX3_readItem_39 : decode cX3_readItem 39 = .ok (.ireturn, 1) := by decide +kernel
theorem dX3_readItem_40 : decode cX3_readItem 40 = .ok (.aload_n 0, 1) := by decide +kernel
theorem dX3_readItem_41 : decode cX3_readItem 41 = .ok (.getfield 25, 3) := by decide +kernel
theorem dX3_readItem_44 : decode cX3_readItem 44 = .ok (.ldc_w 310, 3) := by decide +kernel
theorem dX3_readItem_47 : decode cX3_readItem 47 = .ok (.invokevirtual 303, 3) := by decide +kernel
theorem dX3_readItem_50 : decode cX3_readItem 50 = .ok (.ifCond .eq 9, 3) := by decide +kernel
theorem dX3_readItem_53 : decode cX3_readItem 53 = .ok (.aload_n 0, 1) := by decide +kernel
theorem dX3_readItem_54 : decode cX3_readItem 54 = .ok (.iconst 1, 1) := by decide +kernel
theorem dX3_readItem_55 : decode cX3_readItem 55 = .ok (.invokevirtual 307, 3) := by decide +kernel
theorem dX3_readItem_58 : decode cX3_readItem 58 = .ok (.ireturn, 1) := by decide +kernel
theorem dX3_readItem_59 : decode cX3_readItem 59 = .ok (.aload_n 0, 1) := by decide +kernel
theorem dX3_readItem_60 : decode cX3_readItem 60 = .ok (.getfield 25, 3) := by decide +kernel
theorem dX3_readItem_63 : decode cX3_readItem 63 = .ok (.ldc_w 311, 3) := by decide +kernel
theorem dX3_readItem_66 : decode cX3_readItem 66 = .ok (.invokevirtual 303, 3) := by decide +kernel
theorem dX3_readItem_69 : decode cX3_readItem 69 = .ok (.ifCond .eq 9, 3) := by decide +kernel
theorem dX3_readItem_72 : decode cX3_readItem 72 = .ok (.aload_n 0, 1) := by decide +kernel
theorem dX3_readItem_73 : decode cX3_readItem 73 = .ok (.iconst 2, 1) := by decide +kernel
theorem dX3_readItem_74 : decode cX3_readItem 74 = .ok (.invokevirtual 307, 3) := by decide +kernel
theorem dX3_readItem_77 : decode cX3_readItem 77 = .ok (.ireturn, 1) := by decide +kernel
theorem dX3_readItem_78 : decode cX3_readItem 78 = .ok (.aload_n 0, 1) := by decide +kernel
theorem dX3_readItem_79 : decode cX3_readItem 79 = .ok (.getfield 25, 3) := by decide +kernel
theorem dX3_readItem_82 : decode cX3_readItem 82 = .ok (.ldc_w 313, 3) := by decide +kernel
theorem dX3_readItem_85 : decode cX3_readItem 85 = .ok (.invokevirtual 303, 3) := by decide +kernel
theorem dX3_readItem_88 : decode cX3_readItem 88 = .ok (.ifCond .eq 9, 3) := by decide +kernel
theorem dX3_readItem_91 : decode cX3_readItem 91 = .ok (.aload_n 0, 1) := by decide +kernel
theorem dX3_readItem_92 : decode cX3_readItem 92 = .ok (.iconst 3, 1) := by decide +kernel
theorem dX3_readItem_93 : decode cX3_readItem 93 = .ok (.invokevirtual 307, 3) := by decide +kernel
theorem dX3_readItem_96 : decode cX3_readItem 96 = .ok (.ireturn, 1) := by decide +kernel
theorem dX3_readItem_97 : decode cX3_readItem 97 = .ok (.aload_n 0, 1) := by decide +kernel
theorem dX3_readItem_98 : decode cX3_readItem 98 = .ok (.getfield 25, 3) := by decide +kernel
theorem dX3_readItem_101 : decode cX3_readItem 101 = .ok (.ldc_w 314, 3) := by decide +kernel
theorem dX3_readItem_104 : decode cX3_readItem 104 = .ok (.invokevirtual 303, 3) := by decide +kernel
theorem dX3_readItem_107 : decode cX3_readItem 107 = .ok (.istore_n 2, 1) := by decide +kernel
theorem dX3_readItem_108 : decode cX3_readItem 108 = .ok (.iload_n 2, 1) := by decide +kernel
theorem dX3_readItem_109 : decode cX3_readItem 109 = .ok (.ifCond .ne 18, 3) := by decide +kernel
theorem dX3_readItem_112 : decode cX3_readItem 112 = .ok (.aload_n 0, 1) := by decide +kernel
theorem dX3_readItem_113 : decode cX3_readItem 113 = .ok (.getfield 25, 3) := by decide +kernel
theorem dX3_readItem_116 : decode cX3_readItem 116 = .ok (.ldc_w 315, 3) := by decide +kernel
theorem dX3_readItem_119 : decode cX3_readItem 119 = .ok (.invokevirtual 303, 3) := by decide +kernel
theorem dX3_readItem_122 : decode cX3_readItem 122 = .ok (.ifCond .ne 5, 3) := by decide +kernel
theorem dX3_readItem_125 : decode cX3_readItem 125 = .ok (.iconst 0, 1) := by decide +kernel
theorem dX3_readItem_126 : decode cX3_readItem 126 = .ok (.ireturn, 1) := by decide +kernel
theorem dX3_readItem_127 : decode cX3_readItem 127 = .ok (.aload_n 0, 1) := by decide +kernel
theorem dX3_readItem_128 : decode cX3_readItem 128 = .ok (.getfield 16, 3) := by decide +kernel
theorem dX3_readItem_131 : decode cX3_readItem 131 = .ok (.iload_n 2, 1) := by decide +kernel
theorem dX3_readItem_132 : decode cX3_readItem 132 = .ok (.ifCond .eq 7, 3) := by decide +kernel
theorem dX3_readItem_135 : decode cX3_readItem 135 = .ok (.iconst 1, 1) := by decide +kernel
theorem dX3_readItem_136 : decode cX3_readItem 136 = .ok (.goto 4, 3) := by decide +kernel
theorem dX3_readItem_139 : decode cX3_readItem 139 = .ok (.iconst 0, 1) := by decide +kernel
theorem dX3_readItem_140 : decode cX3_readItem 140 = .ok (.putfield 188, 3) := by decide +kernel
theorem dX3_readItem_143 : decode cX3_readItem 143 = .ok (.aload_n 0, 1) := by decide +kernel
theorem dX3_readItem_144 : decode cX3_readItem 144 = .ok (.getfield 25, 3) := by decide +kernel
theorem dX3_readItem_147 : decode cX3_readItem 147 = .ok (.invokevirtual 213, 3) := by decide +kernel
theorem dX3_readItem_150 : decode cX3_readItem 150 = .ok (.iconst 1, 1) := by decide +kernel
theorem dX3_readItem_151 : decode cX3_readItem 151 = .ok (.ireturn, 1) := by decide +kernel
theorem dX3_readCitizen_0 : decode cX3_readCitizen 0 = .ok (.aload_n 0, 1) := by decide +kernel
theorem dX3_readCitizen_1 : decode cX3_readCitizen 1 = .ok (.getfield 16, 3) := by decide +kernel
theorem dX3_readCitizen_4 : decode cX3_readCitizen 4 = .ok (.getfield 52, 3) := by decide +kernel
theorem dX3_readCitizen_7 : decode cX3_readCitizen 7 = .ok (.bipush 10, 2) := by decide +kernel
theorem dX3_readCitizen_9 : decode cX3_readCitizen 9 = .ok (.if_icmp .lt 5, 3) := by decide +kernel
theorem dX3_readCitizen_12 : decode cX3_readCitizen 12 = .ok (.iconst 0, 1) := by decide +kernel
theorem dX3_readCitizen_13 : decode cX3_readCitizen 13 = .ok (.ireturn, 1) := by decide +kernel
theorem dX3_readCitizen_14 : decode cX3_readCitizen 14 = .ok (.aload_n 0, 1) := by decide +kernel
theorem dX3_readCitizen_15 : decode cX3_readCitizen 15 = .ok (.getfield 16, 3) := by decide +kernel
theorem dX3_readCitizen_18 : decode cX3_readCitizen 18 = .ok (.iload_n 1, 1) := by decide +kernel
theorem dX3_readCitizen_19 : decode cX3_readCitizen 19 = .ok (.invokevirtual 56, 3) := by decide +kernel
theorem dX3_readCitizen_22 : decode cX3_readCitizen 22 = .ok (.aload_n 0, 1) := by decide +kernel
theorem dX3_readCitizen_23 : decode cX3_readCitizen 23 = .ok (.getfield 25, 3) := by decide +kernel
theorem dX3_readCitizen_26 : decode cX3_readCitizen 26 = .ok (.invokevirtual 213, 3) := by decide +kernel
theorem dX3_readCitizen_29 : decode cX3_readCitizen 29 = .ok (.aload_n 0, 1) := by decide +kernel
theorem dX3_readCitizen_30 : decode cX3_readCitizen 30 = .ok (.ldc_w 317, 3) := by decide +kernel
theorem dX3_readCitizen_33 : decode cX3_readCitizen 33 = .ok (.iconst 1, 1) := by decide +kernel
theorem dX3_readCitizen_34 : decode cX3_readCitizen 34 = .ok (.invokevirtual 318, 3) := by decide +kernel
theorem dX3_readCitizen_37 : decode cX3_readCitizen 37 = .ok (.ifCond .eq 25, 3) := by decide +kernel
theorem dX3_readCitizen_40 : decode cX3_readCitizen 40 = .ok (.aload_n 0, 1) := by decide +kernel
theorem dX3_readCitizen_41 : decode cX3_readCitizen 41 = .ok (.ldc_w 322, 3) := by decide +kernel
theorem dX3_readCitizen_44 : decode cX3_readCitizen 44 = .ok (.iconst 2, 1) := by decide +kernel
theorem dX3_readCitizen_45 : decode cX3_readCitizen 45 = .ok (.invokevirtual 318, 3) := by decide +kernel
theorem dX3_readCitizen_48 : decode cX3_readCitizen 48 = .ok (.ifCond .eq 14, 3) := by decide +kernel
theorem dX3_readCitizen_51 : decode cX3_readCitizen 51 = .ok (.aload_n 0, 1) := by decide +kernel
theorem dX3_readCitizen_52 : decode cX3_readCitizen 52 = .ok (.ldc_w 324, 3) := by decide +kernel
theorem dX3_readCitizen_55 : decode cX3_readCitizen 55 = .ok (.iconst 3, 1) := by decide +kernel
theorem dX3_readCitizen_56 : decode cX3_readCitizen 56 = .ok (.invokevirtual 318, 3) := by decide +kernel
theorem dX3_readCitizen_59 : decode cX3_readCitizen 59 = .ok (.ifCond .ne 5, 3) := by decide +kernel
theorem dX3_readCitizen_62 : decode cX3_readCitizen 62 = .ok (.iconst 0, 1) := by decide +kernel
theorem dX3_readCitizen_63 : decode cX3_readCitizen 63 = .ok (.ireturn, 1) := by decide +kernel
theorem dX3_readCitizen_64 : decode cX3_readCitizen 64 = .ok (.aload_n 0, 1) := by decide +kernel
theorem dX3_readCitizen_65 : decode cX3_readCitizen 65 = .ok (.getfield 25, 3) := by decide +kernel
theorem dX3_readCitizen_68 : decode cX3_readCitizen 68 = .ok (.ldc_w 325, 3) := by decide +kernel
theorem dX3_readCitizen_71 : decode cX3_readCitizen 71 = .ok (.invokevirtual 303, 3) := by decide +kernel
theorem dX3_readCitizen_74 : decode cX3_readCitizen 74 = .ok (.istore_n 2, 1) := by decide +kernel
theorem dX3_readCitizen_75 : decode cX3_readCitizen 75 = .ok (.iload_n 2, 1) := by decide +kernel
theorem dX3_readCitizen_76 : decode cX3_readCitizen 76 = .ok (.ifCond .ne 16, 3) := by decide +kernel
theorem dX3_readCitizen_79 : decode cX3_readCitizen 79 = .ok (.aload_n 0, 1) := by decide +kernel
theorem dX3_readCitizen_80 : decode cX3_readCitizen 80 = .ok (.getfield 25, 3) := by decide +kernel
theorem dX3_readCitizen_83 : decode cX3_readCitizen 83 = .ok (.ldc_w 327, 3) := by decide +kernel
theorem dX3_readCitizen_86 : decode cX3_readCitizen 86 = .ok (.invokevirtual 303, 3) := by decide +kernel
theorem dX3_readCitizen_89 : decode cX3_readCitizen 89 = .ok (.ifCond .eq 36, 3) := by decide +kernel
theorem dX3_readCitizen_92 : decode cX3_readCitizen 92 = .ok (.aload_n 0, 1) := by decide +kernel
theorem dX3_readCitizen_93 : decode cX3_readCitizen 93 = .ok (.getfield 16, 3) := by decide +kernel
theorem dX3_readCitizen_96 : decode cX3_readCitizen 96 = .ok (.aload_n 0, 1) := by decide +kernel
theorem dX3_readCitizen_97 : decode cX3_readCitizen 97 = .ok (.getfield 16, 3) := by decide +kernel
theorem dX3_readCitizen_100 : decode cX3_readCitizen 100 = .ok (.getfield 52, 3) := by decide +kernel
theorem dX3_readCitizen_103 : decode cX3_readCitizen 103 = .ok (.iconst 1, 1) := by decide +kernel
theorem dX3_readCitizen_104 : decode cX3_readCitizen 104 = .ok (.isub, 1) := by decide +kernel
theorem dX3_readCitizen_105 : decode cX3_readCitizen 105 = .ok (.iconst 5, 1) := by decide +kernel
theorem dX3_readCitizen_106 : decode cX3_readCitizen 106 = .ok (.iload_n 2, 1) := by decide +kernel
theorem dX3_readCitizen_107 : decode cX3_readCitizen 107 = .ok (.ifCond .eq 7, 3) := by decide +kernel
theorem dX3_readCitizen_110 : decode cX3_readCitizen 110 = .ok (.iconst 1, 1) := by decide +kernel
theorem dX3_readCitizen_111 : decode cX3_readCitizen 111 = .ok (.goto 4, 3) := by decide +kernel
theorem dX3_readCitizen_114 : decode cX3_readCitizen 114 = .ok (.iconst 2, 1) := by decide +kernel
theorem dX3_readCitizen_115 : decode cX3_readCitizen 115 = .ok (.invokevirtual 83, 3) := by decide +kernel
theorem dX3_readCitizen_118 : decode cX3_readCitizen 118 = .ok (.aload_n 0, 1) := by decide +kernel
theorem dX3_readCitizen_119 : decode cX3_readCitizen 119 = .ok (.getfield 25, 3) := by decide +kernel
theorem dX3_readCitizen_122 : decode cX3_readCitizen 122 = .ok (.invokevirtual 213, 3) := by decide +kernel
theorem dX3_readCitizen_125 : decode cX3_readCitizen 125 = .ok (.iconst 1, 1) := by decide +kernel
theorem dX3_readCitizen_126 : decode cX3_readCitizen 126 = .ok (.ireturn, 1) := by decide +kernel
theorem dX3_readTrait_0 : decode cX3_readTrait 0 = .ok (.aload_n 0, 1) := by decide +kernel
theorem dX3_readTrait_1 : decode cX3_readTrait 1 = .ok (.getfield 25, 3) := by decide +kernel
theorem dX3_readTrait_4 : decode cX3_readTrait 4 = .ok (.aload_n 1, 1) := by decide +kernel
theorem dX3_readTrait_5 : decode cX3_readTrait 5 = .ok (.invokevirtual 303, 3) := by decide +kernel
theorem dX3_readTrait_8 : decode cX3_readTrait 8 = .ok (.ifCond .ne 5, 3) := by decide +kernel
theorem dX3_readTrait_11 : decode cX3_readTrait 11 = .ok (.iconst 1, 1) := by decide +kernel
theorem dX3_readTrait_12 : decode cX3_readTrait 12 = .ok (.ireturn, 1) := by decide +kernel
theorem dX3_readTrait_13 : decode cX3_readTrait 13 = .ok (.aload_n 0, 1) := by decide +kernel
theorem dX3_readTrait_14 : decode cX3_readTrait 14 = .ok (.getfield 25, 3) := by decide +kernel
theorem dX3_readTrait_17 : decode cX3_readTrait 17 = .ok (.invokevirtual 213, 3) := by decide +kernel
theorem dX3_readTrait_20 : decode cX3_readTrait 20 = .ok (.aload_n 0, 1) := by decide +kernel
theorem dX3_readTrait_21 : decode cX3_readTrait 21 = .ok (.getfield 25, 3) := by decide +kernel
theorem dX3_readTrait_24 : decode cX3_readTrait 24 = .ok (.getfield 220, 3) := by decide +kernel
theorem dX3_readTrait_27 : decode cX3_readTrait 27 = .ok (.iconst 2, 1) := by decide +kernel
theorem dX3_readTrait_28 : decode cX3_readTrait 28 = .ok (.if_icmp .ne 17, 3) := by decide +kernel
theorem dX3_readTrait_31 : decode cX3_readTrait 31 = .ok (.iload_n 2, 1) := by decide +kernel
theorem dX3_readTrait_32 : decode cX3_readTrait 32 = .ok (.aload_n 0, 1) := by decide +kernel
theorem dX3_readTrait_33 : decode cX3_readTrait 33 = .ok (.getfield 25, 3) := by decide +kernel
theorem dX3_readTrait_36 : decode cX3_readTrait 36 = .ok (.getfield 329, 3) := by decide +kernel
theorem dX3_readTrait_39 : decode cX3_readTrait 39 = .ok (.invokestatic 79, 3) := by decide +kernel
theorem dX3_readTrait_42 : decode cX3_readTrait 42 = .ok (.ifCond .ne 5, 3) := by decide +kernel
theorem dX3_readTrait_45 : decode cX3_readTrait 45 = .ok (.iconst 0, 1) := by decide +kernel
theorem dX3_readTrait_46 : decode cX3_readTrait 46 = .ok (.ireturn, 1) := by decide +kernel
theorem dX3_readTrait_47 : decode cX3_readTrait 47 = .ok (.aload_n 0, 1) := by decide +kernel
theorem dX3_readTrait_48 : decode cX3_readTrait 48 = .ok (.getfield 16, 3) := by decide +kernel
theorem dX3_readTrait_51 : decode cX3_readTrait 51 = .ok (.aload_n 0, 1) := by decide +kernel
theorem dX3_readTrait_52 : decode cX3_readTrait 52 = .ok (.getfield 16, 3) := by decide +kernel
theorem dX3_readTrait_55 : decode cX3_readTrait 55 = .ok (.getfield 52, 3) := by decide +kernel
theorem dX3_readTrait_58 : decode cX3_readTrait 58 = .ok (.iconst 1, 1) := by decide +kernel
theorem dX3_readTrait_59 : decode cX3_readTrait 59 = .ok (.isub, 1) := by decide +kernel
theorem dX3_readTrait_60 : decode cX3_readTrait 60 = .ok (.iload_n 2, 1) := by decide +kernel
theorem dX3_readTrait_61 : decode cX3_readTrait 61 = .ok (.aload_n 0, 1) := by decide +kernel
theorem dX3_readTrait_62 : decode cX3_readTrait 62 = .ok (.getfield 25, 3) := by decide +kernel
theorem dX3_readTrait_65 : decode cX3_readTrait 65 = .ok (.getfield 329, 3) := by decide +kernel
theorem dX3_readTrait_68 : decode cX3_readTrait 68 = .ok (.invokevirtual 83, 3) := by decide +kernel
theorem dX3_readTrait_71 : decode cX3_readTrait 71 = .ok (.aload_n 0, 1) := by decide +kernel
theorem dX3_readTrait_72 : decode cX3_readTrait 72 = .ok (.getfield 25, 3) := by decide +kernel
theorem dX3_readTrait_75 : decode cX3_readTrait 75 = .ok (.invokevirtual 213, 3) := by decide +kernel
theorem dX3_readTrait_78 : decode cX3_readTrait 78 = .ok (.iconst 1, 1) := by decide +kernel
theorem dX3_readTrait_79 : decode cX3_readTrait 79 = .ok (.ireturn, 1) := by decide +kernel
theorem dX3_readRuling_0 : decode cX3_readRuling 0 = .ok (.aload_n 0, 1) := by decide +kernel
theorem dX3_readRuling_1 : decode cX3_readRuling 1 = .ok (.getfield 25, 3) := by decide +kernel
theorem dX3_readRuling_4 : decode cX3_readRuling 4 = .ok (.invokevirtual 213, 3) := by decide +kernel
theorem dX3_readRuling_7 : decode cX3_readRuling 7 = .ok (.aload_n 0, 1) := by decide +kernel
theorem dX3_readRuling_8 : decode cX3_readRuling 8 = .ok (.getfield 25, 3) := by decide +kernel
theorem dX3_readRuling_11 : decode cX3_readRuling 11 = .ok (.getfield 220, 3) := by decide +kernel
theorem dX3_readRuling_14 : decode cX3_readRuling 14 = .ok (.iconst 2, 1) := by decide +kernel
theorem dX3_readRuling_15 : decode cX3_readRuling 15 = .ok (.if_icmp .ne 17, 3) := by decide +kernel
theorem dX3_readRuling_18 : decode cX3_readRuling 18 = .ok (.iload_n 1, 1) := by decide +kernel
theorem dX3_readRuling_19 : decode cX3_readRuling 19 = .ok (.aload_n 0, 1) := by decide +kernel
theorem dX3_readRuling_20 : decode cX3_readRuling 20 = .ok (.getfield 25, 3) := by decide +kernel
theorem dX3_readRuling_23 : decode cX3_readRuling 23 = .ok (.getfield 329, 3) := by decide +kernel
theorem dX3_readRuling_26 : decode cX3_readRuling 26 = .ok (.invokestatic 87, 3) := by decide +kernel
theorem dX3_readRuling_29 : decode cX3_readRuling 29 = .ok (.ifCond .ne 5, 3) := by decide +kernel
theorem dX3_readRuling_32 : decode cX3_readRuling 32 = .ok (.iconst 0, 1) := by decide +kernel
theorem dX3_readRuling_33 : decode cX3_readRuling 33 = .ok (.ireturn, 1) := by decide +kernel
theorem dX3_readRuling_34 : decode cX3_readRuling 34 = .ok (.aload_n 0, 1) := by decide +kernel
theorem dX3_readRuling_35 : decode cX3_readRuling 35 = .ok (.getfield 16, 3) := by decide +kernel
theorem dX3_readRuling_38 : decode cX3_readRuling 38 = .ok (.iload_n 1, 1) := by decide +kernel
theorem dX3_readRuling_39 : decode cX3_readRuling 39 = .ok (.aload_n 0, 1) := by decide +kernel
theorem dX3_readRuling_40 : decode cX3_readRuling 40 = .ok (.getfield 25, 3) := by decide +kernel
theorem dX3_readRuling_43 : decode cX3_readRuling 43 = .ok (.getfield 329, 3) := by decide +kernel
theorem dX3_readRuling_46 : decode cX3_readRuling 46 = .ok (.invokevirtual 93, 3) := by decide +kernel
theorem dX3_readRuling_49 : decode cX3_readRuling 49 = .ok (.aload_n 0, 1) := by decide +kernel
theorem dX3_readRuling_50 : decode cX3_readRuling 50 = .ok (.getfield 25, 3) := by decide +kernel
theorem dX3_readRuling_53 : decode cX3_readRuling 53 = .ok (.invokevirtual 213, 3) := by decide +kernel
theorem dX3_readRuling_56 : decode cX3_readRuling 56 = .ok (.iconst 1, 1) := by decide +kernel
theorem dX3_readRuling_57 : decode cX3_readRuling 57 = .ok (.ireturn, 1) := by decide +kernel
theorem dJ6_bitCount_0f7a4_0 : decode cJ6_bitCount_0f7a4 0 = .ok (.iload_n 0, 1) := by decide +kernel
theorem dJ6_bitCount_0f7a4_1 : decode cJ6_bitCount_0f7a4 1 = .ok (.iload_n 0, 1) := by decide +kernel
theorem dJ6_bitCount_0f7a4_2 : decode cJ6_bitCount_0f7a4 2 = .ok (.iconst 1, 1) := by decide +kernel
theorem dJ6_bitCount_0f7a4_3 : decode cJ6_bitCount_0f7a4 3 = .ok (.iushr, 1) := by decide +kernel
theorem dJ6_bitCount_0f7a4_4 : decode cJ6_bitCount_0f7a4 4 = .ok (.ldc_w 265, 3) := by decide +kernel
theorem dJ6_bitCount_0f7a4_7 : decode cJ6_bitCount_0f7a4 7 = .ok (.iand, 1) := by decide +kernel
theorem dJ6_bitCount_0f7a4_8 : decode cJ6_bitCount_0f7a4 8 = .ok (.isub, 1) := by decide +kernel
theorem dJ6_bitCount_0f7a4_9 : decode cJ6_bitCount_0f7a4 9 = .ok (.istore_n 0, 1) := by decide +kernel
theorem dJ6_bitCount_0f7a4_10 : decode cJ6_bitCount_0f7a4 10 = .ok (.iload_n 0, 1) := by decide +kernel
theorem dJ6_bitCount_0f7a4_11 : decode cJ6_bitCount_0f7a4 11 = .ok (.ldc_w 266, 3) := by decide +kernel
theorem dJ6_bitCount_0f7a4_14 : decode cJ6_bitCount_0f7a4 14 = .ok (.iand, 1) := by decide +kernel
theorem dJ6_bitCount_0f7a4_15 : decode cJ6_bitCount_0f7a4 15 = .ok (.iload_n 0, 1) := by decide +kernel
theorem dJ6_bitCount_0f7a4_16 : decode cJ6_bitCount_0f7a4 16 = .ok (.iconst 2, 1) := by decide +kernel
theorem dJ6_bitCount_0f7a4_17 : decode cJ6_bitCount_0f7a4 17 = .ok (.iushr, 1) := by decide +kernel
theorem dJ6_bitCount_0f7a4_18 : decode cJ6_bitCount_0f7a4 18 = .ok (.ldc_w 266, 3) := by decide +kernel
theorem dJ6_bitCount_0f7a4_21 : decode cJ6_bitCount_0f7a4 21 = .ok (.iand, 1) := by decide +kernel
theorem dJ6_bitCount_0f7a4_22 : decode cJ6_bitCount_0f7a4 22 = .ok (.iadd, 1) := by decide +kernel
theorem dJ6_bitCount_0f7a4_23 : decode cJ6_bitCount_0f7a4 23 = .ok (.istore_n 0, 1) := by decide +kernel
theorem dJ6_bitCount_0f7a4_24 : decode cJ6_bitCount_0f7a4 24 = .ok (.iload_n 0, 1) := by decide +kernel
theorem dJ6_bitCount_0f7a4_25 : decode cJ6_bitCount_0f7a4 25 = .ok (.iload_n 0, 1) := by decide +kernel
theorem dJ6_bitCount_0f7a4_26 : decode cJ6_bitCount_0f7a4 26 = .ok (.iconst 4, 1) := by decide +kernel
theorem dJ6_bitCount_0f7a4_27 : decode cJ6_bitCount_0f7a4 27 = .ok (.iushr, 1) := by decide +kernel
theorem dJ6_bitCount_0f7a4_28 : decode cJ6_bitCount_0f7a4 28 = .ok (.iadd, 1) := by decide +kernel
theorem dJ6_bitCount_0f7a4_29 : decode cJ6_bitCount_0f7a4 29 = .ok (.ldc_w 267, 3) := by decide +kernel
theorem dJ6_bitCount_0f7a4_32 : decode cJ6_bitCount_0f7a4 32 = .ok (.iand, 1) := by decide +kernel
theorem dJ6_bitCount_0f7a4_33 : decode cJ6_bitCount_0f7a4 33 = .ok (.istore_n 0, 1) := by decide +kernel
theorem dJ6_bitCount_0f7a4_34 : decode cJ6_bitCount_0f7a4 34 = .ok (.iload_n 0, 1) := by decide +kernel
theorem dJ6_bitCount_0f7a4_35 : decode cJ6_bitCount_0f7a4 35 = .ok (.iload_n 0, 1) := by decide +kernel
theorem dJ6_bitCount_0f7a4_36 : decode cJ6_bitCount_0f7a4 36 = .ok (.bipush 8, 2) := by decide +kernel
theorem dJ6_bitCount_0f7a4_38 : decode cJ6_bitCount_0f7a4 38 = .ok (.iushr, 1) := by decide +kernel
theorem dJ6_bitCount_0f7a4_39 : decode cJ6_bitCount_0f7a4 39 = .ok (.iadd, 1) := by decide +kernel
theorem dJ6_bitCount_0f7a4_40 : decode cJ6_bitCount_0f7a4 40 = .ok (.istore_n 0, 1) := by decide +kernel
theorem dJ6_bitCount_0f7a4_41 : decode cJ6_bitCount_0f7a4 41 = .ok (.iload_n 0, 1) := by decide +kernel
theorem dJ6_bitCount_0f7a4_42 : decode cJ6_bitCount_0f7a4 42 = .ok (.iload_n 0, 1) := by decide +kernel
theorem dJ6_bitCount_0f7a4_43 : decode cJ6_bitCount_0f7a4 43 = .ok (.bipush 16, 2) := by decide +kernel
theorem dJ6_bitCount_0f7a4_45 : decode cJ6_bitCount_0f7a4 45 = .ok (.iushr, 1) := by decide +kernel
theorem dJ6_bitCount_0f7a4_46 : decode cJ6_bitCount_0f7a4 46 = .ok (.iadd, 1) := by decide +kernel
theorem dJ6_bitCount_0f7a4_47 : decode cJ6_bitCount_0f7a4 47 = .ok (.istore_n 0, 1) := by decide +kernel
theorem dJ6_bitCount_0f7a4_48 : decode cJ6_bitCount_0f7a4 48 = .ok (.iload_n 0, 1) := by decide +kernel
theorem dJ6_bitCount_0f7a4_49 : decode cJ6_bitCount_0f7a4 49 = .ok (.bipush 63, 2) := by decide +kernel
theorem dJ6_bitCount_0f7a4_51 : decode cJ6_bitCount_0f7a4 51 = .ok (.iand, 1) := by decide +kernel
theorem dJ6_bitCount_0f7a4_52 : decode cJ6_bitCount_0f7a4 52 = .ok (.ireturn, 1) := by decide +kernel
theorem dJ9_max_7cf53_0 : decode cJ9_max_7cf53 0 = .ok (.iload_n 0, 1) := by decide +kernel
theorem dJ9_max_7cf53_1 : decode cJ9_max_7cf53 1 = .ok (.iload_n 1, 1) := by decide +kernel
theorem dJ9_max_7cf53_2 : decode cJ9_max_7cf53 2 = .ok (.if_icmp .lt 7, 3) := by decide +kernel
theorem dJ9_max_7cf53_5 : decode cJ9_max_7cf53 5 = .ok (.iload_n 0, 1) := by decide +kernel
theorem dJ9_max_7cf53_6 : decode cJ9_max_7cf53 6 = .ok (.goto 4, 3) := by decide +kernel
theorem dJ9_max_7cf53_9 : decode cJ9_max_7cf53 9 = .ok (.iload_n 1, 1) := by decide +kernel
theorem dJ9_max_7cf53_10 : decode cJ9_max_7cf53 10 = .ok (.ireturn, 1) := by decide +kernel
theorem dJ9_min_7cf53_0 : decode cJ9_min_7cf53 0 = .ok (.iload_n 0, 1) := by decide +kernel
theorem dJ9_min_7cf53_1 : decode cJ9_min_7cf53 1 = .ok (.iload_n 1, 1) := by decide +kernel
theorem dJ9_min_7cf53_2 : decode cJ9_min_7cf53 2 = .ok (.if_icmp .gt 7, 3) := by decide +kernel
theorem dJ9_min_7cf53_5 : decode cJ9_min_7cf53 5 = .ok (.iload_n 0, 1) := by decide +kernel
theorem dJ9_min_7cf53_6 : decode cJ9_min_7cf53 6 = .ok (.goto 4, 3) := by decide +kernel
theorem dJ9_min_7cf53_9 : decode cJ9_min_7cf53 9 = .ok (.iload_n 1, 1) := by decide +kernel
theorem dJ9_min_7cf53_10 : decode cJ9_min_7cf53 10 = .ok (.ireturn, 1) := by decide +kernel
theorem dJ0_length_8abf5_0 : decode cJ0_length_8abf5 0 = .ok (.aload_n 0, 1) := by decide +kernel
theorem dJ0_length_8abf5_1 : decode cJ0_length_8abf5 1 = .ok (.getfield 9, 3) := by decide +kernel
theorem dJ0_length_8abf5_4 : decode cJ0_length_8abf5 4 = .ok (.arraylength, 1) := by decide +kernel
theorem dJ0_length_8abf5_5 : decode cJ0_length_8abf5 5 = .ok (.aload_n 0, 1) := by decide +kernel
theorem dJ0_length_8abf5_6 : decode cJ0_length_8abf5 6 = .ok (.invokevirtual 335, 3) := by decide +kernel
theorem dJ0_length_8abf5_9 : decode cJ0_length_8abf5 9 = .ok (.ishr, 1) := by decide +kernel
theorem dJ0_length_8abf5_10 : decode cJ0_length_8abf5 10 = .ok (.ireturn, 1) := by decide +kernel
theorem dJ0_charAt_5068e_0 : decode cJ0_charAt_5068e 0 = .ok (.aload_n 0, 1) := by decide +kernel
theorem dJ0_charAt_5068e_1 : decode cJ0_charAt_5068e 1 = .ok (.invokevirtual 492, 3) := by decide +kernel
theorem dJ0_charAt_5068e_4 : decode cJ0_charAt_5068e 4 = .ok (.ifCond .eq 12, 3) := by decide +kernel
theorem dJ0_charAt_5068e_7 : decode cJ0_charAt_5068e 7 = .ok (.aload_n 0, 1) := by decide +kernel
theorem dJ0_charAt_5068e_8 : decode cJ0_charAt_5068e 8 = .ok (.getfield 9, 3) := by decide +kernel
theorem dJ0_charAt_5068e_11 : decode cJ0_charAt_5068e 11 = .ok (.iload_n 1, 1) := by decide +kernel
theorem dJ0_charAt_5068e_12 : decode cJ0_charAt_5068e 12 = .ok (.invokestatic 495, 3) := by decide +kernel
theorem dJ0_charAt_5068e_15 : decode cJ0_charAt_5068e 15 = .ok (.ireturn, 1) := by decide +kernel
theorem dJ0_charAt_5068e_16 : decode cJ0_charAt_5068e 16 = .ok (.aload_n 0, 1) := by decide +kernel
theorem dJ0_charAt_5068e_17 : decode cJ0_charAt_5068e 17 = .ok (.getfield 9, 3) := by decide +kernel
theorem dJ0_charAt_5068e_20 : decode cJ0_charAt_5068e 20 = .ok (.iload_n 1, 1) := by decide +kernel
theorem dJ0_charAt_5068e_21 : decode cJ0_charAt_5068e 21 = .ok (.invokestatic 498, 3) := by decide +kernel
theorem dJ0_charAt_5068e_24 : decode cJ0_charAt_5068e 24 = .ok (.ireturn, 1) := by decide +kernel
theorem dJ0_coder_7d493_0 : decode cJ0_coder_7d493 0 = .ok (.getstatic 38, 3) := by decide +kernel
theorem dJ0_coder_7d493_3 : decode cJ0_coder_7d493 3 = .ok (.ifCond .eq 10, 3) := by decide +kernel
theorem dJ0_coder_7d493_6 : decode cJ0_coder_7d493 6 = .ok (.aload_n 0, 1) := by decide +kernel
theorem dJ0_coder_7d493_7 : decode cJ0_coder_7d493 7 = .ok (.getfield 15, 3) := by decide +kernel
theorem dJ0_coder_7d493_10 : decode cJ0_coder_7d493 10 = .ok (.goto 4, 3) := by decide +kernel
theorem dJ0_coder_7d493_13 : decode cJ0_coder_7d493 13 = .ok (.iconst 1, 1) := by decide +kernel
theorem dJ0_coder_7d493_14 : decode cJ0_coder_7d493 14 = .ok (.ireturn, 1) := by decide +kernel
theorem dJ0_isLatin1_aae02_0 : decode cJ0_isLatin1_aae02 0 = .ok (.getstatic 38, 3) := by decide +kernel
theorem dJ0_isLatin1_aae02_3 : decode cJ0_isLatin1_aae02 3 = .ok (.ifCond .eq 14, 3) := by decide +kernel
theorem dJ0_isLatin1_aae02_6 : decode cJ0_isLatin1_aae02 6 = .ok (.aload_n 0, 1) := by decide +kernel
theorem dJ0_isLatin1_aae02_7 : decode cJ0_isLatin1_aae02 7 = .ok (.getfield 15, 3) := by decide +kernel
theorem dJ0_isLatin1_aae02_10 : decode cJ0_isLatin1_aae02 10 = .ok (.ifCond .ne 7, 3) := by decide +kernel
theorem dJ0_isLatin1_aae02_13 : decode cJ0_isLatin1_aae02 13 = .ok (.iconst 1, 1) := by decide +kernel
theorem dJ0_isLatin1_aae02_14 : decode cJ0_isLatin1_aae02 14 = .ok (.goto 4, 3) := by decide +kernel
theorem dJ0_isLatin1_aae02_17 : decode cJ0_isLatin1_aae02 17 = .ok (.iconst 0, 1) := by decide +kernel
theorem dJ0_isLatin1_aae02_18 : decode cJ0_isLatin1_aae02 18 = .ok (.ireturn, 1) := by decide +kernel
theorem dJ0_checkIndex_df160_0 : decode cJ0_checkIndex_df160 0 = .ok (.iload_n 0, 1) := by decide +kernel
theorem dJ0_checkIndex_df160_1 : decode cJ0_checkIndex_df160 1 = .ok (.iload_n 1, 1) := by decide +kernel
theorem dJ0_checkIndex_df160_2 : decode cJ0_checkIndex_df160 2 = .ok (.getstatic 1053, 3) := by decide +kernel
theorem dJ0_checkIndex_df160_5 : decode cJ0_checkIndex_df160 5 = .ok (.invokestatic 1059, 3) := by decide +kernel
theorem dJ0_checkIndex_df160_8 : decode cJ0_checkIndex_df160 8 = .ok (.pop, 1) := by decide +kernel
theorem dJ0_checkIndex_df160_9 : decode cJ0_checkIndex_df160 9 = .ok (.return_, 1) := by decide +kernel
theorem dJ1_charAt_3b067_0 : decode cJ1_charAt_3b067 0 = .ok (.iload_n 1, 1) := by decide +kernel
theorem dJ1_charAt_3b067_1 : decode cJ1_charAt_3b067 1 = .ok (.aload_n 0, 1) := by decide +kernel
theorem dJ1_charAt_3b067_2 : decode cJ1_charAt_3b067 2 = .ok (.arraylength, 1) := by decide +kernel
theorem dJ1_charAt_3b067_3 : decode cJ1_charAt_3b067 3 = .ok (.invokestatic 9, 3) := by decide +kernel
theorem dJ1_charAt_3b067_6 : decode cJ1_charAt_3b067 6 = .ok (.aload_n 0, 1) := by decide +kernel
theorem dJ1_charAt_3b067_7 : decode cJ1_charAt_3b067 7 = .ok (.iload_n 1, 1) := by decide +kernel
theorem dJ1_charAt_3b067_8 : decode cJ1_charAt_3b067 8 = .ok (.baload, 1) := by decide +kernel
theorem dJ1_charAt_3b067_9 : decode cJ1_charAt_3b067 9 = .ok (.sipush 255, 3) := by decide +kernel
theorem dJ1_charAt_3b067_12 : decode cJ1_charAt_3b067 12 = .ok (.iand, 1) := by decide +kernel
theorem dJ1_charAt_3b067_13 : decode cJ1_charAt_3b067 13 = .ok (.i2c, 1) := by decide +kernel
theorem dJ1_charAt_3b067_14 : decode cJ1_charAt_3b067 14 = .ok (.ireturn, 1) := by decide +kernel
theorem dJ2_getChar_3b067_0 : decode cJ2_getChar_3b067 0 = .ok (.getstatic 44, 3) := by decide +kernel
theorem dJ2_getChar_3b067_3 : decode cJ2_getChar_3b067 3 = .ok (.ifCond .ne 25, 3) := by decide +kernel
theorem dJ2_getChar_3b067_6 : decode cJ2_getChar_3b067 6 = .ok (.iload_n 1, 1) := by decide +kernel
theorem dJ2_getChar_3b067_7 : decode cJ2_getChar_3b067 7 = .ok (.ifCond .lt 11, 3) := by decide +kernel
theorem dJ2_getChar_3b067_10 : decode cJ2_getChar_3b067 10 = .ok (.iload_n 1, 1) := by decide +kernel
theorem dJ2_getChar_3b067_11 : decode cJ2_getChar_3b067 11 = .ok (.aload_n 0, 1) := by decide +kernel
theorem dJ2_getChar_3b067_12 : decode cJ2_getChar_3b067 12 = .ok (.invokestatic 48, 3) := by decide +kernel
theorem dJ2_getChar_3b067_15 : decode cJ2_getChar_3b067 15 = .ok (.if_icmp .lt 13, 3) := by decide +kernel
theorem dJ2_getChar_3b067_18 : decode cJ2_getChar_3b067 18 = .ok (.new 52, 3) := by decide +kernel
theorem dJ2_getChar_3b067_21 : decode cJ2_getChar_3b067 21 = .ok (.dup, 1) := by decide +kernel
theorem dJ2_getChar_3b067_22 : decode cJ2_getChar_3b067 22 = .ok (.ldc 54, 2) := by decide +kernel
theorem dJ2_getChar_3b067_24 : decode cJ2_getChar_3b067 24 = .ok (.invokespecial 56, 3) := by decide +kernel
theorem dJ2_getChar_3b067_27 : decode cJ2_getChar_3b067 27 = .ok (.athrow, 1) := by decide +kernel
theorem dJ2_getChar_3b067_28 : decode cJ2_getChar_3b067 28 = .ok (.iload_n 1, 1) := by decide +kernel
theorem dJ2_getChar_3b067_29 : decode cJ2_getChar_3b067 29 = .ok (.iconst 1, 1) := by decide +kernel
theorem dJ2_getChar_3b067_30 : decode cJ2_getChar_3b067 30 = .ok (.ishl, 1) := by decide +kernel
theorem dJ2_getChar_3b067_31 : decode cJ2_getChar_3b067 31 = .ok (.istore_n 1, 1) := by decide +kernel
theorem dJ2_getChar_3b067_32 : decode cJ2_getChar_3b067 32 = .ok (.aload_n 0, 1) := by decide +kernel
theorem dJ2_getChar_3b067_33 : decode cJ2_getChar_3b067 33 = .ok (.iload_n 1, 1) := by decide +kernel
theorem dJ2_getChar_3b067_34 : decode cJ2_getChar_3b067 34 = .ok (.iinc 1 1, 3) := by decide +kernel
theorem dJ2_getChar_3b067_37 : decode cJ2_getChar_3b067 37 = .ok (.baload, 1) := by decide +kernel
theorem dJ2_getChar_3b067_38 : decode cJ2_getChar_3b067 38 = .ok (.sipush 255, 3) := by decide +kernel
theorem dJ2_getChar_3b067_41 : decode cJ2_getChar_3b067 41 = .ok (.iand, 1) := by decide +kernel
theorem dJ2_getChar_3b067_42 : decode cJ2_getChar_3b067 42 = .ok (.getstatic 59, 3) := by decide +kernel
theorem dJ2_getChar_3b067_45 : decode cJ2_getChar_3b067 45 = .ok (.ishl, 1) := by decide +kernel
theorem dJ2_getChar_3b067_46 : decode cJ2_getChar_3b067 46 = .ok (.aload_n 0, 1) := by decide +kernel
theorem dJ2_getChar_3b067_47 : decode cJ2_getChar_3b067 47 = .ok (.iload_n 1, 1) := by decide +kernel
theorem dJ2_getChar_3b067_48 : decode cJ2_getChar_3b067 48 = .ok (.baload, 1) := by decide +kernel
theorem dJ2_getChar_3b067_49 : decode cJ2_getChar_3b067 49 = .ok (.sipush 255, 3) := by decide +kernel
theorem dJ2_getChar_3b067_52 : decode cJ2_getChar_3b067 52 = .ok (.iand, 1) := by decide +kernel
theorem dJ2_getChar_3b067_53 : decode cJ2_getChar_3b067 53 = .ok (.getstatic 63, 3) := by decide +kernel
theorem dJ2_getChar_3b067_56 : decode cJ2_getChar_3b067 56 = .ok (.ishl, 1) := by decide +kernel
theorem dJ2_getChar_3b067_57 : decode cJ2_getChar_3b067 57 = .ok (.ior, 1) := by decide +kernel
theorem dJ2_getChar_3b067_58 : decode cJ2_getChar_3b067 58 = .ok (.i2c, 1) := by decide +kernel
theorem dJ2_getChar_3b067_59 : decode cJ2_getChar_3b067 59 = .ok (.ireturn, 1) := by decide +kernel
theorem dJ2_length_9d52b_0 : decode cJ2_length_9d52b 0 = .ok (.aload_n 0, 1) := by decide +kernel
theorem dJ2_length_9d52b_1 : decode cJ2_length_9d52b 1 = .ok (.arraylength, 1) := by decide +kernel
theorem dJ2_length_9d52b_2 : decode cJ2_length_9d52b 2 = .ok (.iconst 1, 1) := by decide +kernel
theorem dJ2_length_9d52b_3 : decode cJ2_length_9d52b 3 = .ok (.ishr, 1) := by decide +kernel
theorem dJ2_length_9d52b_4 : decode cJ2_length_9d52b 4 = .ok (.ireturn, 1) := by decide +kernel
theorem dJ2_charAt_3b067_0 : decode cJ2_charAt_3b067 0 = .ok (.iload_n 1, 1) := by decide +kernel
theorem dJ2_charAt_3b067_1 : decode cJ2_charAt_3b067 1 = .ok (.aload_n 0, 1) := by decide +kernel
theorem dJ2_charAt_3b067_2 : decode cJ2_charAt_3b067 2 = .ok (.invokestatic 67, 3) := by decide +kernel
theorem dJ2_charAt_3b067_5 : decode cJ2_charAt_3b067 5 = .ok (.aload_n 0, 1) := by decide +kernel
theorem dJ2_charAt_3b067_6 : decode cJ2_charAt_3b067 6 = .ok (.iload_n 1, 1) := by decide +kernel
theorem dJ2_charAt_3b067_7 : decode cJ2_charAt_3b067 7 = .ok (.invokestatic 71, 3) := by decide +kernel
theorem dJ2_charAt_3b067_10 : decode cJ2_charAt_3b067 10 = .ok (.ireturn, 1) := by decide +kernel
theorem dJ2_checkIndex_2214a_0 : decode cJ2_checkIndex_2214a 0 = .ok (.iload_n 0, 1) := by decide +kernel
theorem dJ2_checkIndex_2214a_1 : decode cJ2_checkIndex_2214a 1 = .ok (.aload_n 1, 1) := by decide +kernel
theorem dJ2_checkIndex_2214a_2 : decode cJ2_checkIndex_2214a 2 = .ok (.invokestatic 48, 3) := by decide +kernel
theorem dJ2_checkIndex_2214a_5 : decode cJ2_checkIndex_2214a 5 = .ok (.invokestatic 414, 3) := by decide +kernel
theorem dJ2_checkIndex_2214a_8 : decode cJ2_checkIndex_2214a 8 = .ok (.return_, 1) := by decide +kernel
theorem dJ3_checkIndex_8e157_0 : decode cJ3_checkIndex_8e157 0 = .ok (.iload_n 0, 1) := by decide +kernel
theorem dJ3_checkIndex_8e157_1 : decode cJ3_checkIndex_8e157 1 = .ok (.ifCond .lt 8, 3) := by decide +kernel
theorem dJ3_checkIndex_8e157_4 : decode cJ3_checkIndex_8e157 4 = .ok (.iload_n 0, 1) := by decide +kernel
theorem dJ3_checkIndex_8e157_5 : decode cJ3_checkIndex_8e157 5 = .ok (.iload_n 1, 1) := by decide +kernel
theorem dJ3_checkIndex_8e157_6 : decode cJ3_checkIndex_8e157 6 = .ok (.if_icmp .lt 10, 3) := by decide +kernel
theorem dJ3_checkIndex_8e157_9 : decode cJ3_checkIndex_8e157 9 = .ok (.aload_n 2, 1) := by decide +kernel
theorem dJ3_checkIndex_8e157_10 : decode cJ3_checkIndex_8e157 10 = .ok (.iload_n 0, 1) := by decide +kernel
theorem dJ3_checkIndex_8e157_11 : decode cJ3_checkIndex_8e157 11 = .ok (.iload_n 1, 1) := by decide +kernel
theorem dJ3_checkIndex_8e157_12 : decode cJ3_checkIndex_8e157 12 = .ok (.invokestatic 95, 3) := by decide +kernel
theorem dJ3_checkIndex_8e157_15 : decode cJ3_checkIndex_8e157 15 = .ok (.athrow, 1) := by decide +kernel
theorem dJ3_checkIndex_8e157_16 : decode cJ3_checkIndex_8e157 16 = .ok (.iload_n 0, 1) := by decide +kernel
theorem dJ3_checkIndex_8e157_17 : decode cJ3_checkIndex_8e157 17 = .ok (.ireturn, 1) := by decide +kernel
