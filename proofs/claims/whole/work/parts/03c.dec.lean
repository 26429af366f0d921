theorem dX8_init_0 : decode cX8_init 0 = .ok (.aload_n 0, 1) := by decide +kernel
theorem dX8_init_1 : decode cX8_init 1 = .ok (.invokespecial 1, 3) := by decide +kernel
theorem dX8_init_4 : decode cX8_init 4 = .ok (.aload_n 0, 1) := by decide +kernel
theorem dX8_init_5 : decode cX8_init 5 = .ok (.sipush 3171, 3) := by decide +kernel
theorem dX8_init_8 : decode cX8_init 8 = .ok (.newarray .int, 2) := by decide +kernel
theorem dX8_init_10 : decode cX8_init 10 = .ok (.putfield 7, 3) := by decide +kernel
theorem dX8_init_13 : decode cX8_init 13 = .ok (.aload_n 0, 1) := by decide +kernel
theorem dX8_init_14 : decode cX8_init 14 = .ok (.sipush 3171, 3) := by decide +kernel
theorem dX8_init_17 : decode cX8_init 17 = .ok (.newarray .int, 2) := by decide +kernel
theorem dX8_init_19 : decode cX8_init 19 = .ok (.putfield 13, 3) := by decide +kernel
theorem dX8_init_22 : decode cX8_init 22 = .ok (.aload_n 0, 1) := by decide +kernel
theorem dX8_init_23 : decode cX8_init 23 = .ok (.sipush 3171, 3) := by decide +kernel
theorem dX8_init_26 : decode cX8_init 26 = .ok (.newarray .int, 2) := by decide +kernel
theorem dX8_init_28 : decode cX8_init 28 = .ok (.putfield 16, 3) := by decide +kernel
theorem dX8_init_31 : decode cX8_init 31 = .ok (.aload_n 0, 1) := by decide +kernel
theorem dX8_init_32 : decode cX8_init 32 = .ok (.iconst 4, 1) := by decide +kernel
theorem dX8_init_33 : decode cX8_init 33 = .ok (.newarray .int, 2) := by decide +kernel
theorem dX8_init_35 : decode cX8_init 35 = .ok (.putfield 19, 3) := by decide +kernel
theorem dX8_init_38 : decode cX8_init 38 = .ok (.aload_n 0, 1) := by decide +kernel
theorem dX8_init_39 : decode cX8_init 39 = .ok (.iconst 4, 1) := by decide +kernel
theorem dX8_init_40 : decode cX8_init 40 = .ok (.newarray .int, 2) := by decide +kernel
theorem dX8_init_42 : decode cX8_init 42 = .ok (.putfield 22, 3) := by decide +kernel
theorem dX8_init_45 : decode cX8_init 45 = .ok (.aload_n 0, 1) := by decide +kernel
theorem dX8_init_46 : decode cX8_init 46 = .ok (.bipush 96, 2) := by decide +kernel
theorem dX8_init_48 : decode cX8_init 48 = .ok (.newarray .int, 2) := by decide +kernel
theorem dX8_init_50 : decode cX8_init 50 = .ok (.putfield 25, 3) := by decide +kernel
theorem dX8_init_53 : decode cX8_init 53 = .ok (.aload_n 0, 1) := by decide +kernel
theorem dX8_init_54 : decode cX8_init 54 = .ok (.iconst 5, 1) := by decide +kernel
theorem dX8_init_55 : decode cX8_init 55 = .ok (.newarray .int, 2) := by decide +kernel
theorem dX8_init_57 : decode cX8_init 57 = .ok (.putfield 28, 3) := by decide +kernel
theorem dX8_init_60 : decode cX8_init 60 = .ok (.aload_n 0, 1) := by decide +kernel
theorem dX8_init_61 : decode cX8_init 61 = .ok (.iconst 5, 1) := by decide +kernel
theorem dX8_init_62 : decode cX8_init 62 = .ok (.newarray .int, 2) := by decide +kernel
theorem dX8_init_64 : decode cX8_init 64 = .ok (.putfield 31, 3) := by decide +kernel
theorem dX8_init_67 : decode cX8_init 67 = .ok (.aload_n 0, 1) := by decide +kernel
theorem dX8_init_68 : decode cX8_init 68 = .ok (.iconst 5, 1) := by decide +kernel
theorem dX8_init_69 : decode cX8_init 69 = .ok (.newarray .int, 2) := by decide +kernel
theorem dX8_init_71 : decode cX8_init 71 = .ok (.putfield 34, 3) := by decide +kernel
theorem dX8_init_74 : decode cX8_init 74 = .ok (.aload_n 0, 1) := by decide +kernel
theorem dX8_init_75 : decode cX8_init 75 = .ok (.iconst 5, 1) := by decide +kernel
theorem dX8_init_76 : decode cX8_init 76 = .ok (.newarray .int, 2) := by decide +kernel
theorem dX8_init_78 : decode cX8_init 78 = .ok (.putfield 37, 3) := by decide +kernel
theorem dX8_init_81 : decode cX8_init 81 = .ok (.aload_n 0, 1) := by decide +kernel
theorem dX8_init_82 : decode cX8_init 82 = .ok (.bipush 120, 2) := by decide +kernel
theorem dX8_init_84 : decode cX8_init 84 = .ok (.newarray .int, 2) := by decide +kernel
theorem dX8_init_86 : decode cX8_init 86 = .ok (.putfield 40, 3) := by decide +kernel
theorem dX8_init_89 : decode cX8_init 89 = .ok (.aload_n 0, 1) := by decide +kernel
theorem dX8_init_90 : decode cX8_init 90 = .ok (.sipush 171, 3) := by decide +kernel
theorem dX8_init_93 : decode cX8_init 93 = .ok (.newarray .int, 2) := by decide +kernel
theorem dX8_init_95 : decode cX8_init 95 = .ok (.putfield 43, 3) := by decide +kernel
theorem dX8_init_98 : decode cX8_init 98 = .ok (.aload_n 0, 1) := by decide +kernel
theorem dX8_init_99 : decode cX8_init 99 = .ok (.bipush 96, 2) := by decide +kernel
theorem dX8_init_101 : decode cX8_init 101 = .ok (.newarray .int, 2) := by decide +kernel
theorem dX8_init_103 : decode cX8_init 103 = .ok (.putfield 46, 3) := by decide +kernel
theorem dX8_init_106 : decode cX8_init 106 = .ok (.aload_n 0, 1) := by decide +kernel
theorem dX8_init_107 : decode cX8_init 107 = .ok (.sipush 128, 3) := by decide +kernel
theorem dX8_init_110 : decode cX8_init 110 = .ok (.newarray .int, 2) := by decide +kernel
theorem dX8_init_112 : decode cX8_init 112 = .ok (.putfield 49, 3) := by decide +kernel
theorem dX8_init_115 : decode cX8_init 115 = .ok (.aload_n 0, 1) := by decide +kernel
theorem dX8_init_116 : decode cX8_init 116 = .ok (.bipush 100, 2) := by decide +kernel
theorem dX8_init_118 : decode cX8_init 118 = .ok (.newarray .int, 2) := by decide +kernel
theorem dX8_init_120 : decode cX8_init 120 = .ok (.putfield 52, 3) := by decide +kernel
theorem dX8_init_123 : decode cX8_init 123 = .ok (.aload_n 0, 1) := by decide +kernel
theorem dX8_init_124 : decode cX8_init 124 = .ok (.bipush 24, 2) := by decide +kernel
theorem dX8_init_126 : decode cX8_init 126 = .ok (.newarray .int, 2) := by decide +kernel
theorem dX8_init_128 : decode cX8_init 128 = .ok (.putfield 55, 3) := by decide +kernel
theorem dX8_init_131 : decode cX8_init 131 = .ok (.aload_n 0, 1) := by decide +kernel
theorem dX8_init_132 : decode cX8_init 132 = .ok (.bipush 60, 2) := by decide +kernel
theorem dX8_init_134 : decode cX8_init 134 = .ok (.newarray .int, 2) := by decide +kernel
theorem dX8_init_136 : decode cX8_init 136 = .ok (.putfield 58, 3) := by decide +kernel
theorem dX8_init_139 : decode cX8_init 139 = .ok (.aload_n 0, 1) := by decide +kernel
theorem dX8_init_140 : decode cX8_init 140 = .ok (.bipush 60, 2) := by decide +kernel
theorem dX8_init_142 : decode cX8_init 142 = .ok (.newarray .int, 2) := by decide +kernel
theorem dX8_init_144 : decode cX8_init 144 = .ok (.putfield 61, 3) := by decide +kernel
theorem dX8_init_147 : decode cX8_init 147 = .ok (.aload_n 0, 1) := by decide +kernel
theorem dX8_init_148 : decode cX8_init 148 = .ok (.getfield 7, 3) := by decide +kernel
theorem dX8_init_151 : decode cX8_init 151 = .ok (.bipush 6, 2) := by decide +kernel
theorem dX8_init_153 : decode cX8_init 153 = .ok (.iconst 1, 1) := by decide +kernel
theorem dX8_init_154 : decode cX8_init 154 = .ok (.iastore, 1) := by decide +kernel
theorem dX8_init_155 : decode cX8_init 155 = .ok (.iconst 0, 1) := by decide +kernel
theorem dX8_init_156 : decode cX8_init 156 = .ok (.istore_n 1, 1) := by decide +kernel
theorem dX8_init_157 : decode cX8_init 157 = .ok (.iload_n 1, 1) := by decide +kernel
theorem dX8_init_158 : decode cX8_init 158 = .ok (.iconst 4, 1) := by decide +kernel
theorem dX8_init_159 : decode cX8_init 159 = .ok (.if_icmp .ge 16, 3) := by decide +kernel
theorem dX8_init_162 : decode cX8_init 162 = .ok (.aload_n 0, 1) := by decide +kernel
theorem dX8_init_163 : decode cX8_init 163 = .ok (.getfield 19, 3) := by decide +kernel
theorem dX8_init_166 : decode cX8_init 166 = .ok (.iload_n 1, 1) := by decide +kernel
theorem dX8_init_167 : decode cX8_init 167 = .ok (.iconst (-1), 1) := by decide +kernel
theorem dX8_init_168 : decode cX8_init 168 = .ok (.iastore, 1) := by decide +kernel
theorem dX8_init_169 : decode cX8_init 169 = .ok (.iinc 1 1, 3) := by decide +kernel
theorem dX8_init_172 : decode cX8_init 172 = .ok (.goto (-15), 3) := by decide +kernel
theorem dX8_init_175 : decode cX8_init 175 = .ok (.return_, 1) := by decide +kernel
theorem dX8_isIn_0 : decode cX8_isIn 0 = .ok (.lload_n 0, 1) := by decide +kernel
theorem dX8_isIn_1 : decode cX8_isIn 1 = .ok (.lload_n 2, 1) := by decide +kernel
theorem dX8_isIn_2 : decode cX8_isIn 2 = .ok (.lcmp, 1) := by decide +kernel
theorem dX8_isIn_3 : decode cX8_isIn 3 = .ok (.ifCond .lt 14, 3) := by decide +kernel
theorem dX8_isIn_6 : decode cX8_isIn 6 = .ok (.lload_n 0, 1) := by decide +kernel
theorem dX8_isIn_7 : decode cX8_isIn 7 = .ok (.lload 4, 2) := by decide +kernel
theorem dX8_isIn_9 : decode cX8_isIn 9 = .ok (.lcmp, 1) := by decide +kernel
theorem dX8_isIn_10 : decode cX8_isIn 10 = .ok (.ifCond .gt 7, 3) := by decide +kernel
theorem dX8_isIn_13 : decode cX8_isIn 13 = .ok (.iconst 1, 1) := by decide +kernel
theorem dX8_isIn_14 : decode cX8_isIn 14 = .ok (.goto 4, 3) := by decide +kernel
theorem dX8_isIn_17 : decode cX8_isIn 17 = .ok (.iconst 0, 1) := by decide +kernel
theorem dX8_isIn_18 : decode cX8_isIn 18 = .ok (.ireturn, 1) := by decide +kernel
theorem dX8_orNone_0 : decode cX8_orNone 0 = .ok (.iload_n 0, 1) := by decide +kernel
theorem dX8_orNone_1 : decode cX8_orNone 1 = .ok (.ifCond .ge 8, 3) := by decide +kernel
theorem dX8_orNone_4 : decode cX8_orNone 4 = .ok (.ldc 64, 2) := by decide +kernel
theorem dX8_orNone_6 : decode cX8_orNone 6 = .ok (.goto 4, 3) := by decide +kernel
theorem dX8_orNone_9 : decode cX8_orNone 9 = .ok (.iload_n 0, 1) := by decide +kernel
theorem dX8_orNone_10 : decode cX8_orNone 10 = .ok (.ireturn, 1) := by decide +kernel
theorem dX8_within_0 : decode cX8_within 0 = .ok (.iload_n 0, 1) := by decide +kernel
theorem dX8_within_1 : decode cX8_within 1 = .ok (.ifCond .ge 7, 3) := by decide +kernel
theorem dX8_within_4 : decode cX8_within 4 = .ok (.iconst 0, 1) := by decide +kernel
theorem dX8_within_5 : decode cX8_within 5 = .ok (.goto 13, 3) := by decide +kernel
theorem dX8_within_8 : decode cX8_within 8 = .ok (.iload_n 0, 1) := by decide +kernel
theorem dX8_within_9 : decode cX8_within 9 = .ok (.iload_n 1, 1) := by decide +kernel
theorem dX8_within_10 : decode cX8_within 10 = .ok (.if_icmp .le 7, 3) := by decide +kernel
theorem dX8_within_13 : decode cX8_within 13 = .ok (.iload_n 1, 1) := by decide +kernel
theorem dX8_within_14 : decode cX8_within 14 = .ok (.goto 4, 3) := by decide +kernel
theorem dX8_within_17 : decode cX8_within 17 = .ok (.iload_n 0, 1) := by decide +kernel
theorem dX8_within_18 : decode cX8_within 18 = .ok (.ireturn, 1) := by decide +kernel
theorem dX8_off_0 : decode cX8_off 0 = .ok (.iload_n 0, 1) := by decide +kernel
theorem dX8_off_1 : decode cX8_off 1 = .ok (.iload_n 1, 1) := by decide +kernel
theorem dX8_off_2 : decode cX8_off 2 = .ok (.if_icmp .ge 9, 3) := by decide +kernel
theorem dX8_off_5 : decode cX8_off 5 = .ok (.iload_n 1, 1) := by decide +kernel
theorem dX8_off_6 : decode cX8_off 6 = .ok (.iload_n 0, 1) := by decide +kernel
theorem dX8_off_7 : decode cX8_off 7 = .ok (.isub, 1) := by decide +kernel
theorem dX8_off_8 : decode cX8_off 8 = .ok (.goto 6, 3) := by decide +kernel
theorem dX8_off_11 : decode cX8_off 11 = .ok (.iload_n 0, 1) := by decide +kernel
theorem dX8_off_12 : decode cX8_off 12 = .ok (.iload_n 1, 1) := by decide +kernel
theorem dX8_off_13 : decode cX8_off 13 = .ok (.isub, 1) := by decide +kernel
theorem dX8_off_14 : decode cX8_off 14 = .ok (.ireturn, 1) := by decide +kernel
theorem dX8_becomes_0 : decode cX8_becomes 0 = .ok (.aload_n 0, 1) := by decide +kernel
theorem dX8_becomes_1 : decode cX8_becomes 1 = .ok (.getfield 7, 3) := by decide +kernel
theorem dX8_becomes_4 : decode cX8_becomes 4 = .ok (.iload_n 1, 1) := by decide +kernel
theorem dX8_becomes_5 : decode cX8_becomes 5 = .ok (.iaload, 1) := by decide +kernel
theorem dX8_becomes_6 : decode cX8_becomes 6 = .ok (.istore_n 3, 1) := by decide +kernel
theorem dX8_becomes_7 : decode cX8_becomes 7 = .ok (.aload_n 0, 1) := by decide +kernel
theorem dX8_becomes_8 : decode cX8_becomes 8 = .ok (.getfield 7, 3) := by decide +kernel
theorem dX8_becomes_11 : decode cX8_becomes 11 = .ok (.iload_n 1, 1) := by decide +kernel
theorem dX8_becomes_12 : decode cX8_becomes 12 = .ok (.iload_n 2, 1) := by decide +kernel
theorem dX8_becomes_13 : decode cX8_becomes 13 = .ok (.iastore, 1) := by decide +kernel
theorem dX8_becomes_14 : decode cX8_becomes 14 = .ok (.iload_n 3, 1) := by decide +kernel
theorem dX8_becomes_15 : decode cX8_becomes 15 = .ok (.ireturn, 1) := by decide +kernel
theorem dX8_textAt_0 : decode cX8_textAt 0 = .ok (.sipush 171, 3) := by decide +kernel
theorem dX8_textAt_3 : decode cX8_textAt 3 = .ok (.sipush 200, 3) := by decide +kernel
theorem dX8_textAt_6 : decode cX8_textAt 6 = .ok (.iload_n 1, 1) := by decide +kernel
theorem dX8_textAt_7 : decode cX8_textAt 7 = .ok (.imul, 1) := by decide +kernel
theorem dX8_textAt_8 : decode cX8_textAt 8 = .ok (.iadd, 1) := by decide +kernel
theorem dX8_textAt_9 : decode cX8_textAt 9 = .ok (.ireturn, 1) := by decide +kernel
theorem dX8_of_0 : decode cX8_of 0 = .ok (.aload_n 0, 1) := by decide +kernel
theorem dX8_of_1 : decode cX8_of 1 = .ok (.getfield 7, 3) := by decide +kernel
theorem dX8_of_4 : decode cX8_of 4 = .ok (.sipush 131, 3) := by decide +kernel
theorem dX8_of_7 : decode cX8_of 7 = .ok (.iconst 5, 1) := by decide +kernel
theorem dX8_of_8 : decode cX8_of 8 = .ok (.iload_n 1, 1) := by decide +kernel
theorem dX8_of_9 : decode cX8_of 9 = .ok (.imul, 1) := by decide +kernel
theorem dX8_of_10 : decode cX8_of 10 = .ok (.iadd, 1) := by decide +kernel
theorem dX8_of_11 : decode cX8_of 11 = .ok (.iload_n 2, 1) := by decide +kernel
theorem dX8_of_12 : decode cX8_of 12 = .ok (.iadd, 1) := by decide +kernel
theorem dX8_of_13 : decode cX8_of 13 = .ok (.iaload, 1) := by decide +kernel
theorem dX8_of_14 : decode cX8_of 14 = .ok (.ireturn, 1) := by decide +kernel
theorem dX8_sets_0 : decode cX8_sets 0 = .ok (.aload_n 0, 1) := by decide +kernel
theorem dX8_sets_1 : decode cX8_sets 1 = .ok (.getfield 7, 3) := by decide +kernel
theorem dX8_sets_4 : decode cX8_sets 4 = .ok (.sipush 131, 3) := by decide +kernel
theorem dX8_sets_7 : decode cX8_sets 7 = .ok (.iconst 5, 1) := by decide +kernel
theorem dX8_sets_8 : decode cX8_sets 8 = .ok (.iload_n 1, 1) := by decide +kernel
theorem dX8_sets_9 : decode cX8_sets 9 = .ok (.imul, 1) := by decide +kernel
theorem dX8_sets_10 : decode cX8_sets 10 = .ok (.iadd, 1) := by decide +kernel
theorem dX8_sets_11 : decode cX8_sets 11 = .ok (.iload_n 2, 1) := by decide +kernel
theorem dX8_sets_12 : decode cX8_sets 12 = .ok (.iadd, 1) := by decide +kernel
theorem dX8_sets_13 : decode cX8_sets 13 = .ok (.iload_n 3, 1) := by decide +kernel
theorem dX8_sets_14 : decode cX8_sets 14 = .ok (.iastore, 1) := by decide +kernel
theorem dX8_sets_15 : decode cX8_sets 15 = .ok (.return_, 1) := by decide +kernel
theorem dX8_isMule_0 : decode cX8_isMule 0 = .ok (.iload_n 1, 1) := by decide +kernel
theorem dX8_isMule_1 : decode cX8_isMule 1 = .ok (.i2l, 1) := by decide +kernel
theorem dX8_isMule_2 : decode cX8_isMule 2 = .ok (.lconst 0, 1) := by decide +kernel
theorem dX8_isMule_3 : decode cX8_isMule 3 = .ok (.aload_n 0, 1) := by decide +kernel
theorem dX8_isMule_4 : decode cX8_isMule 4 = .ok (.getfield 7, 3) := by decide +kernel
theorem dX8_isMule_7 : decode cX8_isMule 7 = .ok (.iconst 0, 1) := by decide +kernel
theorem dX8_isMule_8 : decode cX8_isMule 8 = .ok (.iaload, 1) := by decide +kernel
theorem dX8_isMule_9 : decode cX8_isMule 9 = .ok (.iconst 1, 1) := by decide +kernel
theorem dX8_isMule_10 : decode cX8_isMule 10 = .ok (.isub, 1) := by decide +kernel
theorem dX8_isMule_11 : decode cX8_isMule 11 = .ok (.i2l, 1) := by decide +kernel
theorem dX8_isMule_12 : decode cX8_isMule 12 = .ok (.invokestatic 65, 3) := by decide +kernel
theorem dX8_isMule_15 : decode cX8_isMule 15 = .ok (.ireturn, 1) := by decide +kernel
theorem dX8_isYard_0 : decode cX8_isYard 0 = .ok (.iload_n 0, 1) := by decide +kernel
theorem dX8_isYard_1 : decode cX8_isYard 1 = .ok (.i2l, 1) := by decide +kernel
theorem dX8_isYard_2 : decode cX8_isYard 2 = .ok (.lconst 0, 1) := by decide +kernel
theorem dX8_isYard_3 : decode cX8_isYard 3 = .ok (.ldc2_w 69, 3) := by decide +kernel
theorem dX8_isYard_6 : decode cX8_isYard 6 = .ok (.invokestatic 65, 3) := by decide +kernel
theorem dX8_isYard_9 : decode cX8_isYard 9 = .ok (.ireturn, 1) := by decide +kernel
theorem dX8_isText_0 : decode cX8_isText 0 = .ok (.iload_n 1, 1) := by decide +kernel
theorem dX8_isText_1 : decode cX8_isText 1 = .ok (.i2l, 1) := by decide +kernel
theorem dX8_isText_2 : decode cX8_isText 2 = .ok (.lconst 0, 1) := by decide +kernel
theorem dX8_isText_3 : decode cX8_isText 3 = .ok (.aload_n 0, 1) := by decide +kernel
theorem dX8_isText_4 : decode cX8_isText 4 = .ok (.getfield 7, 3) := by decide +kernel
theorem dX8_isText_7 : decode cX8_isText 7 = .ok (.iconst 1, 1) := by decide +kernel
theorem dX8_isText_8 : decode cX8_isText 8 = .ok (.iaload, 1) := by decide +kernel
theorem dX8_isText_9 : decode cX8_isText 9 = .ok (.iconst 1, 1) := by decide +kernel
theorem dX8_isText_10 : decode cX8_isText 10 = .ok (.isub, 1) := by decide +kernel
theorem dX8_isText_11 : decode cX8_isText 11 = .ok (.i2l, 1) := by decide +kernel
theorem dX8_isText_12 : decode cX8_isText 12 = .ok (.invokestatic 65, 3) := by decide +kernel
theorem dX8_isText_15 : decode cX8_isText 15 = .ok (.ireturn, 1) := by decide +kernel
theorem dX8_drawn_0 : decode cX8_drawn 0 = .ok (.aload_n 0, 1) := by decide +kernel
theorem dX8_drawn_1 : decode cX8_drawn 1 = .ok (.getfield 7, 3) := by decide +kernel
theorem dX8_drawn_4 : decode cX8_drawn 4 = .ok (.bipush 6, 2) := by decide +kernel
theorem dX8_drawn_6 : decode cX8_drawn 6 = .ok (.aload_n 0, 1) := by decide +kernel
theorem dX8_drawn_7 : decode cX8_drawn 7 = .ok (.getfield 7, 3) := by decide +kernel
theorem dX8_drawn_10 : decode cX8_drawn 10 = .ok (.bipush 6, 2) := by decide +kernel
theorem dX8_drawn_12 : decode cX8_drawn 12 = .ok (.iaload, 1) := by decide +kernel
theorem dX8_drawn_13 : decode cX8_drawn 13 = .ok (.ldc 71, 2) := by decide +kernel
theorem dX8_drawn_15 : decode cX8_drawn 15 = .ok (.imul, 1) := by decide +kernel
theorem dX8_drawn_16 : decode cX8_drawn 16 = .ok (.sipush 12345, 3) := by decide +kernel
theorem dX8_drawn_19 : decode cX8_drawn 19 = .ok (.iadd, 1) := by decide +kernel
theorem dX8_drawn_20 : decode cX8_drawn 20 = .ok (.iastore, 1) := by decide +kernel
theorem dX8_drawn_21 : decode cX8_drawn 21 = .ok (.aload_n 0, 1) := by decide +kernel
theorem dX8_drawn_22 : decode cX8_drawn 22 = .ok (.getfield 7, 3) := by decide +kernel
theorem dX8_drawn_25 : decode cX8_drawn 25 = .ok (.bipush 6, 2) := by decide +kernel
theorem dX8_drawn_27 : decode cX8_drawn 27 = .ok (.iaload, 1) := by decide +kernel
theorem dX8_drawn_28 : decode cX8_drawn 28 = .ok (.bipush 8, 2) := by decide +kernel
theorem dX8_drawn_30 : decode cX8_drawn 30 = .ok (.iushr, 1) := by decide +kernel
theorem dX8_drawn_31 : decode cX8_drawn 31 = .ok (.ireturn, 1) := by decide +kernel
theorem dX8_comes_0 : decode cX8_comes 0 = .ok (.aload_n 0, 1) := by decide +kernel
theorem dX8_comes_1 : decode cX8_comes 1 = .ok (.getfield 7, 3) := by decide +kernel
theorem dX8_comes_4 : decode cX8_comes 4 = .ok (.iconst 0, 1) := by decide +kernel
theorem dX8_comes_5 : decode cX8_comes 5 = .ok (.iaload, 1) := by decide +kernel
theorem dX8_comes_6 : decode cX8_comes 6 = .ok (.istore 5, 2) := by decide +kernel
theorem dX8_comes_8 : decode cX8_comes 8 = .ok (.aload_n 0, 1) := by decide +kernel
theorem dX8_comes_9 : decode cX8_comes 9 = .ok (.getfield 7, 3) := by decide +kernel
theorem dX8_comes_12 : decode cX8_comes 12 = .ok (.iconst 0, 1) := by decide +kernel
theorem dX8_comes_13 : decode cX8_comes 13 = .ok (.dup2, 1) := by decide +kernel
theorem dX8_comes_14 : decode cX8_comes 14 = .ok (.iaload, 1) := by decide +kernel
theorem dX8_comes_15 : decode cX8_comes 15 = .ok (.iconst 1, 1) := by decide +kernel
theorem dX8_comes_16 : decode cX8_comes 16 = .ok (.iadd, 1) := by decide +kernel
theorem dX8_comes_17 : decode cX8_comes 17 = .ok (.iastore, 1) := by decide +kernel
theorem dX8_comes_18 : decode cX8_comes 18 = .ok (.aload_n 0, 1) := by decide +kernel
theorem dX8_comes_19 : decode cX8_comes 19 = .ok (.iload 5, 2) := by decide +kernel
theorem dX8_comes_21 : decode cX8_comes 21 = .ok (.iconst 0, 1) := by decide +kernel
theorem dX8_comes_22 : decode cX8_comes 22 = .ok (.iload_n 1, 1) := by decide +kernel
theorem dX8_comes_23 : decode cX8_comes 23 = .ok (.invokevirtual 72, 3) := by decide +kernel
theorem dX8_comes_26 : decode cX8_comes 26 = .ok (.aload_n 0, 1) := by decide +kernel
theorem dX8_comes_27 : decode cX8_comes 27 = .ok (.iload 5, 2) := by decide +kernel
theorem dX8_comes_29 : decode cX8_comes 29 = .ok (.iconst 1, 1) := by decide +kernel
theorem dX8_comes_30 : decode cX8_comes 30 = .ok (.iload_n 2, 1) := by decide +kernel
theorem dX8_comes_31 : decode cX8_comes 31 = .ok (.invokevirtual 72, 3) := by decide +kernel
theorem dX8_comes_34 : decode cX8_comes 34 = .ok (.aload_n 0, 1) := by decide +kernel
theorem dX8_comes_35 : decode cX8_comes 35 = .ok (.iload 5, 2) := by decide +kernel
theorem dX8_comes_37 : decode cX8_comes 37 = .ok (.iconst 2, 1) := by decide +kernel
theorem dX8_comes_38 : decode cX8_comes 38 = .ok (.iconst 0, 1) := by decide +kernel
theorem dX8_comes_39 : decode cX8_comes 39 = .ok (.invokevirtual 72, 3) := by decide +kernel
theorem dX8_comes_42 : decode cX8_comes 42 = .ok (.aload_n 0, 1) := by decide +kernel
theorem dX8_comes_43 : decode cX8_comes 43 = .ok (.iload 5, 2) := by decide +kernel
theorem dX8_comes_45 : decode cX8_comes 45 = .ok (.iconst 3, 1) := by decide +kernel
theorem dX8_comes_46 : decode cX8_comes 46 = .ok (.iload_n 3, 1) := by decide +kernel
theorem dX8_comes_47 : decode cX8_comes 47 = .ok (.invokevirtual 72, 3) := by decide +kernel
theorem dX8_comes_50 : decode cX8_comes 50 = .ok (.aload_n 0, 1) := by decide +kernel
theorem dX8_comes_51 : decode cX8_comes 51 = .ok (.iload 5, 2) := by decide +kernel
theorem dX8_comes_53 : decode cX8_comes 53 = .ok (.iconst 4, 1) := by decide +kernel
theorem dX8_comes_54 : decode cX8_comes 54 = .ok (.iload 4, 2) := by decide +kernel
theorem dX8_comes_56 : decode cX8_comes 56 = .ok (.invokevirtual 72, 3) := by decide +kernel
theorem dX8_comes_59 : decode cX8_comes 59 = .ok (.return_, 1) := by decide +kernel
theorem dX8_mule_0 : decode cX8_mule 0 = .ok (.iload_n 1, 1) := by decide +kernel
theorem dX8_mule_1 : decode cX8_mule 1 = .ok (.i2l, 1) := by decide +kernel
theorem dX8_mule_2 : decode cX8_mule 2 = .ok (.lconst 0, 1) := by decide +kernel
theorem dX8_mule_3 : decode cX8_mule 3 = .ok (.ldc2_w 76, 3) := by decide +kernel
theorem dX8_mule_6 : decode cX8_mule 6 = .ok (.invokestatic 65, 3) := by decide +kernel
theorem dX8_mule_9 : decode cX8_mule 9 = .ok (.ifCond .eq 40, 3) := by decide +kernel
theorem dX8_mule_12 : decode cX8_mule 12 = .ok (.iload_n 2, 1) := by decide +kernel
theorem dX8_mule_13 : decode cX8_mule 13 = .ok (.i2l, 1) := by decide +kernel
theorem dX8_mule_14 : decode cX8_mule 14 = .ok (.lconst 0, 1) := by decide +kernel
theorem dX8_mule_15 : decode cX8_mule 15 = .ok (.ldc2_w 78, 3) := by decide +kernel
theorem dX8_mule_18 : decode cX8_mule 18 = .ok (.invokestatic 65, 3) := by decide +kernel
theorem dX8_mule_21 : decode cX8_mule 21 = .ok (.ifCond .eq 28, 3) := by decide +kernel
theorem dX8_mule_24 : decode cX8_mule 24 = .ok (.iload_n 3, 1) := by decide +kernel
theorem dX8_mule_25 : decode cX8_mule 25 = .ok (.i2l, 1) := by decide +kernel
theorem dX8_mule_26 : decode cX8_mule 26 = .ok (.lconst 0, 1) := by decide +kernel
theorem dX8_mule_27 : decode cX8_mule 27 = .ok (.ldc2_w 80, 3) := by decide +kernel
theorem dX8_mule_30 : decode cX8_mule 30 = .ok (.invokestatic 65, 3) := by decide +kernel
theorem dX8_mule_33 : decode cX8_mule 33 = .ok (.ifCond .eq 16, 3) := by decide +kernel
theorem dX8_mule_36 : decode cX8_mule 36 = .ok (.iload 4, 2) := by decide +kernel
theorem dX8_mule_38 : decode cX8_mule 38 = .ok (.i2l, 1) := by decide +kernel
theorem dX8_mule_39 : decode cX8_mule 39 = .ok (.lconst 0, 1) := by decide +kernel
theorem dX8_mule_40 : decode cX8_mule 40 = .ok (.ldc2_w 82, 3) := by decide +kernel
theorem dX8_mule_43 : decode cX8_mule 43 = .ok (.invokestatic 65, 3) := by decide +kernel
theorem dX8_mule_46 : decode cX8_mule 46 = .ok (.ifCond .ne 6, 3) := by decide +kernel
theorem dX8_mule_49 : decode cX8_mule 49 = .ok (.ldc 84, 2) := by decide +kernel
theorem dX8_mule_51 : decode cX8_mule 51 = .ok (.ireturn, 1) := by decide +kernel
theorem dX8_mule_52 : decode cX8_mule 52 = .ok (.aload_n 0, 1) := by decide +kernel
theorem dX8_mule_53 : decode cX8_mule 53 = .ok (.getfield 7, 3) := by decide +kernel
theorem dX8_mule_56 : decode cX8_mule 56 = .ok (.iconst 0, 1) := by decide +kernel
theorem dX8_mule_57 : decode cX8_mule 57 = .ok (.iaload, 1) := by decide +kernel
theorem dX8_mule_58 : decode cX8_mule 58 = .ok (.bipush 8, 2) := by decide +kernel
theorem dX8_mule_60 : decode cX8_mule 60 = .ok (.if_icmp .ne 6, 3) := by decide +kernel
theorem dX8_mule_63 : decode cX8_mule 63 = .ok (.ldc 85, 2) := by decide +kernel
theorem dX8_mule_65 : decode cX8_mule 65 = .ok (.ireturn, 1) := by decide +kernel
theorem dX8_mule_66 : decode cX8_mule 66 = .ok (.aload_n 0, 1) := by decide +kernel
theorem dX8_mule_67 : decode cX8_mule 67 = .ok (.iload_n 1, 1) := by decide +kernel
theorem dX8_mule_68 : decode cX8_mule 68 = .ok (.iload_n 2, 1) := by decide +kernel
theorem dX8_mule_69 : decode cX8_mule 69 = .ok (.iload_n 3, 1) := by decide +kernel
theorem dX8_mule_70 : decode cX8_mule 70 = .ok (.iload 4, 2) := by decide +kernel
theorem dX8_mule_72 : decode cX8_mule 72 = .ok (.invokevirtual 86, 3) := by decide +kernel
theorem dX8_mule_75 : decode cX8_mule 75 = .ok (.aload_n 0, 1) := by decide +kernel
theorem dX8_mule_76 : decode cX8_mule 76 = .ok (.getfield 7, 3) := by decide +kernel
theorem dX8_mule_79 : decode cX8_mule 79 = .ok (.iconst 0, 1) := by decide +kernel
theorem dX8_mule_80 : decode cX8_mule 80 = .ok (.iaload, 1) := by decide +kernel
theorem dX8_mule_81 : decode cX8_mule 81 = .ok (.iconst 1, 1) := by decide +kernel
theorem dX8_mule_82 : decode cX8_mule 82 = .ok (.isub, 1) := by decide +kernel
theorem dX8_mule_83 : decode cX8_mule 83 = .ok (.ireturn, 1) := by decide +kernel
theorem dX8_leaks_0 : decode cX8_leaks 0 = .ok (.aload_n 0, 1) := by decide +kernel
theorem dX8_leaks_1 : decode cX8_leaks 1 = .ok (.iload_n 1, 1) := by decide +kernel
theorem dX8_leaks_2 : decode cX8_leaks 2 = .ok (.iconst 4, 1) := by decide +kernel
theorem dX8_leaks_3 : decode cX8_leaks 3 = .ok (.invokevirtual 90, 3) := by decide +kernel
theorem dX8_leaks_6 : decode cX8_leaks 6 = .ok (.istore_n 2, 1) := by decide +kernel
theorem dX8_leaks_7 : decode cX8_leaks 7 = .ok (.aload_n 0, 1) := by decide +kernel
theorem dX8_leaks_8 : decode cX8_leaks 8 = .ok (.iconst 0, 1) := by decide +kernel
theorem dX8_leaks_9 : decode cX8_leaks 9 = .ok (.invokevirtual 94, 3) := by decide +kernel
theorem dX8_leaks_12 : decode cX8_leaks 12 = .ok (.istore_n 3, 1) := by decide +kernel
theorem dX8_leaks_13 : decode cX8_leaks 13 = .ok (.iload_n 3, 1) := by decide +kernel
theorem dX8_leaks_14 : decode cX8_leaks 14 = .ok (.ifCond .lt 54, 3) := by decide +kernel
theorem dX8_leaks_17 : decode cX8_leaks 17 = .ok (.aload_n 0, 1) := by decide +kernel
theorem dX8_leaks_18 : decode cX8_leaks 18 = .ok (.getfield 49, 3) := by decide +kernel
theorem dX8_leaks_21 : decode cX8_leaks 21 = .ok (.bipush 104, 2) := by decide +kernel
theorem dX8_leaks_23 : decode cX8_leaks 23 = .ok (.aload_n 0, 1) := by decide +kernel
theorem dX8_leaks_24 : decode cX8_leaks 24 = .ok (.iload_n 1, 1) := by decide +kernel
theorem dX8_leaks_25 : decode cX8_leaks 25 = .ok (.iconst 4, 1) := by decide +kernel
theorem dX8_leaks_26 : decode cX8_leaks 26 = .ok (.invokevirtual 90, 3) := by decide +kernel
theorem dX8_leaks_29 : decode cX8_leaks 29 = .ok (.iastore, 1) := by decide +kernel
theorem dX8_leaks_30 : decode cX8_leaks 30 = .ok (.aload_n 0, 1) := by decide +kernel
theorem dX8_leaks_31 : decode cX8_leaks 31 = .ok (.getfield 49, 3) := by decide +kernel
theorem dX8_leaks_34 : decode cX8_leaks 34 = .ok (.bipush 112, 2) := by decide +kernel
theorem dX8_leaks_36 : decode cX8_leaks 36 = .ok (.aload_n 0, 1) := by decide +kernel
theorem dX8_leaks_37 : decode cX8_leaks 37 = .ok (.iload_n 1, 1) := by decide +kernel
theorem dX8_leaks_38 : decode cX8_leaks 38 = .ok (.iconst 1, 1) := by decide +kernel
theorem dX8_leaks_39 : decode cX8_leaks 39 = .ok (.invokevirtual 90, 3) := by decide +kernel
theorem dX8_leaks_42 : decode cX8_leaks 42 = .ok (.iastore, 1) := by decide +kernel
theorem dX8_leaks_43 : decode cX8_leaks 43 = .ok (.aload_n 0, 1) := by decide +kernel
theorem dX8_leaks_44 : decode cX8_leaks 44 = .ok (.getfield 49, 3) := by decide +kernel
theorem dX8_leaks_47 : decode cX8_leaks 47 = .ok (.bipush 103, 2) := by decide +kernel
theorem dX8_leaks_49 : decode cX8_leaks 49 = .ok (.aload_n 0, 1) := by decide +kernel
theorem dX8_leaks_50 : decode cX8_leaks 50 = .ok (.iload_n 1, 1) := by decide +kernel
theorem dX8_leaks_51 : decode cX8_leaks 51 = .ok (.iconst 3, 1) := by decide +kernel
theorem dX8_leaks_52 : decode cX8_leaks 52 = .ok (.invokevirtual 90, 3) := by decide +kernel
theorem dX8_leaks_55 : decode cX8_leaks 55 = .ok (.iastore, 1) := by decide +kernel
theorem dX8_leaks_56 : decode cX8_leaks 56 = .ok (.aload_n 0, 1) := by decide +kernel
theorem dX8_leaks_57 : decode cX8_leaks 57 = .ok (.iload_n 3, 1) := by decide +kernel
theorem dX8_leaks_58 : decode cX8_leaks 58 = .ok (.invokevirtual 98, 3) := by decide +kernel
theorem dX8_leaks_61 : decode cX8_leaks 61 = .ok (.sipush 999, 3) := by decide +kernel
theorem dX8_leaks_64 : decode cX8_leaks 64 = .ok (.invokestatic 101, 3) := by decide +kernel
theorem dX8_leaks_67 : decode cX8_leaks 67 = .ok (.istore_n 2, 1) := by decide +kernel
theorem dX8_leaks_68 : decode cX8_leaks 68 = .ok (.aload_n 0, 1) := by decide +kernel
theorem dX8_leaks_69 : decode cX8_leaks 69 = .ok (.iload_n 1, 1) := by decide +kernel
theorem dX8_leaks_70 : decode cX8_leaks 70 = .ok (.iconst 0, 1) := by decide +kernel
theorem dX8_leaks_71 : decode cX8_leaks 71 = .ok (.invokevirtual 90, 3) := by decide +kernel
theorem dX8_leaks_74 : decode cX8_leaks 74 = .ok (.tableswitch 80 1 5 #[34, 38, 42, 59, 76], 34) := by decide +kernel
theorem dX8_leaks_108 : decode cX8_leaks 108 = .ok (.iload_n 2, 1) := by decide +kernel
theorem dX8_leaks_109 : decode cX8_leaks 109 = .ok (.iconst 2, 1) := by decide +kernel
theorem dX8_leaks_110 : decode cX8_leaks 110 = .ok (.idiv, 1) := by decide +kernel
theorem dX8_leaks_111 : decode cX8_leaks 111 = .ok (.ireturn, 1) := by decide +kernel
theorem dX8_leaks_112 : decode cX8_leaks 112 = .ok (.iconst 2, 1) := by decide +kernel
theorem dX8_leaks_113 : decode cX8_leaks 113 = .ok (.iload_n 2, 1) := by decide +kernel
theorem dX8_leaks_114 : decode cX8_leaks 114 = .ok (.imul, 1) := by decide +kernel
theorem dX8_leaks_115 : decode cX8_leaks 115 = .ok (.ireturn, 1) := by decide +kernel
theorem dX8_leaks_116 : decode cX8_leaks 116 = .ok (.iload_n 2, 1) := by decide +kernel
theorem dX8_leaks_117 : decode cX8_leaks 117 = .ok (.iconst 2, 1) := by decide +kernel
theorem dX8_leaks_118 : decode cX8_leaks 118 = .ok (.idiv, 1) := by decide +kernel
theorem dX8_leaks_119 : decode cX8_leaks 119 = .ok (.iconst 2, 1) := by decide +kernel
theorem dX8_leaks_120 : decode cX8_leaks 120 = .ok (.if_icmp .ge 7, 3) := by decide +kernel
theorem dX8_leaks_123 : decode cX8_leaks 123 = .ok (.iconst 0, 1) := by decide +kernel
theorem dX8_leaks_124 : decode cX8_leaks 124 = .ok (.goto 8, 3) := by decide +kernel
theorem dX8_leaks_127 : decode cX8_leaks 127 = .ok (.iload_n 2, 1) := by decide +kernel
theorem dX8_leaks_128 : decode cX8_leaks 128 = .ok (.iconst 2, 1) := by decide +kernel
theorem dX8_leaks_129 : decode cX8_leaks 129 = .ok (.idiv, 1) := by decide +kernel
theorem dX8_leaks_130 : decode cX8_leaks 130 = .ok (.iconst 2, 1) := by decide +kernel
theorem dX8_leaks_131 : decode cX8_leaks 131 = .ok (.isub, 1) := by decide +kernel
theorem dX8_leaks_132 : decode cX8_leaks 132 = .ok (.ireturn, 1) := by decide +kernel
theorem dX8_leaks_133 : decode cX8_leaks 133 = .ok (.iconst 2, 1) := by decide +kernel
theorem dX8_leaks_134 : decode cX8_leaks 134 = .ok (.iload_n 2, 1) := by decide +kernel
theorem dX8_leaks_135 : decode cX8_leaks 135 = .ok (.imul, 1) := by decide +kernel
theorem dX8_leaks_136 : decode cX8_leaks 136 = .ok (.iconst 5, 1) := by decide +kernel
theorem dX8_leaks_137 : decode cX8_leaks 137 = .ok (.if_icmp .ge 7, 3) := by decide +kernel
theorem dX8_leaks_140 : decode cX8_leaks 140 = .ok (.iconst 0, 1) := by decide +kernel
theorem dX8_leaks_141 : decode cX8_leaks 141 = .ok (.goto 8, 3) := by decide +kernel
theorem dX8_leaks_144 : decode cX8_leaks 144 = .ok (.iconst 2, 1) := by decide +kernel
theorem dX8_leaks_145 : decode cX8_leaks 145 = .ok (.iload_n 2, 1) := by decide +kernel
theorem dX8_leaks_146 : decode cX8_leaks 146 = .ok (.imul, 1) := by decide +kernel
theorem dX8_leaks_147 : decode cX8_leaks 147 = .ok (.iconst 5, 1) := by decide +kernel
theorem dX8_leaks_148 : decode cX8_leaks 148 = .ok (.isub, 1) := by decide +kernel
theorem dX8_leaks_149 : decode cX8_leaks 149 = .ok (.ireturn, 1) := by decide +kernel
theorem dX8_leaks_150 : decode cX8_leaks 150 = .ok (.iload_n 2, 1) := by decide +kernel
theorem dX8_leaks_151 : decode cX8_leaks 151 = .ok (.iconst 1, 1) := by decide +kernel
theorem dX8_leaks_152 : decode cX8_leaks 152 = .ok (.iadd, 1) := by decide +kernel
theorem dX8_leaks_153 : decode cX8_leaks 153 = .ok (.ireturn, 1) := by decide +kernel
theorem dX8_leaks_154 : decode cX8_leaks 154 = .ok (.iload_n 2, 1) := by decide +kernel
theorem dX8_leaks_155 : decode cX8_leaks 155 = .ok (.ireturn, 1) := by decide +kernel
theorem dX8_paces_0 : decode cX8_paces 0 = .ok (.aload_n 0, 1) := by decide +kernel
theorem dX8_paces_1 : decode cX8_paces 1 = .ok (.iload_n 1, 1) := by decide +kernel
theorem dX8_paces_2 : decode cX8_paces 2 = .ok (.iconst 1, 1) := by decide +kernel
theorem dX8_paces_3 : decode cX8_paces 3 = .ok (.invokevirtual 90, 3) := by decide +kernel
theorem dX8_paces_6 : decode cX8_paces 6 = .ok (.istore_n 2, 1) := by decide +kernel
theorem dX8_paces_7 : decode cX8_paces 7 = .ok (.iload_n 2, 1) := by decide +kernel
theorem dX8_paces_8 : decode cX8_paces 8 = .ok (.ifCond .le 9, 3) := by decide +kernel
theorem dX8_paces_11 : decode cX8_paces 11 = .ok (.iload_n 2, 1) := by decide +kernel
theorem dX8_paces_12 : decode cX8_paces 12 = .ok (.iconst 1, 1) := by decide +kernel
theorem dX8_paces_13 : decode cX8_paces 13 = .ok (.isub, 1) := by decide +kernel
theorem dX8_paces_14 : decode cX8_paces 14 = .ok (.goto 4, 3) := by decide +kernel
theorem dX8_paces_17 : decode cX8_paces 17 = .ok (.iconst 0, 1) := by decide +kernel
theorem dX8_paces_18 : decode cX8_paces 18 = .ok (.istore_n 3, 1) := by decide +kernel
theorem dX8_paces_19 : decode cX8_paces 19 = .ok (.aload_n 0, 1) := by decide +kernel
theorem dX8_paces_20 : decode cX8_paces 20 = .ok (.iload_n 1, 1) := by decide +kernel
theorem dX8_paces_21 : decode cX8_paces 21 = .ok (.iconst 0, 1) := by decide +kernel
theorem dX8_paces_22 : decode cX8_paces 22 = .ok (.invokevirtual 90, 3) := by decide +kernel
theorem dX8_paces_25 : decode cX8_paces 25 = .ok (.tableswitch 37 2 4 #[31, 27, 33], 27) := by decide +kernel
theorem dX8_paces_52 : decode cX8_paces 52 = .ok (.iload_n 2, 1) := by decide +kernel
theorem dX8_paces_53 : decode cX8_paces 53 = .ok (.iconst 1, 1) := by decide +kernel
theorem dX8_paces_54 : decode cX8_paces 54 = .ok (.iadd, 1) := by decide +kernel
theorem dX8_paces_55 : decode cX8_paces 55 = .ok (.ireturn, 1) := by decide +kernel
theorem dX8_paces_56 : decode cX8_paces 56 = .ok (.iload_n 3, 1) := by decide +kernel
theorem dX8_paces_57 : decode cX8_paces 57 = .ok (.ireturn, 1) := by decide +kernel
theorem dX8_paces_58 : decode cX8_paces 58 = .ok (.iload_n 3, 1) := by decide +kernel
theorem dX8_paces_59 : decode cX8_paces 59 = .ok (.iconst 2, 1) := by decide +kernel
theorem dX8_paces_60 : decode cX8_paces 60 = .ok (.idiv, 1) := by decide +kernel
theorem dX8_paces_61 : decode cX8_paces 61 = .ok (.ireturn, 1) := by decide +kernel
theorem dX8_paces_62 : decode cX8_paces 62 = .ok (.iload_n 2, 1) := by decide +kernel
theorem dX8_paces_63 : decode cX8_paces 63 = .ok (.ireturn, 1) := by decide +kernel
theorem dX8_worth_0 : decode cX8_worth 0 = .ok (.bipush 9, 2) := by decide +kernel
theorem dX8_worth_2 : decode cX8_worth 2 = .ok (.aload_n 0, 1) := by decide +kernel
theorem dX8_worth_3 : decode cX8_worth 3 = .ok (.iload_n 1, 1) := by decide +kernel
theorem dX8_worth_4 : decode cX8_worth 4 = .ok (.iconst 1, 1) := by decide +kernel
theorem dX8_worth_5 : decode cX8_worth 5 = .ok (.invokevirtual 90, 3) := by decide +kernel
theorem dX8_worth_8 : decode cX8_worth 8 = .ok (.imul, 1) := by decide +kernel
theorem dX8_worth_9 : decode cX8_worth 9 = .ok (.istore_n 2, 1) := by decide +kernel
theorem dX8_worth_10 : decode cX8_worth 10 = .ok (.aload_n 0, 1) := by decide +kernel
theorem dX8_worth_11 : decode cX8_worth 11 = .ok (.iload_n 1, 1) := by decide +kernel
theorem dX8_worth_12 : decode cX8_worth 12 = .ok (.iconst 0, 1) := by decide +kernel
theorem dX8_worth_13 : decode cX8_worth 13 = .ok (.invokevirtual 90, 3) := by decide +kernel
theorem dX8_worth_16 : decode cX8_worth 16 = .ok (.tableswitch 60 1 5 #[36, 41, 46, 53, 58], 36) := by decide +kernel
theorem dX8_worth_52 : decode cX8_worth 52 = .ok (.iload_n 2, 1) := by decide +kernel
theorem dX8_worth_53 : decode cX8_worth 53 = .ok (.bipush 6, 2) := by decide +kernel
theorem dX8_worth_55 : decode cX8_worth 55 = .ok (.iadd, 1) := by decide +kernel
theorem dX8_worth_56 : decode cX8_worth 56 = .ok (.ireturn, 1) := by decide +kernel
theorem dX8_worth_57 : decode cX8_worth 57 = .ok (.bipush 99, 2) := by decide +kernel
theorem dX8_worth_59 : decode cX8_worth 59 = .ok (.iload_n 2, 1) := by decide +kernel
theorem dX8_worth_60 : decode cX8_worth 60 = .ok (.isub, 1) := by decide +kernel
theorem dX8_worth_61 : decode cX8_worth 61 = .ok (.ireturn, 1) := by decide +kernel
theorem dX8_worth_62 : decode cX8_worth 62 = .ok (.iconst 2, 1) := by decide +kernel
theorem dX8_worth_63 : decode cX8_worth 63 = .ok (.iload_n 2, 1) := by decide +kernel
theorem dX8_worth_64 : decode cX8_worth 64 = .ok (.bipush 6, 2) := by decide +kernel
theorem dX8_worth_66 : decode cX8_worth 66 = .ok (.iadd, 1) := by decide +kernel
theorem dX8_worth_67 : decode cX8_worth 67 = .ok (.imul, 1) := by decide +kernel
theorem dX8_worth_68 : decode cX8_worth 68 = .ok (.ireturn, 1) := by decide +kernel
theorem dX8_worth_69 : decode cX8_worth 69 = .ok (.bipush 91, 2) := by decide +kernel
theorem dX8_worth_71 : decode cX8_worth 71 = .ok (.iload_n 2, 1) := by decide +kernel
theorem dX8_worth_72 : decode cX8_worth 72 = .ok (.isub, 1) := by decide +kernel
theorem dX8_worth_73 : decode cX8_worth 73 = .ok (.ireturn, 1) := by decide +kernel
theorem dX8_worth_74 : decode cX8_worth 74 = .ok (.iconst 4, 1) := by decide +kernel
theorem dX8_worth_75 : decode cX8_worth 75 = .ok (.ireturn, 1) := by decide +kernel
theorem dX8_worth_76 : decode cX8_worth 76 = .ok (.iload_n 2, 1) := by decide +kernel
theorem dX8_worth_77 : decode cX8_worth 77 = .ok (.ireturn, 1) := by decide +kernel
theorem dX8_told_0 : decode cX8_told 0 = .ok (.aload_n 0, 1) := by decide +kernel
theorem dX8_told_1 : decode cX8_told 1 = .ok (.iload_n 1, 1) := by decide +kernel
theorem dX8_told_2 : decode cX8_told 2 = .ok (.invokevirtual 104, 3) := by decide +kernel
theorem dX8_told_5 : decode cX8_told 5 = .ok (.ifCond .ne 6, 3) := by decide +kernel
theorem dX8_told_8 : decode cX8_told 8 = .ok (.ldc 84, 2) := by decide +kernel
theorem dX8_told_10 : decode cX8_told 10 = .ok (.ireturn, 1) := by decide +kernel
theorem dX8_told_11 : decode cX8_told 11 = .ok (.iload_n 2, 1) := by decide +kernel
theorem dX8_told_12 : decode cX8_told 12 = .ok (.tableswitch 73 0 7 #[48, 48, 48, 48, 48, 55, 61, 67], 48) := by decide +kernel
theorem dX8_told_60 : decode cX8_told 60 = .ok (.aload_n 0, 1) := by decide +kernel
theorem dX8_told_61 : decode cX8_told 61 = .ok (.iload_n 1, 1) := by decide +kernel
theorem dX8_told_62 : decode cX8_told 62 = .ok (.iload_n 2, 1) := by decide +kernel
theorem dX8_told_63 : decode cX8_told 63 = .ok (.invokevirtual 90, 3) := by decide +kernel
theorem dX8_told_66 : decode cX8_told 66 = .ok (.ireturn, 1) := by decide +kernel
theorem dX8_told_67 : decode cX8_told 67 = .ok (.aload_n 0, 1) := by decide +kernel
theorem dX8_told_68 : decode cX8_told 68 = .ok (.iload_n 1, 1) := by decide +kernel
theorem dX8_told_69 : decode cX8_told 69 = .ok (.invokevirtual 108, 3) := by decide +kernel
theorem dX8_told_72 : decode cX8_told 72 = .ok (.ireturn, 1) := by decide +kernel
theorem dX8_told_73 : decode cX8_told 73 = .ok (.aload_n 0, 1) := by decide +kernel
theorem dX8_told_74 : decode cX8_told 74 = .ok (.iload_n 1, 1) := by decide +kernel
theorem dX8_told_75 : decode cX8_told 75 = .ok (.invokevirtual 111, 3) := by decide +kernel
theorem dX8_told_78 : decode cX8_told 78 = .ok (.ireturn, 1) := by decide +kernel
theorem dX8_told_79 : decode cX8_told 79 = .ok (.aload_n 0, 1) := by decide +kernel
theorem dX8_told_80 : decode cX8_told 80 = .ok (.iload_n 1, 1) := by decide +kernel
theorem dX8_told_81 : decode cX8_told 81 = .ok (.invokevirtual 114, 3) := by decide +kernel
theorem dX8_told_84 : decode cX8_told 84 = .ok (.ireturn, 1) := by decide +kernel
theorem dX8_told_85 : decode cX8_told 85 = .ok (.ldc 84, 2) := by decide +kernel
theorem dX8_told_87 : decode cX8_told 87 = .ok (.ireturn, 1) := by decide +kernel
theorem dX8_isOf_0 : decode cX8_isOf 0 = .ok (.iload_n 0, 1) := by decide +kernel
theorem dX8_isOf_1 : decode cX8_isOf 1 = .ok (.iload_n 1, 1) := by decide +kernel
theorem dX8_isOf_2 : decode cX8_isOf 2 = .ok (.if_icmp .eq 27, 3) := by decide +kernel
theorem dX8_isOf_5 : decode cX8_isOf 5 = .ok (.iload_n 1, 1) := by decide +kernel
theorem dX8_isOf_6 : decode cX8_isOf 6 = .ok (.ifCond .eq 23, 3) := by decide +kernel
theorem dX8_isOf_9 : decode cX8_isOf 9 = .ok (.iload_n 1, 1) := by decide +kernel
theorem dX8_isOf_10 : decode cX8_isOf 10 = .ok (.iconst 1, 1) := by decide +kernel
theorem dX8_isOf_11 : decode cX8_isOf 11 = .ok (.if_icmp .ne 8, 3) := by decide +kernel
theorem dX8_isOf_14 : decode cX8_isOf 14 = .ok (.iload_n 0, 1) := by decide +kernel
theorem dX8_isOf_15 : decode cX8_isOf 15 = .ok (.iconst 3, 1) := by decide +kernel
theorem dX8_isOf_16 : decode cX8_isOf 16 = .ok (.if_icmp .eq 13, 3) := by decide +kernel
theorem dX8_isOf_19 : decode cX8_isOf 19 = .ok (.iload_n 1, 1) := by decide +kernel
theorem dX8_isOf_20 : decode cX8_isOf 20 = .ok (.iconst 2, 1) := by decide +kernel
theorem dX8_isOf_21 : decode cX8_isOf 21 = .ok (.if_icmp .ne 12, 3) := by decide +kernel
theorem dX8_isOf_24 : decode cX8_isOf 24 = .ok (.iload_n 0, 1) := by decide +kernel
theorem dX8_isOf_25 : decode cX8_isOf 25 = .ok (.iconst 4, 1) := by decide +kernel
theorem dX8_isOf_26 : decode cX8_isOf 26 = .ok (.if_icmp .ne 7, 3) := by decide +kernel
theorem dX8_isOf_29 : decode cX8_isOf 29 = .ok (.iconst 1, 1) := by decide +kernel
theorem dX8_isOf_30 : decode cX8_isOf 30 = .ok (.goto 4, 3) := by decide +kernel
theorem dX8_isOf_33 : decode cX8_isOf 33 = .ok (.iconst 0, 1) := by decide +kernel
theorem dX8_isOf_34 : decode cX8_isOf 34 = .ok (.ireturn, 1) := by decide +kernel
theorem dX8_as_0 : decode cX8_as 0 = .ok (.aload_n 0, 1) := by decide +kernel
theorem dX8_as_1 : decode cX8_as 1 = .ok (.iload_n 1, 1) := by decide +kernel
theorem dX8_as_2 : decode cX8_as 2 = .ok (.invokevirtual 104, 3) := by decide +kernel
theorem dX8_as_5 : decode cX8_as 5 = .ok (.ifCond .eq 15, 3) := by decide +kernel
theorem dX8_as_8 : decode cX8_as 8 = .ok (.iload_n 2, 1) := by decide +kernel
theorem dX8_as_9 : decode cX8_as 9 = .ok (.i2l, 1) := by decide +kernel
theorem dX8_as_10 : decode cX8_as 10 = .ok (.lconst 0, 1) := by decide +kernel
theorem dX8_as_11 : decode cX8_as 11 = .ok (.ldc2_w 76, 3) := by decide +kernel
theorem dX8_as_14 : decode cX8_as 14 = .ok (.invokestatic 65, 3) := by decide +kernel
theorem dX8_as_17 : decode cX8_as 17 = .ok (.ifCond .ne 6, 3) := by decide +kernel
theorem dX8_as_20 : decode cX8_as 20 = .ok (.ldc 84, 2) := by decide +kernel
theorem dX8_as_22 : decode cX8_as 22 = .ok (.ireturn, 1) := by decide +kernel
theorem dX8_as_23 : decode cX8_as 23 = .ok (.aload_n 0, 1) := by decide +kernel
theorem dX8_as_24 : decode cX8_as 24 = .ok (.iload_n 1, 1) := by decide +kernel
theorem dX8_as_25 : decode cX8_as 25 = .ok (.iconst 0, 1) := by decide +kernel
theorem dX8_as_26 : decode cX8_as 26 = .ok (.invokevirtual 90, 3) := by decide +kernel
theorem dX8_as_29 : decode cX8_as 29 = .ok (.iload_n 2, 1) := by decide +kernel
theorem dX8_as_30 : decode cX8_as 30 = .ok (.invokestatic 117, 3) := by decide +kernel
theorem dX8_as_33 : decode cX8_as 33 = .ok (.ifCond .eq 12, 3) := by decide +kernel
theorem dX8_as_36 : decode cX8_as 36 = .ok (.aload_n 0, 1) := by decide +kernel
theorem dX8_as_37 : decode cX8_as 37 = .ok (.iload_n 1, 1) := by decide +kernel
theorem dX8_as_38 : decode cX8_as 38 = .ok (.iconst 4, 1) := by decide +kernel
theorem dX8_as_39 : decode cX8_as 39 = .ok (.invokevirtual 90, 3) := by decide +kernel
theorem dX8_as_42 : decode cX8_as 42 = .ok (.goto 5, 3) := by decide +kernel
theorem dX8_as_45 : decode cX8_as 45 = .ok (.ldc 121, 2) := by decide +kernel
theorem dX8_as_47 : decode cX8_as 47 = .ok (.ireturn, 1) := by decide +kernel
theorem dX8_turns_0 : decode cX8_turns 0 = .ok (.aload_n 0, 1) := by decide +kernel
theorem dX8_turns_1 : decode cX8_turns 1 = .ok (.iload_n 1, 1) := by decide +kernel
theorem dX8_turns_2 : decode cX8_turns 2 = .ok (.invokevirtual 104, 3) := by decide +kernel
theorem dX8_turns_5 : decode cX8_turns 5 = .ok (.ifCond .eq 30, 3) := by decide +kernel
theorem dX8_turns_8 : decode cX8_turns 8 = .ok (.iload_n 2, 1) := by decide +kernel
theorem dX8_turns_9 : decode cX8_turns 9 = .ok (.i2l, 1) := by decide +kernel
theorem dX8_turns_10 : decode cX8_turns 10 = .ok (.lconst 0, 1) := by decide +kernel
theorem dX8_turns_11 : decode cX8_turns 11 = .ok (.ldc2_w 76, 3) := by decide +kernel
theorem dX8_turns_14 : decode cX8_turns 14 = .ok (.invokestatic 65, 3) := by decide +kernel
theorem dX8_turns_17 : decode cX8_turns 17 = .ok (.ifCond .eq 18, 3) := by decide +kernel
theorem dX8_turns_20 : decode cX8_turns 20 = .ok (.aload_n 0, 1) := by decide +kernel
theorem dX8_turns_21 : decode cX8_turns 21 = .ok (.sipush 131, 3) := by decide +kernel
theorem dX8_turns_24 : decode cX8_turns 24 = .ok (.iconst 5, 1) := by decide +kernel
theorem dX8_turns_25 : decode cX8_turns 25 = .ok (.iload_n 1, 1) := by decide +kernel
theorem dX8_turns_26 : decode cX8_turns 26 = .ok (.imul, 1) := by decide +kernel
theorem dX8_turns_27 : decode cX8_turns 27 = .ok (.iadd, 1) := by decide +kernel
theorem dX8_turns_28 : decode cX8_turns 28 = .ok (.iload_n 2, 1) := by decide +kernel
theorem dX8_turns_29 : decode cX8_turns 29 = .ok (.invokevirtual 122, 3) := by decide +kernel
theorem dX8_turns_32 : decode cX8_turns 32 = .ok (.goto 5, 3) := by decide +kernel
theorem dX8_turns_35 : decode cX8_turns 35 = .ok (.ldc 84, 2) := by decide +kernel
theorem dX8_turns_37 : decode cX8_turns 37 = .ok (.ireturn, 1) := by decide +kernel
theorem dX8_mostOf_0 : decode cX8_mostOf 0 = .ok (.iload_n 0, 1) := by decide +kernel
theorem dX8_mostOf_1 : decode cX8_mostOf 1 = .ok (.tableswitch 37 1 3 #[27, 30, 33], 27) := by decide +kernel
theorem dX8_mostOf_28 : decode cX8_mostOf 28 = .ok (.bipush 9, 2) := by decide +kernel
theorem dX8_mostOf_30 : decode cX8_mostOf 30 = .ok (.ireturn, 1) := by decide +kernel
theorem dX8_mostOf_31 : decode cX8_mostOf 31 = .ok (.bipush 59, 2) := by decide +kernel
theorem dX8_mostOf_33 : decode cX8_mostOf 33 = .ok (.ireturn, 1) := by decide +kernel
theorem dX8_mostOf_34 : decode cX8_mostOf 34 = .ok (.sipush 9999, 3) := by decide +kernel
theorem dX8_mostOf_37 : decode cX8_mostOf 37 = .ok (.ireturn, 1) := by decide +kernel
theorem dX8_mostOf_38 : decode cX8_mostOf 38 = .ok (.bipush 50, 2) := by decide +kernel
theorem dX8_mostOf_40 : decode cX8_mostOf 40 = .ok (.ireturn, 1) := by decide +kernel
theorem dX8_set_0 : decode cX8_set 0 = .ok (.aload_n 0, 1) := by decide +kernel
theorem dX8_set_1 : decode cX8_set 1 = .ok (.iload_n 1, 1) := by decide +kernel
theorem dX8_set_2 : decode cX8_set 2 = .ok (.invokevirtual 104, 3) := by decide +kernel
theorem dX8_set_5 : decode cX8_set 5 = .ok (.ifCond .eq 29, 3) := by decide +kernel
theorem dX8_set_8 : decode cX8_set 8 = .ok (.iload_n 2, 1) := by decide +kernel
theorem dX8_set_9 : decode cX8_set 9 = .ok (.i2l, 1) := by decide +kernel
theorem dX8_set_10 : decode cX8_set 10 = .ok (.lconst 1, 1) := by decide +kernel
theorem dX8_set_11 : decode cX8_set 11 = .ok (.ldc2_w 125, 3) := by decide +kernel
theorem dX8_set_14 : decode cX8_set 14 = .ok (.invokestatic 65, 3) := by decide +kernel
theorem dX8_set_17 : decode cX8_set 17 = .ok (.ifCond .eq 17, 3) := by decide +kernel
theorem dX8_set_20 : decode cX8_set 20 = .ok (.iload_n 3, 1) := by decide +kernel
theorem dX8_set_21 : decode cX8_set 21 = .ok (.i2l, 1) := by decide +kernel
theorem dX8_set_22 : decode cX8_set 22 = .ok (.lconst 0, 1) := by decide +kernel
theorem dX8_set_23 : decode cX8_set 23 = .ok (.iload_n 2, 1) := by decide +kernel
theorem dX8_set_24 : decode cX8_set 24 = .ok (.invokestatic 127, 3) := by decide +kernel
theorem dX8_set_27 : decode cX8_set 27 = .ok (.i2l, 1) := by decide +kernel
theorem dX8_set_28 : decode cX8_set 28 = .ok (.invokestatic 65, 3) := by decide +kernel
theorem dX8_set_31 : decode cX8_set 31 = .ok (.ifCond .ne 6, 3) := by decide +kernel
theorem dX8_set_34 : decode cX8_set 34 = .ok (.ldc 84, 2) := by decide +kernel
theorem dX8_set_36 : decode cX8_set 36 = .ok (.ireturn, 1) := by decide +kernel
theorem dX8_set_37 : decode cX8_set 37 = .ok (.aload_n 0, 1) := by decide +kernel
theorem dX8_set_38 : decode cX8_set 38 = .ok (.sipush 131, 3) := by decide +kernel
theorem dX8_set_41 : decode cX8_set 41 = .ok (.iconst 5, 1) := by decide +kernel
theorem dX8_set_42 : decode cX8_set 42 = .ok (.iload_n 1, 1) := by decide +kernel
theorem dX8_set_43 : decode cX8_set 43 = .ok (.imul, 1) := by decide +kernel
theorem dX8_set_44 : decode cX8_set 44 = .ok (.iadd, 1) := by decide +kernel
theorem dX8_set_45 : decode cX8_set 45 = .ok (.iload_n 2, 1) := by decide +kernel
theorem dX8_set_46 : decode cX8_set 46 = .ok (.iadd, 1) := by decide +kernel
theorem dX8_set_47 : decode cX8_set 47 = .ok (.iload_n 3, 1) := by decide +kernel
theorem dX8_set_48 : decode cX8_set 48 = .ok (.invokevirtual 122, 3) := by decide +kernel
theorem dX8_set_51 : decode cX8_set 51 = .ok (.ireturn, 1) := by decide +kernel
theorem dX8_rule_0 : decode cX8_rule 0 = .ok (.iload_n 1, 1) := by decide +kernel
theorem dX8_rule_1 : decode cX8_rule 1 = .ok (.ifCond .ne 15, 3) := by decide +kernel
theorem dX8_rule_4 : decode cX8_rule 4 = .ok (.iload_n 2, 1) := by decide +kernel
theorem dX8_rule_5 : decode cX8_rule 5 = .ok (.i2l, 1) := by decide +kernel
theorem dX8_rule_6 : decode cX8_rule 6 = .ok (.lconst 0, 1) := by decide +kernel
theorem dX8_rule_7 : decode cX8_rule 7 = .ok (.ldc2_w 130, 3) := by decide +kernel
theorem dX8_rule_10 : decode cX8_rule 10 = .ok (.invokestatic 65, 3) := by decide +kernel
theorem dX8_rule_13 : decode cX8_rule 13 = .ok (.ifCond .ne 56, 3) := by decide +kernel
theorem dX8_rule_16 : decode cX8_rule 16 = .ok (.iload_n 1, 1) := by decide +kernel
theorem dX8_rule_17 : decode cX8_rule 17 = .ok (.iconst 1, 1) := by decide +kernel
theorem dX8_rule_18 : decode cX8_rule 18 = .ok (.if_icmp .ne 15, 3) := by decide +kernel
theorem dX8_rule_21 : decode cX8_rule 21 = .ok (.iload_n 2, 1) := by decide +kernel
theorem dX8_rule_22 : decode cX8_rule 22 = .ok (.i2l, 1) := by decide +kernel
theorem dX8_rule_23 : decode cX8_rule 23 = .ok (.lconst 0, 1) := by decide +kernel
theorem dX8_rule_24 : decode cX8_rule 24 = .ok (.ldc2_w 132, 3) := by decide +kernel
theorem dX8_rule_27 : decode cX8_rule 27 = .ok (.invokestatic 65, 3) := by decide +kernel
theorem dX8_rule_30 : decode cX8_rule 30 = .ok (.ifCond .ne 39, 3) := by decide +kernel
theorem dX8_rule_33 : decode cX8_rule 33 = .ok (.iload_n 1, 1) := by decide +kernel
theorem dX8_rule_34 : decode cX8_rule 34 = .ok (.iconst 2, 1) := by decide +kernel
theorem dX8_rule_35 : decode cX8_rule 35 = .ok (.if_icmp .ne 17, 3) := by decide +kernel
theorem dX8_rule_38 : decode cX8_rule 38 = .ok (.iload_n 2, 1) := by decide +kernel
theorem dX8_rule_39 : decode cX8_rule 39 = .ok (.i2l, 1) := by decide +kernel
theorem dX8_rule_40 : decode cX8_rule 40 = .ok (.ldc2_w 134, 3) := by decide +kernel
theorem dX8_rule_43 : decode cX8_rule 43 = .ok (.ldc2_w 136, 3) := by decide +kernel
theorem dX8_rule_46 : decode cX8_rule 46 = .ok (.invokestatic 65, 3) := by decide +kernel
theorem dX8_rule_49 : decode cX8_rule 49 = .ok (.ifCond .ne 20, 3) := by decide +kernel
theorem dX8_rule_52 : decode cX8_rule 52 = .ok (.iload_n 1, 1) := by decide +kernel
theorem dX8_rule_53 : decode cX8_rule 53 = .ok (.iconst 3, 1) := by decide +kernel
theorem dX8_rule_54 : decode cX8_rule 54 = .ok (.if_icmp .ne 19, 3) := by decide +kernel
theorem dX8_rule_57 : decode cX8_rule 57 = .ok (.iload_n 2, 1) := by decide +kernel
theorem dX8_rule_58 : decode cX8_rule 58 = .ok (.i2l, 1) := by decide +kernel
theorem dX8_rule_59 : decode cX8_rule 59 = .ok (.lconst 0, 1) := by decide +kernel
theorem dX8_rule_60 : decode cX8_rule 60 = .ok (.ldc2_w 78, 3) := by decide +kernel
theorem dX8_rule_63 : decode cX8_rule 63 = .ok (.invokestatic 65, 3) := by decide +kernel
theorem dX8_rule_66 : decode cX8_rule 66 = .ok (.ifCond .eq 7, 3) := by decide +kernel
theorem dX8_rule_69 : decode cX8_rule 69 = .ok (.iconst 1, 1) := by decide +kernel
theorem dX8_rule_70 : decode cX8_rule 70 = .ok (.goto 4, 3) := by decide +kernel
theorem dX8_rule_73 : decode cX8_rule 73 = .ok (.iconst 0, 1) := by decide +kernel
theorem dX8_rule_74 : decode cX8_rule 74 = .ok (.istore_n 3, 1) := by decide +kernel
theorem dX8_rule_75 : decode cX8_rule 75 = .ok (.iload_n 3, 1) := by decide +kernel
theorem dX8_rule_76 : decode cX8_rule 76 = .ok (.ifCond .eq 15, 3) := by decide +kernel
theorem dX8_rule_79 : decode cX8_rule 79 = .ok (.aload_n 0, 1) := by decide +kernel
theorem dX8_rule_80 : decode cX8_rule 80 = .ok (.bipush 7, 2) := by decide +kernel
theorem dX8_rule_82 : decode cX8_rule 82 = .ok (.iload_n 1, 1) := by decide +kernel
theorem dX8_rule_83 : decode cX8_rule 83 = .ok (.iadd, 1) := by decide +kernel
theorem dX8_rule_84 : decode cX8_rule 84 = .ok (.iload_n 2, 1) := by decide +kernel
theorem dX8_rule_85 : decode cX8_rule 85 = .ok (.invokevirtual 122, 3) := by decide +kernel
theorem dX8_rule_88 : decode cX8_rule 88 = .ok (.goto 5, 3) := by decide +kernel
theorem dX8_rule_91 : decode cX8_rule 91 = .ok (.ldc 84, 2) := by decide +kernel
theorem dX8_rule_93 : decode cX8_rule 93 = .ok (.ireturn, 1) := by decide +kernel
theorem dX8_yard_0 : decode cX8_yard 0 = .ok (.iload_n 1, 1) := by decide +kernel
theorem dX8_yard_1 : decode cX8_yard 1 = .ok (.invokestatic 138, 3) := by decide +kernel
theorem dX8_yard_4 : decode cX8_yard 4 = .ok (.ifCond .eq 13, 3) := by decide +kernel
theorem dX8_yard_7 : decode cX8_yard 7 = .ok (.iload_n 2, 1) := by decide +kernel
theorem dX8_yard_8 : decode cX8_yard 8 = .ok (.i2l, 1) := by decide +kernel
theorem dX8_yard_9 : decode cX8_yard 9 = .ok (.lconst 0, 1) := by decide +kernel
theorem dX8_yard_10 : decode cX8_yard 10 = .ok (.lconst 1, 1) := by decide +kernel
theorem dX8_yard_11 : decode cX8_yard 11 = .ok (.invokestatic 65, 3) := by decide +kernel
theorem dX8_yard_14 : decode cX8_yard 14 = .ok (.ifCond .ne 6, 3) := by decide +kernel
theorem dX8_yard_17 : decode cX8_yard 17 = .ok (.ldc 84, 2) := by decide +kernel
theorem dX8_yard_19 : decode cX8_yard 19 = .ok (.ireturn, 1) := by decide +kernel
theorem dX8_yard_20 : decode cX8_yard 20 = .ok (.aload_n 0, 1) := by decide +kernel
theorem dX8_yard_21 : decode cX8_yard 21 = .ok (.getfield 7, 3) := by decide +kernel
theorem dX8_yard_24 : decode cX8_yard 24 = .ok (.iload_n 2, 1) := by decide +kernel
theorem dX8_yard_25 : decode cX8_yard 25 = .ok (.ifCond .ne 8, 3) := by decide +kernel
theorem dX8_yard_28 : decode cX8_yard 28 = .ok (.bipush 11, 2) := by decide +kernel
theorem dX8_yard_30 : decode cX8_yard 30 = .ok (.goto 5, 3) := by decide +kernel
theorem dX8_yard_33 : decode cX8_yard 33 = .ok (.bipush 71, 2) := by decide +kernel
theorem dX8_yard_35 : decode cX8_yard 35 = .ok (.iload_n 1, 1) := by decide +kernel
theorem dX8_yard_36 : decode cX8_yard 36 = .ok (.iadd, 1) := by decide +kernel
theorem dX8_yard_37 : decode cX8_yard 37 = .ok (.iaload, 1) := by decide +kernel
theorem dX8_yard_38 : decode cX8_yard 38 = .ok (.ireturn, 1) := by decide +kernel
theorem dX8_sweep_0 : decode cX8_sweep 0 = .ok (.iload_n 1, 1) := by decide +kernel
theorem dX8_sweep_1 : decode cX8_sweep 1 = .ok (.invokestatic 138, 3) := by decide +kernel
theorem dX8_sweep_4 : decode cX8_sweep 4 = .ok (.ifCond .eq 15, 3) := by decide +kernel
theorem dX8_sweep_7 : decode cX8_sweep 7 = .ok (.aload_n 0, 1) := by decide +kernel
theorem dX8_sweep_8 : decode cX8_sweep 8 = .ok (.bipush 11, 2) := by decide +kernel
theorem dX8_sweep_10 : decode cX8_sweep 10 = .ok (.iload_n 1, 1) := by decide +kernel
theorem dX8_sweep_11 : decode cX8_sweep 11 = .ok (.iadd, 1) := by decide +kernel
theorem dX8_sweep_12 : decode cX8_sweep 12 = .ok (.iconst 0, 1) := by decide +kernel
theorem dX8_sweep_13 : decode cX8_sweep 13 = .ok (.invokevirtual 122, 3) := by decide +kernel
theorem dX8_sweep_16 : decode cX8_sweep 16 = .ok (.goto 5, 3) := by decide +kernel
theorem dX8_sweep_19 : decode cX8_sweep 19 = .ok (.ldc 84, 2) := by decide +kernel
theorem dX8_sweep_21 : decode cX8_sweep 21 = .ok (.ireturn, 1) := by decide +kernel
theorem dX8_rain_0 : decode cX8_rain 0 = .ok (.iconst 0, 1) := by decide +kernel
theorem dX8_rain_1 : decode cX8_rain 1 = .ok (.istore_n 1, 1) := by decide +kernel
theorem dX8_rain_2 : decode cX8_rain 2 = .ok (.iconst 0, 1) := by decide +kernel
theorem dX8_rain_3 : decode cX8_rain 3 = .ok (.istore_n 2, 1) := by decide +kernel
theorem dX8_rain_4 : decode cX8_rain 4 = .ok (.iload_n 2, 1) := by decide +kernel
theorem dX8_rain_5 : decode cX8_rain 5 = .ok (.bipush 60, 2) := by decide +kernel
theorem dX8_rain_7 : decode cX8_rain 7 = .ok (.if_icmp .ge 52, 3) := by decide +kernel
theorem dX8_rain_10 : decode cX8_rain 10 = .ok (.aload_n 0, 1) := by decide +kernel
theorem dX8_rain_11 : decode cX8_rain 11 = .ok (.getfield 7, 3) := by decide +kernel
theorem dX8_rain_14 : decode cX8_rain 14 = .ok (.bipush 11, 2) := by decide +kernel
theorem dX8_rain_16 : decode cX8_rain 16 = .ok (.iload_n 2, 1) := by decide +kernel
theorem dX8_rain_17 : decode cX8_rain 17 = .ok (.iadd, 1) := by decide +kernel
theorem dX8_rain_18 : decode cX8_rain 18 = .ok (.iaload, 1) := by decide +kernel
theorem dX8_rain_19 : decode cX8_rain 19 = .ok (.bipush 10, 2) := by decide +kernel
theorem dX8_rain_21 : decode cX8_rain 21 = .ok (.idiv, 1) := by decide +kernel
theorem dX8_rain_22 : decode cX8_rain 22 = .ok (.istore_n 3, 1) := by decide +kernel
theorem dX8_rain_23 : decode cX8_rain 23 = .ok (.aload_n 0, 1) := by decide +kernel
theorem dX8_rain_24 : decode cX8_rain 24 = .ok (.getfield 7, 3) := by decide +kernel
theorem dX8_rain_27 : decode cX8_rain 27 = .ok (.bipush 11, 2) := by decide +kernel
theorem dX8_rain_29 : decode cX8_rain 29 = .ok (.iload_n 2, 1) := by decide +kernel
theorem dX8_rain_30 : decode cX8_rain 30 = .ok (.iadd, 1) := by decide +kernel
theorem dX8_rain_31 : decode cX8_rain 31 = .ok (.dup2, 1) := by decide +kernel
theorem dX8_rain_32 : decode cX8_rain 32 = .ok (.iaload, 1) := by decide +kernel
theorem dX8_rain_33 : decode cX8_rain 33 = .ok (.iload_n 3, 1) := by decide +kernel
theorem dX8_rain_34 : decode cX8_rain 34 = .ok (.isub, 1) := by decide +kernel
theorem dX8_rain_35 : decode cX8_rain 35 = .ok (.iastore, 1) := by decide +kernel
theorem dX8_rain_36 : decode cX8_rain 36 = .ok (.aload_n 0, 1) := by decide +kernel
theorem dX8_rain_37 : decode cX8_rain 37 = .ok (.getfield 7, 3) := by decide +kernel
theorem dX8_rain_40 : decode cX8_rain 40 = .ok (.bipush 71, 2) := by decide +kernel
theorem dX8_rain_42 : decode cX8_rain 42 = .ok (.iload_n 2, 1) := by decide +kernel
theorem dX8_rain_43 : decode cX8_rain 43 = .ok (.iadd, 1) := by decide +kernel
theorem dX8_rain_44 : decode cX8_rain 44 = .ok (.dup2, 1) := by decide +kernel
theorem dX8_rain_45 : decode cX8_rain 45 = .ok (.iaload, 1) := by decide +kernel
theorem dX8_rain_46 : decode cX8_rain 46 = .ok (.iload_n 3, 1) := by decide +kernel
theorem dX8_rain_47 : decode cX8_rain 47 = .ok (.iadd, 1) := by decide +kernel
theorem dX8_rain_48 : decode cX8_rain 48 = .ok (.iastore, 1) := by decide +kernel
theorem dX8_rain_49 : decode cX8_rain 49 = .ok (.iload_n 1, 1) := by decide +kernel
theorem dX8_rain_50 : decode cX8_rain 50 = .ok (.iload_n 3, 1) := by decide +kernel
theorem dX8_rain_51 : decode cX8_rain 51 = .ok (.iadd, 1) := by decide +kernel
theorem dX8_rain_52 : decode cX8_rain 52 = .ok (.istore_n 1, 1) := by decide +kernel
theorem dX8_rain_53 : decode cX8_rain 53 = .ok (.iinc 2 1, 3) := by decide +kernel
theorem dX8_rain_56 : decode cX8_rain 56 = .ok (.goto (-52), 3) := by decide +kernel
theorem dX8_rain_59 : decode cX8_rain 59 = .ok (.iload_n 1, 1) := by decide +kernel
theorem dX8_rain_60 : decode cX8_rain 60 = .ok (.ireturn, 1) := by decide +kernel
theorem dX8_deal_0 : decode cX8_deal 0 = .ok (.iload_n 1, 1) := by decide +kernel
theorem dX8_deal_1 : decode cX8_deal 1 = .ok (.i2l, 1) := by decide +kernel
theorem dX8_deal_2 : decode cX8_deal 2 = .ok (.lconst 1, 1) := by decide +kernel
theorem dX8_deal_3 : decode cX8_deal 3 = .ok (.ldc2_w 141, 3) := by decide +kernel
theorem dX8_deal_6 : decode cX8_deal 6 = .ok (.invokestatic 65, 3) := by decide +kernel
theorem dX8_deal_9 : decode cX8_deal 9 = .ok (.ifCond .ne 6, 3) := by decide +kernel
theorem dX8_deal_12 : decode cX8_deal 12 = .ok (.ldc 84, 2) := by decide +kernel
theorem dX8_deal_14 : decode cX8_deal 14 = .ok (.ireturn, 1) := by decide +kernel
theorem dX8_deal_15 : decode cX8_deal 15 = .ok (.iconst 0, 1) := by decide +kernel
theorem dX8_deal_16 : decode cX8_deal 16 = .ok (.istore_n 2, 1) := by decide +kernel
theorem dX8_deal_17 : decode cX8_deal 17 = .ok (.iload_n 2, 1) := by decide +kernel
theorem dX8_deal_18 : decode cX8_deal 18 = .ok (.iload_n 1, 1) := by decide +kernel
theorem dX8_deal_19 : decode cX8_deal 19 = .ok (.if_icmp .ge 65, 3) := by decide +kernel
theorem dX8_deal_22 : decode cX8_deal 22 = .ok (.aload_n 0, 1) := by decide +kernel
theorem dX8_deal_23 : decode cX8_deal 23 = .ok (.getfield 7, 3) := by decide +kernel
theorem dX8_deal_26 : decode cX8_deal 26 = .ok (.iconst 0, 1) := by decide +kernel
theorem dX8_deal_27 : decode cX8_deal 27 = .ok (.iaload, 1) := by decide +kernel
theorem dX8_deal_28 : decode cX8_deal 28 = .ok (.bipush 8, 2) := by decide +kernel
theorem dX8_deal_30 : decode cX8_deal 30 = .ok (.if_icmp .ge 54, 3) := by decide +kernel
theorem dX8_deal_33 : decode cX8_deal 33 = .ok (.aload_n 0, 1) := by decide +kernel
theorem dX8_deal_34 : decode cX8_deal 34 = .ok (.invokevirtual 143, 3) := by decide +kernel
theorem dX8_deal_37 : decode cX8_deal 37 = .ok (.bipush 6, 2) := by decide +kernel
theorem dX8_deal_39 : decode cX8_deal 39 = .ok (.irem, 1) := by decide +kernel
theorem dX8_deal_40 : decode cX8_deal 40 = .ok (.istore_n 3, 1) := by decide +kernel
theorem dX8_deal_41 : decode cX8_deal 41 = .ok (.iconst 1, 1) := by decide +kernel
theorem dX8_deal_42 : decode cX8_deal 42 = .ok (.aload_n 0, 1) := by decide +kernel
theorem dX8_deal_43 : decode cX8_deal 43 = .ok (.invokevirtual 143, 3) := by decide +kernel
theorem dX8_deal_46 : decode cX8_deal 46 = .ok (.bipush 9, 2) := by decide +kernel
theorem dX8_deal_48 : decode cX8_deal 48 = .ok (.irem, 1) := by decide +kernel
theorem dX8_deal_49 : decode cX8_deal 49 = .ok (.iadd, 1) := by decide +kernel
theorem dX8_deal_50 : decode cX8_deal 50 = .ok (.istore 4, 2) := by decide +kernel
theorem dX8_deal_52 : decode cX8_deal 52 = .ok (.aload_n 0, 1) := by decide +kernel
theorem dX8_deal_53 : decode cX8_deal 53 = .ok (.invokevirtual 143, 3) := by decide +kernel
theorem dX8_deal_56 : decode cX8_deal 56 = .ok (.sipush 1000, 3) := by decide +kernel
theorem dX8_deal_59 : decode cX8_deal 59 = .ok (.irem, 1) := by decide +kernel
theorem dX8_deal_60 : decode cX8_deal 60 = .ok (.istore 5, 2) := by decide +kernel
theorem dX8_deal_62 : decode cX8_deal 62 = .ok (.aload_n 0, 1) := by decide +kernel
theorem dX8_deal_63 : decode cX8_deal 63 = .ok (.iload_n 3, 1) := by decide +kernel
theorem dX8_deal_64 : decode cX8_deal 64 = .ok (.iload 4, 2) := by decide +kernel
theorem dX8_deal_66 : decode cX8_deal 66 = .ok (.iload 5, 2) := by decide +kernel
theorem dX8_deal_68 : decode cX8_deal 68 = .ok (.aload_n 0, 1) := by decide +kernel
theorem dX8_deal_69 : decode cX8_deal 69 = .ok (.invokevirtual 143, 3) := by decide +kernel
theorem dX8_deal_72 : decode cX8_deal 72 = .ok (.bipush 30, 2) := by decide +kernel
theorem dX8_deal_74 : decode cX8_deal 74 = .ok (.irem, 1) := by decide +kernel
theorem dX8_deal_75 : decode cX8_deal 75 = .ok (.invokevirtual 86, 3) := by decide +kernel
theorem dX8_deal_78 : decode cX8_deal 78 = .ok (.iinc 2 1, 3) := by decide +kernel
theorem dX8_deal_81 : decode cX8_deal 81 = .ok (.goto (-64), 3) := by decide +kernel
theorem dX8_deal_84 : decode cX8_deal 84 = .ok (.iload_n 2, 1) := by decide +kernel
theorem dX8_deal_85 : decode cX8_deal 85 = .ok (.ireturn, 1) := by decide +kernel
theorem dX8_seed_0 : decode cX8_seed 0 = .ok (.aload_n 0, 1) := by decide +kernel
theorem dX8_seed_1 : decode cX8_seed 1 = .ok (.bipush 6, 2) := by decide +kernel
theorem dX8_seed_3 : decode cX8_seed 3 = .ok (.iload_n 1, 1) := by decide +kernel
theorem dX8_seed_4 : decode cX8_seed 4 = .ok (.invokevirtual 122, 3) := by decide +kernel
theorem dX8_seed_7 : decode cX8_seed 7 = .ok (.ireturn, 1) := by decide +kernel
theorem dX8_walks_0 : decode cX8_walks 0 = .ok (.aload_n 0, 1) := by decide +kernel
theorem dX8_walks_1 : decode cX8_walks 1 = .ok (.iload_n 1, 1) := by decide +kernel
theorem dX8_walks_2 : decode cX8_walks 2 = .ok (.invokevirtual 108, 3) := by decide +kernel
theorem dX8_walks_5 : decode cX8_walks 5 = .ok (.istore_n 2, 1) := by decide +kernel
theorem dX8_walks_6 : decode cX8_walks 6 = .ok (.iload_n 2, 1) := by decide +kernel
theorem dX8_walks_7 : decode cX8_walks 7 = .ok (.aload_n 0, 1) := by decide +kernel
theorem dX8_walks_8 : decode cX8_walks 8 = .ok (.iload_n 1, 1) := by decide +kernel
theorem dX8_walks_9 : decode cX8_walks 9 = .ok (.iconst 3, 1) := by decide +kernel
theorem dX8_walks_10 : decode cX8_walks 10 = .ok (.invokevirtual 90, 3) := by decide +kernel
theorem dX8_walks_13 : decode cX8_walks 13 = .ok (.if_icmp .ge 7, 3) := by decide +kernel
theorem dX8_walks_16 : decode cX8_walks 16 = .ok (.iload_n 2, 1) := by decide +kernel
theorem dX8_walks_17 : decode cX8_walks 17 = .ok (.goto 9, 3) := by decide +kernel
theorem dX8_walks_20 : decode cX8_walks 20 = .ok (.aload_n 0, 1) := by decide +kernel
theorem dX8_walks_21 : decode cX8_walks 21 = .ok (.iload_n 1, 1) := by decide +kernel
theorem dX8_walks_22 : decode cX8_walks 22 = .ok (.iconst 3, 1) := by decide +kernel
theorem dX8_walks_23 : decode cX8_walks 23 = .ok (.invokevirtual 90, 3) := by decide +kernel
theorem dX8_walks_26 : decode cX8_walks 26 = .ok (.istore_n 3, 1) := by decide +kernel
theorem dX8_walks_27 : decode cX8_walks 27 = .ok (.bipush 59, 2) := by decide +kernel
theorem dX8_walks_29 : decode cX8_walks 29 = .ok (.aload_n 0, 1) := by decide +kernel
theorem dX8_walks_30 : decode cX8_walks 30 = .ok (.iload_n 1, 1) := by decide +kernel
theorem dX8_walks_31 : decode cX8_walks 31 = .ok (.iconst 2, 1) := by decide +kernel
theorem dX8_walks_32 : decode cX8_walks 32 = .ok (.invokevirtual 90, 3) := by decide +kernel
theorem dX8_walks_35 : decode cX8_walks 35 = .ok (.isub, 1) := by decide +kernel
theorem dX8_walks_36 : decode cX8_walks 36 = .ok (.istore 4, 2) := by decide +kernel
theorem dX8_walks_38 : decode cX8_walks 38 = .ok (.aload_n 0, 1) := by decide +kernel
theorem dX8_walks_39 : decode cX8_walks 39 = .ok (.iload_n 1, 1) := by decide +kernel
theorem dX8_walks_40 : decode cX8_walks 40 = .ok (.invokevirtual 111, 3) := by decide +kernel
theorem dX8_walks_43 : decode cX8_walks 43 = .ok (.iload 4, 2) := by decide +kernel
theorem dX8_walks_45 : decode cX8_walks 45 = .ok (.if_icmp .ge 11, 3) := by decide +kernel
theorem dX8_walks_48 : decode cX8_walks 48 = .ok (.aload_n 0, 1) := by decide +kernel
theorem dX8_walks_49 : decode cX8_walks 49 = .ok (.iload_n 1, 1) := by decide +kernel
theorem dX8_walks_50 : decode cX8_walks 50 = .ok (.invokevirtual 111, 3) := by decide +kernel
theorem dX8_walks_53 : decode cX8_walks 53 = .ok (.goto 5, 3) := by decide +kernel
theorem dX8_walks_56 : decode cX8_walks 56 = .ok (.iload 4, 2) := by decide +kernel
theorem dX8_walks_58 : decode cX8_walks 58 = .ok (.istore 5, 2) := by decide +kernel
theorem dX8_walks_60 : decode cX8_walks 60 = .ok (.aload_n 0, 1) := by decide +kernel
theorem dX8_walks_61 : decode cX8_walks 61 = .ok (.iload_n 1, 1) := by decide +kernel
theorem dX8_walks_62 : decode cX8_walks 62 = .ok (.iconst 3, 1) := by decide +kernel
theorem dX8_walks_63 : decode cX8_walks 63 = .ok (.aload_n 0, 1) := by decide +kernel
theorem dX8_walks_64 : decode cX8_walks 64 = .ok (.iload_n 1, 1) := by decide +kernel
theorem dX8_walks_65 : decode cX8_walks 65 = .ok (.iconst 3, 1) := by decide +kernel
theorem dX8_walks_66 : decode cX8_walks 66 = .ok (.invokevirtual 90, 3) := by decide +kernel
theorem dX8_walks_69 : decode cX8_walks 69 = .ok (.iload_n 3, 1) := by decide +kernel
theorem dX8_walks_70 : decode cX8_walks 70 = .ok (.isub, 1) := by decide +kernel
theorem dX8_walks_71 : decode cX8_walks 71 = .ok (.invokevirtual 72, 3) := by decide +kernel
theorem dX8_walks_74 : decode cX8_walks 74 = .ok (.aload_n 0, 1) := by decide +kernel
theorem dX8_walks_75 : decode cX8_walks 75 = .ok (.getfield 7, 3) := by decide +kernel
theorem dX8_walks_78 : decode cX8_walks 78 = .ok (.iconst 3, 1) := by decide +kernel
theorem dX8_walks_79 : decode cX8_walks 79 = .ok (.dup2, 1) := by decide +kernel
theorem dX8_walks_80 : decode cX8_walks 80 = .ok (.iaload, 1) := by decide +kernel
theorem dX8_walks_81 : decode cX8_walks 81 = .ok (.iload_n 3, 1) := by decide +kernel
theorem dX8_walks_82 : decode cX8_walks 82 = .ok (.iadd, 1) := by decide +kernel
theorem dX8_walks_83 : decode cX8_walks 83 = .ok (.iastore, 1) := by decide +kernel
theorem dX8_walks_84 : decode cX8_walks 84 = .ok (.bipush 11, 2) := by decide +kernel
theorem dX8_walks_86 : decode cX8_walks 86 = .ok (.aload_n 0, 1) := by decide +kernel
theorem dX8_walks_87 : decode cX8_walks 87 = .ok (.iload_n 1, 1) := by decide +kernel
theorem dX8_walks_88 : decode cX8_walks 88 = .ok (.iconst 2, 1) := by decide +kernel
theorem dX8_walks_89 : decode cX8_walks 89 = .ok (.invokevirtual 90, 3) := by decide +kernel
theorem dX8_walks_92 : decode cX8_walks 92 = .ok (.iadd, 1) := by decide +kernel
theorem dX8_walks_93 : decode cX8_walks 93 = .ok (.istore 6, 2) := by decide +kernel
theorem dX8_walks_95 : decode cX8_walks 95 = .ok (.iconst 0, 1) := by decide +kernel
theorem dX8_walks_96 : decode cX8_walks 96 = .ok (.istore 7, 2) := by decide +kernel
theorem dX8_walks_98 : decode cX8_walks 98 = .ok (.iload 7, 2) := by decide +kernel
theorem dX8_walks_100 : decode cX8_walks 100 = .ok (.iload 5, 2) := by decide +kernel
theorem dX8_walks_102 : decode cX8_walks 102 = .ok (.if_icmp .ge 26, 3) := by decide +kernel
theorem dX8_walks_105 : decode cX8_walks 105 = .ok (.aload_n 0, 1) := by decide +kernel
theorem dX8_walks_106 : decode cX8_walks 106 = .ok (.getfield 7, 3) := by decide +kernel
theorem dX8_walks_109 : decode cX8_walks 109 = .ok (.iload 6, 2) := by decide +kernel
theorem dX8_walks_111 : decode cX8_walks 111 = .ok (.iload 7, 2) := by decide +kernel
theorem dX8_walks_113 : decode cX8_walks 113 = .ok (.iadd, 1) := by decide +kernel
theorem dX8_walks_114 : decode cX8_walks 114 = .ok (.dup2, 1) := by decide +kernel
theorem dX8_walks_115 : decode cX8_walks 115 = .ok (.iaload, 1) := by decide +kernel
theorem dX8_walks_116 : decode cX8_walks 116 = .ok (.iload_n 3, 1) := by decide +kernel
theorem dX8_walks_117 : decode cX8_walks 117 = .ok (.iload 5, 2) := by decide +kernel
theorem dX8_walks_119 : decode cX8_walks 119 = .ok (.idiv, 1) := by decide +kernel
theorem dX8_walks_120 : decode cX8_walks 120 = .ok (.iadd, 1) := by decide +kernel
theorem dX8_walks_121 : decode cX8_walks 121 = .ok (.iastore, 1) := by decide +kernel
theorem dX8_walks_122 : decode cX8_walks 122 = .ok (.iinc 7 1, 3) := by decide +kernel
theorem dX8_walks_125 : decode cX8_walks 125 = .ok (.goto (-27), 3) := by decide +kernel
theorem dX8_walks_128 : decode cX8_walks 128 = .ok (.aload_n 0, 1) := by decide +kernel
theorem dX8_walks_129 : decode cX8_walks 129 = .ok (.getfield 7, 3) := by decide +kernel
theorem dX8_walks_132 : decode cX8_walks 132 = .ok (.iload 6, 2) := by decide +kernel
theorem dX8_walks_134 : decode cX8_walks 134 = .ok (.dup2, 1) := by decide +kernel
theorem dX8_walks_135 : decode cX8_walks 135 = .ok (.iaload, 1) := by decide +kernel
theorem dX8_walks_136 : decode cX8_walks 136 = .ok (.iload 5, 2) := by decide +kernel
theorem dX8_walks_138 : decode cX8_walks 138 = .ok (.ifCond .ne 7, 3) := by decide +kernel
theorem dX8_walks_141 : decode cX8_walks 141 = .ok (.iload_n 3, 1) := by decide +kernel
theorem dX8_walks_142 : decode cX8_walks 142 = .ok (.goto 7, 3) := by decide +kernel
theorem dX8_walks_145 : decode cX8_walks 145 = .ok (.iload_n 3, 1) := by decide +kernel
theorem dX8_walks_146 : decode cX8_walks 146 = .ok (.iload 5, 2) := by decide +kernel
theorem dX8_walks_148 : decode cX8_walks 148 = .ok (.irem, 1) := by decide +kernel
theorem dX8_walks_149 : decode cX8_walks 149 = .ok (.iadd, 1) := by decide +kernel
theorem dX8_walks_150 : decode cX8_walks 150 = .ok (.iastore, 1) := by decide +kernel
theorem dX8_walks_151 : decode cX8_walks 151 = .ok (.aload_n 0, 1) := by decide +kernel
theorem dX8_walks_152 : decode cX8_walks 152 = .ok (.iload_n 1, 1) := by decide +kernel
theorem dX8_walks_153 : decode cX8_walks 153 = .ok (.iconst 2, 1) := by decide +kernel
theorem dX8_walks_154 : decode cX8_walks 154 = .ok (.aload_n 0, 1) := by decide +kernel
theorem dX8_walks_155 : decode cX8_walks 155 = .ok (.iload_n 1, 1) := by decide +kernel
theorem dX8_walks_156 : decode cX8_walks 156 = .ok (.iconst 2, 1) := by decide +kernel
theorem dX8_walks_157 : decode cX8_walks 157 = .ok (.invokevirtual 90, 3) := by decide +kernel
theorem dX8_walks_160 : decode cX8_walks 160 = .ok (.iload 5, 2) := by decide +kernel
theorem dX8_walks_162 : decode cX8_walks 162 = .ok (.iadd, 1) := by decide +kernel
theorem dX8_walks_163 : decode cX8_walks 163 = .ok (.invokevirtual 72, 3) := by decide +kernel
theorem dX8_walks_166 : decode cX8_walks 166 = .ok (.return_, 1) := by decide +kernel
theorem dX8_gusts_0 : decode cX8_gusts 0 = .ok (.aload_n 0, 1) := by decide +kernel
theorem dX8_gusts_1 : decode cX8_gusts 1 = .ok (.invokevirtual 143, 3) := by decide +kernel
theorem dX8_gusts_4 : decode cX8_gusts 4 = .ok (.bipush 60, 2) := by decide +kernel
theorem dX8_gusts_6 : decode cX8_gusts 6 = .ok (.irem, 1) := by decide +kernel
theorem dX8_gusts_7 : decode cX8_gusts 7 = .ok (.istore_n 1, 1) := by decide +kernel
theorem dX8_gusts_8 : decode cX8_gusts 8 = .ok (.aload_n 0, 1) := by decide +kernel
theorem dX8_gusts_9 : decode cX8_gusts 9 = .ok (.getfield 7, 3) := by decide +kernel
theorem dX8_gusts_12 : decode cX8_gusts 12 = .ok (.bipush 11, 2) := by decide +kernel
theorem dX8_gusts_14 : decode cX8_gusts 14 = .ok (.iload_n 1, 1) := by decide +kernel
theorem dX8_gusts_15 : decode cX8_gusts 15 = .ok (.iadd, 1) := by decide +kernel
theorem dX8_gusts_16 : decode cX8_gusts 16 = .ok (.iaload, 1) := by decide +kernel
theorem dX8_gusts_17 : decode cX8_gusts 17 = .ok (.iconst 2, 1) := by decide +kernel
theorem dX8_gusts_18 : decode cX8_gusts 18 = .ok (.idiv, 1) := by decide +kernel
theorem dX8_gusts_19 : decode cX8_gusts 19 = .ok (.istore_n 2, 1) := by decide +kernel
theorem dX8_gusts_20 : decode cX8_gusts 20 = .ok (.iload_n 1, 1) := by decide +kernel
theorem dX8_gusts_21 : decode cX8_gusts 21 = .ok (.aload_n 0, 1) := by decide +kernel
theorem dX8_gusts_22 : decode cX8_gusts 22 = .ok (.getfield 7, 3) := by decide +kernel
theorem dX8_gusts_25 : decode cX8_gusts 25 = .ok (.bipush 9, 2) := by decide +kernel
theorem dX8_gusts_27 : decode cX8_gusts 27 = .ok (.iaload, 1) := by decide +kernel
theorem dX8_gusts_28 : decode cX8_gusts 28 = .ok (.iadd, 1) := by decide +kernel
theorem dX8_gusts_29 : decode cX8_gusts 29 = .ok (.istore_n 3, 1) := by decide +kernel
theorem dX8_gusts_30 : decode cX8_gusts 30 = .ok (.aload_n 0, 1) := by decide +kernel
theorem dX8_gusts_31 : decode cX8_gusts 31 = .ok (.getfield 7, 3) := by decide +kernel
theorem dX8_gusts_34 : decode cX8_gusts 34 = .ok (.bipush 11, 2) := by decide +kernel
theorem dX8_gusts_36 : decode cX8_gusts 36 = .ok (.iload_n 1, 1) := by decide +kernel
theorem dX8_gusts_37 : decode cX8_gusts 37 = .ok (.iadd, 1) := by decide +kernel
theorem dX8_gusts_38 : decode cX8_gusts 38 = .ok (.dup2, 1) := by decide +kernel
theorem dX8_gusts_39 : decode cX8_gusts 39 = .ok (.iaload, 1) := by decide +kernel
theorem dX8_gusts_40 : decode cX8_gusts 40 = .ok (.iload_n 2, 1) := by decide +kernel
theorem dX8_gusts_41 : decode cX8_gusts 41 = .ok (.isub, 1) := by decide +kernel
theorem dX8_gusts_42 : decode cX8_gusts 42 = .ok (.iastore, 1) := by decide +kernel
theorem dX8_gusts_43 : decode cX8_gusts 43 = .ok (.iload_n 3, 1) := by decide +kernel
theorem dX8_gusts_44 : decode cX8_gusts 44 = .ok (.invokestatic 138, 3) := by decide +kernel
theorem dX8_gusts_47 : decode cX8_gusts 47 = .ok (.ifCond .eq 19, 3) := by decide +kernel
theorem dX8_gusts_50 : decode cX8_gusts 50 = .ok (.aload_n 0, 1) := by decide +kernel
theorem dX8_gusts_51 : decode cX8_gusts 51 = .ok (.getfield 7, 3) := by decide +kernel
theorem dX8_gusts_54 : decode cX8_gusts 54 = .ok (.bipush 11, 2) := by decide +kernel
theorem dX8_gusts_56 : decode cX8_gusts 56 = .ok (.iload_n 3, 1) := by decide +kernel
theorem dX8_gusts_57 : decode cX8_gusts 57 = .ok (.iadd, 1) := by decide +kernel
theorem dX8_gusts_58 : decode cX8_gusts 58 = .ok (.dup2, 1) := by decide +kernel
theorem dX8_gusts_59 : decode cX8_gusts 59 = .ok (.iaload, 1) := by decide +kernel
theorem dX8_gusts_60 : decode cX8_gusts 60 = .ok (.iload_n 2, 1) := by decide +kernel
theorem dX8_gusts_61 : decode cX8_gusts 61 = .ok (.iadd, 1) := by decide +kernel
theorem dX8_gusts_62 : decode cX8_gusts 62 = .ok (.iastore, 1) := by decide +kernel
theorem dX8_gusts_63 : decode cX8_gusts 63 = .ok (.goto 13, 3) := by decide +kernel
theorem dX8_gusts_66 : decode cX8_gusts 66 = .ok (.aload_n 0, 1) := by decide +kernel
theorem dX8_gusts_67 : decode cX8_gusts 67 = .ok (.getfield 7, 3) := by decide +kernel
theorem dX8_gusts_70 : decode cX8_gusts 70 = .ok (.iconst 5, 1) := by decide +kernel
theorem dX8_gusts_71 : decode cX8_gusts 71 = .ok (.dup2, 1) := by decide +kernel
theorem dX8_gusts_72 : decode cX8_gusts 72 = .ok (.iaload, 1) := by decide +kernel
theorem dX8_gusts_73 : decode cX8_gusts 73 = .ok (.iload_n 2, 1) := by decide +kernel
theorem dX8_gusts_74 : decode cX8_gusts 74 = .ok (.iadd, 1) := by decide +kernel
theorem dX8_gusts_75 : decode cX8_gusts 75 = .ok (.iastore, 1) := by decide +kernel
theorem dX8_gusts_76 : decode cX8_gusts 76 = .ok (.return_, 1) := by decide +kernel
theorem dX8_goesOn_0 : decode cX8_goesOn 0 = .ok (.iconst 0, 1) := by decide +kernel
theorem dX8_goesOn_1 : decode cX8_goesOn 1 = .ok (.istore_n 1, 1) := by decide +kernel
theorem dX8_goesOn_2 : decode cX8_goesOn 2 = .ok (.iload_n 1, 1) := by decide +kernel
theorem dX8_goesOn_3 : decode cX8_goesOn 3 = .ok (.aload_n 0, 1) := by decide +kernel
theorem dX8_goesOn_4 : decode cX8_goesOn 4 = .ok (.getfield 7, 3) := by decide +kernel
theorem dX8_goesOn_7 : decode cX8_goesOn 7 = .ok (.iconst 0, 1) := by decide +kernel
theorem dX8_goesOn_8 : decode cX8_goesOn 8 = .ok (.iaload, 1) := by decide +kernel
theorem dX8_goesOn_9 : decode cX8_goesOn 9 = .ok (.if_icmp .ge 25, 3) := by decide +kernel
theorem dX8_goesOn_12 : decode cX8_goesOn 12 = .ok (.aload_n 0, 1) := by decide +kernel
theorem dX8_goesOn_13 : decode cX8_goesOn 13 = .ok (.iload_n 1, 1) := by decide +kernel
theorem dX8_goesOn_14 : decode cX8_goesOn 14 = .ok (.iconst 2, 1) := by decide +kernel
theorem dX8_goesOn_15 : decode cX8_goesOn 15 = .ok (.invokevirtual 90, 3) := by decide +kernel
theorem dX8_goesOn_18 : decode cX8_goesOn 18 = .ok (.bipush 59, 2) := by decide +kernel
theorem dX8_goesOn_20 : decode cX8_goesOn 20 = .ok (.if_icmp .ge 8, 3) := by decide +kernel
theorem dX8_goesOn_23 : decode cX8_goesOn 23 = .ok (.aload_n 0, 1) := by decide +kernel
theorem dX8_goesOn_24 : decode cX8_goesOn 24 = .ok (.iload_n 1, 1) := by decide +kernel
theorem dX8_goesOn_25 : decode cX8_goesOn 25 = .ok (.invokevirtual 147, 3) := by decide +kernel
theorem dX8_goesOn_28 : decode cX8_goesOn 28 = .ok (.iinc 1 1, 3) := by decide +kernel
theorem dX8_goesOn_31 : decode cX8_goesOn 31 = .ok (.goto (-29), 3) := by decide +kernel
theorem dX8_goesOn_34 : decode cX8_goesOn 34 = .ok (.iconst 0, 1) := by decide +kernel
theorem dX8_goesOn_35 : decode cX8_goesOn 35 = .ok (.istore_n 1, 1) := by decide +kernel
theorem dX8_goesOn_36 : decode cX8_goesOn 36 = .ok (.iload_n 1, 1) := by decide +kernel
theorem dX8_goesOn_37 : decode cX8_goesOn 37 = .ok (.aload_n 0, 1) := by decide +kernel
theorem dX8_goesOn_38 : decode cX8_goesOn 38 = .ok (.getfield 7, 3) := by decide +kernel
theorem dX8_goesOn_41 : decode cX8_goesOn 41 = .ok (.iconst 0, 1) := by decide +kernel
theorem dX8_goesOn_42 : decode cX8_goesOn 42 = .ok (.iaload, 1) := by decide +kernel
theorem dX8_goesOn_43 : decode cX8_goesOn 43 = .ok (.if_icmp .ge 46, 3) := by decide +kernel
theorem dX8_goesOn_46 : decode cX8_goesOn 46 = .ok (.aload_n 0, 1) := by decide +kernel
theorem dX8_goesOn_47 : decode cX8_goesOn 47 = .ok (.getfield 7, 3) := by decide +kernel
theorem dX8_goesOn_50 : decode cX8_goesOn 50 = .ok (.iconst 2, 1) := by decide +kernel
theorem dX8_goesOn_51 : decode cX8_goesOn 51 = .ok (.iaload, 1) := by decide +kernel
theorem dX8_goesOn_52 : decode cX8_goesOn 52 = .ok (.iconst 5, 1) := by decide +kernel
theorem dX8_goesOn_53 : decode cX8_goesOn 53 = .ok (.irem, 1) := by decide +kernel
theorem dX8_goesOn_54 : decode cX8_goesOn 54 = .ok (.iconst 4, 1) := by decide +kernel
theorem dX8_goesOn_55 : decode cX8_goesOn 55 = .ok (.if_icmp .ne 34, 3) := by decide +kernel
theorem dX8_goesOn_58 : decode cX8_goesOn 58 = .ok (.aload_n 0, 1) := by decide +kernel
theorem dX8_goesOn_59 : decode cX8_goesOn 59 = .ok (.iload_n 1, 1) := by decide +kernel
theorem dX8_goesOn_60 : decode cX8_goesOn 60 = .ok (.iconst 4, 1) := by decide +kernel
theorem dX8_goesOn_61 : decode cX8_goesOn 61 = .ok (.aload_n 0, 1) := by decide +kernel
theorem dX8_goesOn_62 : decode cX8_goesOn 62 = .ok (.iload_n 1, 1) := by decide +kernel
theorem dX8_goesOn_63 : decode cX8_goesOn 63 = .ok (.iconst 4, 1) := by decide +kernel
theorem dX8_goesOn_64 : decode cX8_goesOn 64 = .ok (.invokevirtual 90, 3) := by decide +kernel
theorem dX8_goesOn_67 : decode cX8_goesOn 67 = .ok (.aload_n 0, 1) := by decide +kernel
theorem dX8_goesOn_68 : decode cX8_goesOn 68 = .ok (.getfield 7, 3) := by decide +kernel
theorem dX8_goesOn_71 : decode cX8_goesOn 71 = .ok (.bipush 10, 2) := by decide +kernel
theorem dX8_goesOn_73 : decode cX8_goesOn 73 = .ok (.iaload, 1) := by decide +kernel
theorem dX8_goesOn_74 : decode cX8_goesOn 74 = .ok (.iadd, 1) := by decide +kernel
theorem dX8_goesOn_75 : decode cX8_goesOn 75 = .ok (.bipush 50, 2) := by decide +kernel
theorem dX8_goesOn_77 : decode cX8_goesOn 77 = .ok (.invokestatic 101, 3) := by decide +kernel
theorem dX8_goesOn_80 : decode cX8_goesOn 80 = .ok (.invokevirtual 72, 3) := by decide +kernel
theorem dX8_goesOn_83 : decode cX8_goesOn 83 = .ok (.iinc 1 1, 3) := by decide +kernel
theorem dX8_goesOn_86 : decode cX8_goesOn 86 = .ok (.goto (-50), 3) := by decide +kernel
theorem dX8_goesOn_89 : decode cX8_goesOn 89 = .ok (.bipush 11, 2) := by decide +kernel
theorem dX8_goesOn_91 : decode cX8_goesOn 91 = .ok (.aload_n 0, 1) := by decide +kernel
theorem dX8_goesOn_92 : decode cX8_goesOn 92 = .ok (.invokevirtual 143, 3) := by decide +kernel
theorem dX8_goesOn_95 : decode cX8_goesOn 95 = .ok (.bipush 60, 2) := by decide +kernel
theorem dX8_goesOn_97 : decode cX8_goesOn 97 = .ok (.irem, 1) := by decide +kernel
theorem dX8_goesOn_98 : decode cX8_goesOn 98 = .ok (.iadd, 1) := by decide +kernel
theorem dX8_goesOn_99 : decode cX8_goesOn 99 = .ok (.istore_n 1, 1) := by decide +kernel
theorem dX8_goesOn_100 : decode cX8_goesOn 100 = .ok (.aload_n 0, 1) := by decide +kernel
theorem dX8_goesOn_101 : decode cX8_goesOn 101 = .ok (.getfield 7, 3) := by decide +kernel
theorem dX8_goesOn_104 : decode cX8_goesOn 104 = .ok (.iload_n 1, 1) := by decide +kernel
theorem dX8_goesOn_105 : decode cX8_goesOn 105 = .ok (.iaload, 1) := by decide +kernel
theorem dX8_goesOn_106 : decode cX8_goesOn 106 = .ok (.aload_n 0, 1) := by decide +kernel
theorem dX8_goesOn_107 : decode cX8_goesOn 107 = .ok (.getfield 7, 3) := by decide +kernel
theorem dX8_goesOn_110 : decode cX8_goesOn 110 = .ok (.bipush 7, 2) := by decide +kernel
theorem dX8_goesOn_112 : decode cX8_goesOn 112 = .ok (.iaload, 1) := by decide +kernel
theorem dX8_goesOn_113 : decode cX8_goesOn 113 = .ok (.if_icmp .ge 12, 3) := by decide +kernel
theorem dX8_goesOn_116 : decode cX8_goesOn 116 = .ok (.aload_n 0, 1) := by decide +kernel
theorem dX8_goesOn_117 : decode cX8_goesOn 117 = .ok (.getfield 7, 3) := by decide +kernel
theorem dX8_goesOn_120 : decode cX8_goesOn 120 = .ok (.iload_n 1, 1) := by decide +kernel
theorem dX8_goesOn_121 : decode cX8_goesOn 121 = .ok (.iaload, 1) := by decide +kernel
theorem dX8_goesOn_122 : decode cX8_goesOn 122 = .ok (.goto 10, 3) := by decide +kernel
theorem dX8_goesOn_125 : decode cX8_goesOn 125 = .ok (.aload_n 0, 1) := by decide +kernel
theorem dX8_goesOn_126 : decode cX8_goesOn 126 = .ok (.getfield 7, 3) := by decide +kernel
theorem dX8_goesOn_129 : decode cX8_goesOn 129 = .ok (.bipush 7, 2) := by decide +kernel
theorem dX8_goesOn_131 : decode cX8_goesOn 131 = .ok (.iaload, 1) := by decide +kernel
theorem dX8_goesOn_132 : decode cX8_goesOn 132 = .ok (.istore_n 2, 1) := by decide +kernel
theorem dX8_goesOn_133 : decode cX8_goesOn 133 = .ok (.aload_n 0, 1) := by decide +kernel
theorem dX8_goesOn_134 : decode cX8_goesOn 134 = .ok (.getfield 7, 3) := by decide +kernel
theorem dX8_goesOn_137 : decode cX8_goesOn 137 = .ok (.iload_n 1, 1) := by decide +kernel
theorem dX8_goesOn_138 : decode cX8_goesOn 138 = .ok (.dup2, 1) := by decide +kernel
theorem dX8_goesOn_139 : decode cX8_goesOn 139 = .ok (.iaload, 1) := by decide +kernel
theorem dX8_goesOn_140 : decode cX8_goesOn 140 = .ok (.iload_n 2, 1) := by decide +kernel
theorem dX8_goesOn_141 : decode cX8_goesOn 141 = .ok (.isub, 1) := by decide +kernel
theorem dX8_goesOn_142 : decode cX8_goesOn 142 = .ok (.iastore, 1) := by decide +kernel
theorem dX8_goesOn_143 : decode cX8_goesOn 143 = .ok (.aload_n 0, 1) := by decide +kernel
theorem dX8_goesOn_144 : decode cX8_goesOn 144 = .ok (.getfield 7, 3) := by decide +kernel
theorem dX8_goesOn_147 : decode cX8_goesOn 147 = .ok (.iconst 4, 1) := by decide +kernel
theorem dX8_goesOn_148 : decode cX8_goesOn 148 = .ok (.dup2, 1) := by decide +kernel
theorem dX8_goesOn_149 : decode cX8_goesOn 149 = .ok (.iaload, 1) := by decide +kernel
theorem dX8_goesOn_150 : decode cX8_goesOn 150 = .ok (.iload_n 2, 1) := by decide +kernel
theorem dX8_goesOn_151 : decode cX8_goesOn 151 = .ok (.iadd, 1) := by decide +kernel
theorem dX8_goesOn_152 : decode cX8_goesOn 152 = .ok (.iastore, 1) := by decide +kernel
theorem dX8_goesOn_153 : decode cX8_goesOn 153 = .ok (.aload_n 0, 1) := by decide +kernel
theorem dX8_goesOn_154 : decode cX8_goesOn 154 = .ok (.invokevirtual 143, 3) := by decide +kernel
theorem dX8_goesOn_157 : decode cX8_goesOn 157 = .ok (.bipush 100, 2) := by decide +kernel
theorem dX8_goesOn_159 : decode cX8_goesOn 159 = .ok (.irem, 1) := by decide +kernel
theorem dX8_goesOn_160 : decode cX8_goesOn 160 = .ok (.aload_n 0, 1) := by decide +kernel
theorem dX8_goesOn_161 : decode cX8_goesOn 161 = .ok (.getfield 7, 3) := by decide +kernel
theorem dX8_goesOn_164 : decode cX8_goesOn 164 = .ok (.bipush 8, 2) := by decide +kernel
theorem dX8_goesOn_166 : decode cX8_goesOn 166 = .ok (.iaload, 1) := by decide +kernel
theorem dX8_goesOn_167 : decode cX8_goesOn 167 = .ok (.if_icmp .ge 7, 3) := by decide +kernel
theorem dX8_goesOn_170 : decode cX8_goesOn 170 = .ok (.aload_n 0, 1) := by decide +kernel
theorem dX8_goesOn_171 : decode cX8_goesOn 171 = .ok (.invokevirtual 151, 3) := by decide +kernel
theorem dX8_goesOn_174 : decode cX8_goesOn 174 = .ok (.aload_n 0, 1) := by decide +kernel
theorem dX8_goesOn_175 : decode cX8_goesOn 175 = .ok (.getfield 7, 3) := by decide +kernel
theorem dX8_goesOn_178 : decode cX8_goesOn 178 = .ok (.iconst 2, 1) := by decide +kernel
theorem dX8_goesOn_179 : decode cX8_goesOn 179 = .ok (.dup2, 1) := by decide +kernel
theorem dX8_goesOn_180 : decode cX8_goesOn 180 = .ok (.iaload, 1) := by decide +kernel
theorem dX8_goesOn_181 : decode cX8_goesOn 181 = .ok (.iconst 1, 1) := by decide +kernel
theorem dX8_goesOn_182 : decode cX8_goesOn 182 = .ok (.iadd, 1) := by decide +kernel
theorem dX8_goesOn_183 : decode cX8_goesOn 183 = .ok (.iastore, 1) := by decide +kernel
theorem dX8_goesOn_184 : decode cX8_goesOn 184 = .ok (.return_, 1) := by decide +kernel
theorem dX8_goesOnMany_0 : decode cX8_goesOnMany 0 = .ok (.iconst 0, 1) := by decide +kernel
theorem dX8_goesOnMany_1 : decode cX8_goesOnMany 1 = .ok (.istore_n 2, 1) := by decide +kernel
theorem dX8_goesOnMany_2 : decode cX8_goesOnMany 2 = .ok (.iload_n 2, 1) := by decide +kernel
theorem dX8_goesOnMany_3 : decode cX8_goesOnMany 3 = .ok (.iload_n 1, 1) := by decide +kernel
theorem dX8_goesOnMany_4 : decode cX8_goesOnMany 4 = .ok (.if_icmp .ge 13, 3) := by decide +kernel
theorem dX8_goesOnMany_7 : decode cX8_goesOnMany 7 = .ok (.aload_n 0, 1) := by decide +kernel
theorem dX8_goesOnMany_8 : decode cX8_goesOnMany 8 = .ok (.invokevirtual 154, 3) := by decide +kernel
theorem dX8_goesOnMany_11 : decode cX8_goesOnMany 11 = .ok (.iinc 2 1, 3) := by decide +kernel
theorem dX8_goesOnMany_14 : decode cX8_goesOnMany 14 = .ok (.goto (-12), 3) := by decide +kernel
theorem dX8_goesOnMany_17 : decode cX8_goesOnMany 17 = .ok (.return_, 1) := by decide +kernel
theorem dX8_minutes_0 : decode cX8_minutes 0 = .ok (.iload_n 1, 1) := by decide +kernel
theorem dX8_minutes_1 : decode cX8_minutes 1 = .ok (.i2l, 1) := by decide +kernel
theorem dX8_minutes_2 : decode cX8_minutes 2 = .ok (.lconst 1, 1) := by decide +kernel
theorem dX8_minutes_3 : decode cX8_minutes 3 = .ok (.ldc2_w 132, 3) := by decide +kernel
theorem dX8_minutes_6 : decode cX8_minutes 6 = .ok (.invokestatic 65, 3) := by decide +kernel
theorem dX8_minutes_9 : decode cX8_minutes 9 = .ok (.ifCond .ne 6, 3) := by decide +kernel
theorem dX8_minutes_12 : decode cX8_minutes 12 = .ok (.ldc 84, 2) := by decide +kernel
theorem dX8_minutes_14 : decode cX8_minutes 14 = .ok (.ireturn, 1) := by decide +kernel
theorem dX8_minutes_15 : decode cX8_minutes 15 = .ok (.aload_n 0, 1) := by decide +kernel
theorem dX8_minutes_16 : decode cX8_minutes 16 = .ok (.getfield 7, 3) := by decide +kernel
theorem dX8_minutes_19 : decode cX8_minutes 19 = .ok (.iconst 3, 1) := by decide +kernel
theorem dX8_minutes_20 : decode cX8_minutes 20 = .ok (.iaload, 1) := by decide +kernel
theorem dX8_minutes_21 : decode cX8_minutes 21 = .ok (.istore_n 2, 1) := by decide +kernel
theorem dX8_minutes_22 : decode cX8_minutes 22 = .ok (.iconst 0, 1) := by decide +kernel
theorem dX8_minutes_23 : decode cX8_minutes 23 = .ok (.istore_n 3, 1) := by decide +kernel
theorem dX8_minutes_24 : decode cX8_minutes 24 = .ok (.iload_n 3, 1) := by decide +kernel
theorem dX8_minutes_25 : decode cX8_minutes 25 = .ok (.iload_n 1, 1) := by decide +kernel
theorem dX8_minutes_26 : decode cX8_minutes 26 = .ok (.if_icmp .ge 25, 3) := by decide +kernel
theorem dX8_minutes_29 : decode cX8_minutes 29 = .ok (.aload_n 0, 1) := by decide +kernel
theorem dX8_minutes_30 : decode cX8_minutes 30 = .ok (.getfield 7, 3) := by decide +kernel
theorem dX8_minutes_33 : decode cX8_minutes 33 = .ok (.iconst 2, 1) := by decide +kernel
theorem dX8_minutes_34 : decode cX8_minutes 34 = .ok (.iaload, 1) := by decide +kernel
theorem dX8_minutes_35 : decode cX8_minutes 35 = .ok (.sipush 9999, 3) := by decide +kernel
theorem dX8_minutes_38 : decode cX8_minutes 38 = .ok (.if_icmp .ge 13, 3) := by decide +kernel
theorem dX8_minutes_41 : decode cX8_minutes 41 = .ok (.aload_n 0, 1) := by decide +kernel
theorem dX8_minutes_42 : decode cX8_minutes 42 = .ok (.invokevirtual 154, 3) := by decide +kernel
theorem dX8_minutes_45 : decode cX8_minutes 45 = .ok (.iinc 3 1, 3) := by decide +kernel
theorem dX8_minutes_48 : decode cX8_minutes 48 = .ok (.goto (-24), 3) := by decide +kernel
theorem dX8_minutes_51 : decode cX8_minutes 51 = .ok (.aload_n 0, 1) := by decide +kernel
theorem dX8_minutes_52 : decode cX8_minutes 52 = .ok (.getfield 7, 3) := by decide +kernel
theorem dX8_minutes_55 : decode cX8_minutes 55 = .ok (.iconst 3, 1) := by decide +kernel
theorem dX8_minutes_56 : decode cX8_minutes 56 = .ok (.iaload, 1) := by decide +kernel
theorem dX8_minutes_57 : decode cX8_minutes 57 = .ok (.iload_n 2, 1) := by decide +kernel
theorem dX8_minutes_58 : decode cX8_minutes 58 = .ok (.isub, 1) := by decide +kernel
theorem dX8_minutes_59 : decode cX8_minutes 59 = .ok (.ireturn, 1) := by decide +kernel
theorem dX8_allOf_0 : decode cX8_allOf 0 = .ok (.iconst 0, 1) := by decide +kernel
theorem dX8_allOf_1 : decode cX8_allOf 1 = .ok (.istore_n 2, 1) := by decide +kernel
theorem dX8_allOf_2 : decode cX8_allOf 2 = .ok (.iconst 0, 1) := by decide +kernel
theorem dX8_allOf_3 : decode cX8_allOf 3 = .ok (.istore_n 3, 1) := by decide +kernel
theorem dX8_allOf_4 : decode cX8_allOf 4 = .ok (.iload_n 3, 1) := by decide +kernel
theorem dX8_allOf_5 : decode cX8_allOf 5 = .ok (.bipush 60, 2) := by decide +kernel
theorem dX8_allOf_7 : decode cX8_allOf 7 = .ok (.if_icmp .ge 20, 3) := by decide +kernel
theorem dX8_allOf_10 : decode cX8_allOf 10 = .ok (.iload_n 2, 1) := by decide +kernel
theorem dX8_allOf_11 : decode cX8_allOf 11 = .ok (.aload_n 0, 1) := by decide +kernel
theorem dX8_allOf_12 : decode cX8_allOf 12 = .ok (.getfield 7, 3) := by decide +kernel
theorem dX8_allOf_15 : decode cX8_allOf 15 = .ok (.iload_n 1, 1) := by decide +kernel
theorem dX8_allOf_16 : decode cX8_allOf 16 = .ok (.iload_n 3, 1) := by decide +kernel
theorem dX8_allOf_17 : decode cX8_allOf 17 = .ok (.iadd, 1) := by decide +kernel
theorem dX8_allOf_18 : decode cX8_allOf 18 = .ok (.iaload, 1) := by decide +kernel
theorem dX8_allOf_19 : decode cX8_allOf 19 = .ok (.iadd, 1) := by decide +kernel
theorem dX8_allOf_20 : decode cX8_allOf 20 = .ok (.istore_n 2, 1) := by decide +kernel
theorem dX8_allOf_21 : decode cX8_allOf 21 = .ok (.iinc 3 1, 3) := by decide +kernel
theorem dX8_allOf_24 : decode cX8_allOf 24 = .ok (.goto (-20), 3) := by decide +kernel
theorem dX8_allOf_27 : decode cX8_allOf 27 = .ok (.iload_n 2, 1) := by decide +kernel
theorem dX8_allOf_28 : decode cX8_allOf 28 = .ok (.ireturn, 1) := by decide +kernel
theorem dX8_inSacks_0 : decode cX8_inSacks 0 = .ok (.iconst 0, 1) := by decide +kernel
theorem dX8_inSacks_1 : decode cX8_inSacks 1 = .ok (.istore_n 1, 1) := by decide +kernel
theorem dX8_inSacks_2 : decode cX8_inSacks 2 = .ok (.iconst 0, 1) := by decide +kernel
theorem dX8_inSacks_3 : decode cX8_inSacks 3 = .ok (.istore_n 2, 1) := by decide +kernel
theorem dX8_inSacks_4 : decode cX8_inSacks 4 = .ok (.iload_n 2, 1) := by decide +kernel
theorem dX8_inSacks_5 : decode cX8_inSacks 5 = .ok (.aload_n 0, 1) := by decide +kernel
theorem dX8_inSacks_6 : decode cX8_inSacks 6 = .ok (.getfield 7, 3) := by decide +kernel
theorem dX8_inSacks_9 : decode cX8_inSacks 9 = .ok (.iconst 0, 1) := by decide +kernel
theorem dX8_inSacks_10 : decode cX8_inSacks 10 = .ok (.iaload, 1) := by decide +kernel
theorem dX8_inSacks_11 : decode cX8_inSacks 11 = .ok (.if_icmp .ge 18, 3) := by decide +kernel
theorem dX8_inSacks_14 : decode cX8_inSacks 14 = .ok (.iload_n 1, 1) := by decide +kernel
theorem dX8_inSacks_15 : decode cX8_inSacks 15 = .ok (.aload_n 0, 1) := by decide +kernel
theorem dX8_inSacks_16 : decode cX8_inSacks 16 = .ok (.iload_n 2, 1) := by decide +kernel
theorem dX8_inSacks_17 : decode cX8_inSacks 17 = .ok (.iconst 3, 1) := by decide +kernel
theorem dX8_inSacks_18 : decode cX8_inSacks 18 = .ok (.invokevirtual 90, 3) := by decide +kernel
theorem dX8_inSacks_21 : decode cX8_inSacks 21 = .ok (.iadd, 1) := by decide +kernel
theorem dX8_inSacks_22 : decode cX8_inSacks 22 = .ok (.istore_n 1, 1) := by decide +kernel
theorem dX8_inSacks_23 : decode cX8_inSacks 23 = .ok (.iinc 2 1, 3) := by decide +kernel
theorem dX8_inSacks_26 : decode cX8_inSacks 26 = .ok (.goto (-22), 3) := by decide +kernel
theorem dX8_inSacks_29 : decode cX8_inSacks 29 = .ok (.iload_n 1, 1) := by decide +kernel
theorem dX8_inSacks_30 : decode cX8_inSacks 30 = .ok (.ireturn, 1) := by decide +kernel
theorem dX8_trail_0 : decode cX8_trail 0 = .ok (.iconst 0, 1) := by decide +kernel
theorem dX8_trail_1 : decode cX8_trail 1 = .ok (.istore_n 1, 1) := by decide +kernel
theorem dX8_trail_2 : decode cX8_trail 2 = .ok (.iconst 0, 1) := by decide +kernel
theorem dX8_trail_3 : decode cX8_trail 3 = .ok (.istore_n 2, 1) := by decide +kernel
theorem dX8_trail_4 : decode cX8_trail 4 = .ok (.iconst 0, 1) := by decide +kernel
theorem dX8_trail_5 : decode cX8_trail 5 = .ok (.istore_n 3, 1) := by decide +kernel
theorem dX8_trail_6 : decode cX8_trail 6 = .ok (.iload_n 3, 1) := by decide +kernel
theorem dX8_trail_7 : decode cX8_trail 7 = .ok (.bipush 60, 2) := by decide +kernel
theorem dX8_trail_9 : decode cX8_trail 9 = .ok (.if_icmp .ge 40, 3) := by decide +kernel
theorem dX8_trail_12 : decode cX8_trail 12 = .ok (.aload_n 0, 1) := by decide +kernel
theorem dX8_trail_13 : decode cX8_trail 13 = .ok (.getfield 7, 3) := by decide +kernel
theorem dX8_trail_16 : decode cX8_trail 16 = .ok (.bipush 11, 2) := by decide +kernel
theorem dX8_trail_18 : decode cX8_trail 18 = .ok (.iload_n 3, 1) := by decide +kernel
theorem dX8_trail_19 : decode cX8_trail 19 = .ok (.iadd, 1) := by decide +kernel
theorem dX8_trail_20 : decode cX8_trail 20 = .ok (.iaload, 1) := by decide +kernel
theorem dX8_trail_21 : decode cX8_trail 21 = .ok (.ifCond .le 9, 3) := by decide +kernel
theorem dX8_trail_24 : decode cX8_trail 24 = .ok (.iload_n 2, 1) := by decide +kernel
theorem dX8_trail_25 : decode cX8_trail 25 = .ok (.iconst 1, 1) := by decide +kernel
theorem dX8_trail_26 : decode cX8_trail 26 = .ok (.iadd, 1) := by decide +kernel
theorem dX8_trail_27 : decode cX8_trail 27 = .ok (.goto 4, 3) := by decide +kernel
theorem dX8_trail_30 : decode cX8_trail 30 = .ok (.iconst 0, 1) := by decide +kernel
theorem dX8_trail_31 : decode cX8_trail 31 = .ok (.istore_n 2, 1) := by decide +kernel
theorem dX8_trail_32 : decode cX8_trail 32 = .ok (.iload_n 2, 1) := by decide +kernel
theorem dX8_trail_33 : decode cX8_trail 33 = .ok (.iload_n 1, 1) := by decide +kernel
theorem dX8_trail_34 : decode cX8_trail 34 = .ok (.if_icmp .le 7, 3) := by decide +kernel
theorem dX8_trail_37 : decode cX8_trail 37 = .ok (.iload_n 2, 1) := by decide +kernel
theorem dX8_trail_38 : decode cX8_trail 38 = .ok (.goto 4, 3) := by decide +kernel
theorem dX8_trail_41 : decode cX8_trail 41 = .ok (.iload_n 1, 1) := by decide +kernel
theorem dX8_trail_42 : decode cX8_trail 42 = .ok (.istore_n 1, 1) := by decide +kernel
theorem dX8_trail_43 : decode cX8_trail 43 = .ok (.iinc 3 1, 3) := by decide +kernel
theorem dX8_trail_46 : decode cX8_trail 46 = .ok (.goto (-40), 3) := by decide +kernel
theorem dX8_trail_49 : decode cX8_trail 49 = .ok (.iload_n 1, 1) := by decide +kernel
theorem dX8_trail_50 : decode cX8_trail 50 = .ok (.ireturn, 1) := by decide +kernel
theorem dX8_way_0 : decode cX8_way 0 = .ok (.iload_n 1, 1) := by decide +kernel
theorem dX8_way_1 : decode cX8_way 1 = .ok (.tableswitch 88 0 6 #[43, 50, 57, 64, 71, 78, 83], 43) := by decide +kernel
theorem dX8_way_44 : decode cX8_way 44 = .ok (.aload_n 0, 1) := by decide +kernel
theorem dX8_way_45 : decode cX8_way 45 = .ok (.bipush 11, 2) := by decide +kernel
theorem dX8_way_47 : decode cX8_way 47 = .ok (.invokevirtual 157, 3) := by decide +kernel
theorem dX8_way_50 : decode cX8_way 50 = .ok (.ireturn, 1) := by decide +kernel
theorem dX8_way_51 : decode cX8_way 51 = .ok (.aload_n 0, 1) := by decide +kernel
theorem dX8_way_52 : decode cX8_way 52 = .ok (.bipush 71, 2) := by decide +kernel
theorem dX8_way_54 : decode cX8_way 54 = .ok (.invokevirtual 157, 3) := by decide +kernel
theorem dX8_way_57 : decode cX8_way 57 = .ok (.ireturn, 1) := by decide +kernel
theorem dX8_way_58 : decode cX8_way 58 = .ok (.aload_n 0, 1) := by decide +kernel
theorem dX8_way_59 : decode cX8_way 59 = .ok (.getfield 7, 3) := by decide +kernel
theorem dX8_way_62 : decode cX8_way 62 = .ok (.iconst 3, 1) := by decide +kernel
theorem dX8_way_63 : decode cX8_way 63 = .ok (.iaload, 1) := by decide +kernel
theorem dX8_way_64 : decode cX8_way 64 = .ok (.ireturn, 1) := by decide +kernel
theorem dX8_way_65 : decode cX8_way 65 = .ok (.aload_n 0, 1) := by decide +kernel
theorem dX8_way_66 : decode cX8_way 66 = .ok (.getfield 7, 3) := by decide +kernel
theorem dX8_way_69 : decode cX8_way 69 = .ok (.iconst 4, 1) := by decide +kernel
theorem dX8_way_70 : decode cX8_way 70 = .ok (.iaload, 1) := by decide +kernel
theorem dX8_way_71 : decode cX8_way 71 = .ok (.ireturn, 1) := by decide +kernel
theorem dX8_way_72 : decode cX8_way 72 = .ok (.aload_n 0, 1) := by decide +kernel
theorem dX8_way_73 : decode cX8_way 73 = .ok (.getfield 7, 3) := by decide +kernel
theorem dX8_way_76 : decode cX8_way 76 = .ok (.iconst 5, 1) := by decide +kernel
theorem dX8_way_77 : decode cX8_way 77 = .ok (.iaload, 1) := by decide +kernel
theorem dX8_way_78 : decode cX8_way 78 = .ok (.ireturn, 1) := by decide +kernel
theorem dX8_way_79 : decode cX8_way 79 = .ok (.aload_n 0, 1) := by decide +kernel
theorem dX8_way_80 : decode cX8_way 80 = .ok (.invokevirtual 160, 3) := by decide +kernel
theorem dX8_way_83 : decode cX8_way 83 = .ok (.ireturn, 1) := by decide +kernel
theorem dX8_way_84 : decode cX8_way 84 = .ok (.aload_n 0, 1) := by decide +kernel
theorem dX8_way_85 : decode cX8_way 85 = .ok (.invokevirtual 163, 3) := by decide +kernel
theorem dX8_way_88 : decode cX8_way 88 = .ok (.ireturn, 1) := by decide +kernel
theorem dX8_way_89 : decode cX8_way 89 = .ok (.ldc 84, 2) := by decide +kernel
theorem dX8_way_91 : decode cX8_way 91 = .ok (.ireturn, 1) := by decide +kernel
theorem dX8_laysBy_0 : decode cX8_laysBy 0 = .ok (.iconst 0, 1) := by decide +kernel
theorem dX8_laysBy_1 : decode cX8_laysBy 1 = .ok (.istore_n 1, 1) := by decide +kernel
theorem dX8_laysBy_2 : decode cX8_laysBy 2 = .ok (.iload_n 1, 1) := by decide +kernel
theorem dX8_laysBy_3 : decode cX8_laysBy 3 = .ok (.sipush 171, 3) := by decide +kernel
theorem dX8_laysBy_6 : decode cX8_laysBy 6 = .ok (.if_icmp .ge 21, 3) := by decide +kernel
theorem dX8_laysBy_9 : decode cX8_laysBy 9 = .ok (.aload_n 0, 1) := by decide +kernel
theorem dX8_laysBy_10 : decode cX8_laysBy 10 = .ok (.getfield 43, 3) := by decide +kernel
theorem dX8_laysBy_13 : decode cX8_laysBy 13 = .ok (.iload_n 1, 1) := by decide +kernel
theorem dX8_laysBy_14 : decode cX8_laysBy 14 = .ok (.aload_n 0, 1) := by decide +kernel
theorem dX8_laysBy_15 : decode cX8_laysBy 15 = .ok (.getfield 7, 3) := by decide +kernel
theorem dX8_laysBy_18 : decode cX8_laysBy 18 = .ok (.iload_n 1, 1) := by decide +kernel
theorem dX8_laysBy_19 : decode cX8_laysBy 19 = .ok (.iaload, 1) := by decide +kernel
theorem dX8_laysBy_20 : decode cX8_laysBy 20 = .ok (.iastore, 1) := by decide +kernel
theorem dX8_laysBy_21 : decode cX8_laysBy 21 = .ok (.iinc 1 1, 3) := by decide +kernel
theorem dX8_laysBy_24 : decode cX8_laysBy 24 = .ok (.goto (-22), 3) := by decide +kernel
theorem dX8_laysBy_27 : decode cX8_laysBy 27 = .ok (.return_, 1) := by decide +kernel
theorem dX8_laysBack_0 : decode cX8_laysBack 0 = .ok (.iconst 0, 1) := by decide +kernel
theorem dX8_laysBack_1 : decode cX8_laysBack 1 = .ok (.istore_n 1, 1) := by decide +kernel
theorem dX8_laysBack_2 : decode cX8_laysBack 2 = .ok (.iload_n 1, 1) := by decide +kernel
theorem dX8_laysBack_3 : decode cX8_laysBack 3 = .ok (.sipush 171, 3) := by decide +kernel
theorem dX8_laysBack_6 : decode cX8_laysBack 6 = .ok (.if_icmp .ge 21, 3) := by decide +kernel
theorem dX8_laysBack_9 : decode cX8_laysBack 9 = .ok (.aload_n 0, 1) := by decide +kernel
theorem dX8_laysBack_10 : decode cX8_laysBack 10 = .ok (.getfield 7, 3) := by decide +kernel
theorem dX8_laysBack_13 : decode cX8_laysBack 13 = .ok (.iload_n 1, 1) := by decide +kernel
theorem dX8_laysBack_14 : decode cX8_laysBack 14 = .ok (.aload_n 0, 1) := by decide +kernel
theorem dX8_laysBack_15 : decode cX8_laysBack 15 = .ok (.getfield 43, 3) := by decide +kernel
theorem dX8_laysBack_18 : decode cX8_laysBack 18 = .ok (.iload_n 1, 1) := by decide +kernel
theorem dX8_laysBack_19 : decode cX8_laysBack 19 = .ok (.iaload, 1) := by decide +kernel
theorem dX8_laysBack_20 : decode cX8_laysBack 20 = .ok (.iastore, 1) := by decide +kernel
theorem dX8_laysBack_21 : decode cX8_laysBack 21 = .ok (.iinc 1 1, 3) := by decide +kernel
theorem dX8_laysBack_24 : decode cX8_laysBack 24 = .ok (.goto (-22), 3) := by decide +kernel
theorem dX8_laysBack_27 : decode cX8_laysBack 27 = .ok (.return_, 1) := by decide +kernel
theorem dX8_behind_0 : decode cX8_behind 0 = .ok (.iload_n 1, 1) := by decide +kernel
theorem dX8_behind_1 : decode cX8_behind 1 = .ok (.i2l, 1) := by decide +kernel
theorem dX8_behind_2 : decode cX8_behind 2 = .ok (.lconst 0, 1) := by decide +kernel
theorem dX8_behind_3 : decode cX8_behind 3 = .ok (.ldc2_w 132, 3) := by decide +kernel
theorem dX8_behind_6 : decode cX8_behind 6 = .ok (.invokestatic 65, 3) := by decide +kernel
theorem dX8_behind_9 : decode cX8_behind 9 = .ok (.ifCond .eq 21, 3) := by decide +kernel
theorem dX8_behind_12 : decode cX8_behind 12 = .ok (.iload_n 2, 1) := by decide +kernel
theorem dX8_behind_13 : decode cX8_behind 13 = .ok (.i2l, 1) := by decide +kernel
theorem dX8_behind_14 : decode cX8_behind 14 = .ok (.lconst 0, 1) := by decide +kernel
theorem dX8_behind_15 : decode cX8_behind 15 = .ok (.iconst 2, 1) := by decide +kernel
theorem dX8_behind_16 : decode cX8_behind 16 = .ok (.aload_n 0, 1) := by decide +kernel
theorem dX8_behind_17 : decode cX8_behind 17 = .ok (.getfield 7, 3) := by decide +kernel
theorem dX8_behind_20 : decode cX8_behind 20 = .ok (.iconst 0, 1) := by decide +kernel
theorem dX8_behind_21 : decode cX8_behind 21 = .ok (.iaload, 1) := by decide +kernel
theorem dX8_behind_22 : decode cX8_behind 22 = .ok (.iadd, 1) := by decide +kernel
theorem dX8_behind_23 : decode cX8_behind 23 = .ok (.i2l, 1) := by decide +kernel
theorem dX8_behind_24 : decode cX8_behind 24 = .ok (.invokestatic 65, 3) := by decide +kernel
theorem dX8_behind_27 : decode cX8_behind 27 = .ok (.ifCond .ne 6, 3) := by decide +kernel
theorem dX8_behind_30 : decode cX8_behind 30 = .ok (.ldc 84, 2) := by decide +kernel
theorem dX8_behind_32 : decode cX8_behind 32 = .ok (.ireturn, 1) := by decide +kernel
theorem dX8_behind_33 : decode cX8_behind 33 = .ok (.aload_n 0, 1) := by decide +kernel
theorem dX8_behind_34 : decode cX8_behind 34 = .ok (.invokevirtual 166, 3) := by decide +kernel
theorem dX8_behind_37 : decode cX8_behind 37 = .ok (.aload_n 0, 1) := by decide +kernel
theorem dX8_behind_38 : decode cX8_behind 38 = .ok (.iload_n 1, 1) := by decide +kernel
theorem dX8_behind_39 : decode cX8_behind 39 = .ok (.invokevirtual 169, 3) := by decide +kernel
theorem dX8_behind_42 : decode cX8_behind 42 = .ok (.iload_n 2, 1) := by decide +kernel
theorem dX8_behind_43 : decode cX8_behind 43 = .ok (.ifCond .ne 12, 3) := by decide +kernel
theorem dX8_behind_46 : decode cX8_behind 46 = .ok (.aload_n 0, 1) := by decide +kernel
theorem dX8_behind_47 : decode cX8_behind 47 = .ok (.bipush 11, 2) := by decide +kernel
theorem dX8_behind_49 : decode cX8_behind 49 = .ok (.invokevirtual 157, 3) := by decide +kernel
theorem dX8_behind_52 : decode cX8_behind 52 = .ok (.goto 39, 3) := by decide +kernel
theorem dX8_behind_55 : decode cX8_behind 55 = .ok (.iload_n 2, 1) := by decide +kernel
theorem dX8_behind_56 : decode cX8_behind 56 = .ok (.iconst 1, 1) := by decide +kernel
theorem dX8_behind_57 : decode cX8_behind 57 = .ok (.if_icmp .ne 12, 3) := by decide +kernel
theorem dX8_behind_60 : decode cX8_behind 60 = .ok (.aload_n 0, 1) := by decide +kernel
theorem dX8_behind_61 : decode cX8_behind 61 = .ok (.getfield 7, 3) := by decide +kernel
theorem dX8_behind_64 : decode cX8_behind 64 = .ok (.iconst 4, 1) := by decide +kernel
theorem dX8_behind_65 : decode cX8_behind 65 = .ok (.iaload, 1) := by decide +kernel
theorem dX8_behind_66 : decode cX8_behind 66 = .ok (.goto 25, 3) := by decide +kernel
theorem dX8_behind_69 : decode cX8_behind 69 = .ok (.iload_n 2, 1) := by decide +kernel
theorem dX8_behind_70 : decode cX8_behind 70 = .ok (.iconst 2, 1) := by decide +kernel
theorem dX8_behind_71 : decode cX8_behind 71 = .ok (.if_icmp .ne 12, 3) := by decide +kernel
theorem dX8_behind_74 : decode cX8_behind 74 = .ok (.aload_n 0, 1) := by decide +kernel
theorem dX8_behind_75 : decode cX8_behind 75 = .ok (.getfield 7, 3) := by decide +kernel
theorem dX8_behind_78 : decode cX8_behind 78 = .ok (.iconst 5, 1) := by decide +kernel
theorem dX8_behind_79 : decode cX8_behind 79 = .ok (.iaload, 1) := by decide +kernel
theorem dX8_behind_80 : decode cX8_behind 80 = .ok (.goto 11, 3) := by decide +kernel
theorem dX8_behind_83 : decode cX8_behind 83 = .ok (.aload_n 0, 1) := by decide +kernel
theorem dX8_behind_84 : decode cX8_behind 84 = .ok (.iload_n 2, 1) := by decide +kernel
theorem dX8_behind_85 : decode cX8_behind 85 = .ok (.iconst 3, 1) := by decide +kernel
theorem dX8_behind_86 : decode cX8_behind 86 = .ok (.isub, 1) := by decide +kernel
theorem dX8_behind_87 : decode cX8_behind 87 = .ok (.iconst 3, 1) := by decide +kernel
theorem dX8_behind_88 : decode cX8_behind 88 = .ok (.invokevirtual 90, 3) := by decide +kernel
theorem dX8_behind_91 : decode cX8_behind 91 = .ok (.istore_n 3, 1) := by decide +kernel
theorem dX8_behind_92 : decode cX8_behind 92 = .ok (.aload_n 0, 1) := by decide +kernel
theorem dX8_behind_93 : decode cX8_behind 93 = .ok (.invokevirtual 172, 3) := by decide +kernel
theorem dX8_behind_96 : decode cX8_behind 96 = .ok (.iload_n 3, 1) := by decide +kernel
theorem dX8_behind_97 : decode cX8_behind 97 = .ok (.ireturn, 1) := by decide +kernel
theorem dX8_isEmpty_0 : decode cX8_isEmpty 0 = .ok (.iconst 0, 1) := by decide +kernel
theorem dX8_isEmpty_1 : decode cX8_isEmpty 1 = .ok (.istore_n 1, 1) := by decide +kernel
theorem dX8_isEmpty_2 : decode cX8_isEmpty 2 = .ok (.iload_n 1, 1) := by decide +kernel
theorem dX8_isEmpty_3 : decode cX8_isEmpty 3 = .ok (.aload_n 0, 1) := by decide +kernel
theorem dX8_isEmpty_4 : decode cX8_isEmpty 4 = .ok (.getfield 7, 3) := by decide +kernel
theorem dX8_isEmpty_7 : decode cX8_isEmpty 7 = .ok (.iconst 0, 1) := by decide +kernel
theorem dX8_isEmpty_8 : decode cX8_isEmpty 8 = .ok (.iaload, 1) := by decide +kernel
theorem dX8_isEmpty_9 : decode cX8_isEmpty 9 = .ok (.if_icmp .ge 31, 3) := by decide +kernel
theorem dX8_isEmpty_12 : decode cX8_isEmpty 12 = .ok (.aload_n 0, 1) := by decide +kernel
theorem dX8_isEmpty_13 : decode cX8_isEmpty 13 = .ok (.iload_n 1, 1) := by decide +kernel
theorem dX8_isEmpty_14 : decode cX8_isEmpty 14 = .ok (.iconst 3, 1) := by decide +kernel
theorem dX8_isEmpty_15 : decode cX8_isEmpty 15 = .ok (.invokevirtual 90, 3) := by decide +kernel
theorem dX8_isEmpty_18 : decode cX8_isEmpty 18 = .ok (.ifCond .le 16, 3) := by decide +kernel
theorem dX8_isEmpty_21 : decode cX8_isEmpty 21 = .ok (.aload_n 0, 1) := by decide +kernel
theorem dX8_isEmpty_22 : decode cX8_isEmpty 22 = .ok (.iload_n 1, 1) := by decide +kernel
theorem dX8_isEmpty_23 : decode cX8_isEmpty 23 = .ok (.iconst 2, 1) := by decide +kernel
theorem dX8_isEmpty_24 : decode cX8_isEmpty 24 = .ok (.invokevirtual 90, 3) := by decide +kernel
theorem dX8_isEmpty_27 : decode cX8_isEmpty 27 = .ok (.bipush 59, 2) := by decide +kernel
theorem dX8_isEmpty_29 : decode cX8_isEmpty 29 = .ok (.if_icmp .ge 5, 3) := by decide +kernel
theorem dX8_isEmpty_32 : decode cX8_isEmpty 32 = .ok (.iconst 0, 1) := by decide +kernel
theorem dX8_isEmpty_33 : decode cX8_isEmpty 33 = .ok (.ireturn, 1) := by decide +kernel
theorem dX8_isEmpty_34 : decode cX8_isEmpty 34 = .ok (.iinc 1 1, 3) := by decide +kernel
theorem dX8_isEmpty_37 : decode cX8_isEmpty 37 = .ok (.goto (-35), 3) := by decide +kernel
theorem dX8_isEmpty_40 : decode cX8_isEmpty 40 = .ok (.iconst 1, 1) := by decide +kernel
theorem dX8_isEmpty_41 : decode cX8_isEmpty 41 = .ok (.ireturn, 1) := by decide +kernel
theorem dX8_empty_0 : decode cX8_empty 0 = .ok (.aload_n 0, 1) := by decide +kernel
theorem dX8_empty_1 : decode cX8_empty 1 = .ok (.invokevirtual 166, 3) := by decide +kernel
theorem dX8_empty_4 : decode cX8_empty 4 = .ok (.iconst (-1), 1) := by decide +kernel
theorem dX8_empty_5 : decode cX8_empty 5 = .ok (.istore_n 1, 1) := by decide +kernel
theorem dX8_empty_6 : decode cX8_empty 6 = .ok (.iconst 0, 1) := by decide +kernel
theorem dX8_empty_7 : decode cX8_empty 7 = .ok (.istore_n 2, 1) := by decide +kernel
theorem dX8_empty_8 : decode cX8_empty 8 = .ok (.iload_n 2, 1) := by decide +kernel
theorem dX8_empty_9 : decode cX8_empty 9 = .ok (.sipush 300, 3) := by decide +kernel
theorem dX8_empty_12 : decode cX8_empty 12 = .ok (.if_icmp .gt 30, 3) := by decide +kernel
theorem dX8_empty_15 : decode cX8_empty 15 = .ok (.iload_n 1, 1) := by decide +kernel
theorem dX8_empty_16 : decode cX8_empty 16 = .ok (.ifCond .ge 26, 3) := by decide +kernel
theorem dX8_empty_19 : decode cX8_empty 19 = .ok (.aload_n 0, 1) := by decide +kernel
theorem dX8_empty_20 : decode cX8_empty 20 = .ok (.invokevirtual 175, 3) := by decide +kernel
theorem dX8_empty_23 : decode cX8_empty 23 = .ok (.ifCond .eq 7, 3) := by decide +kernel
theorem dX8_empty_26 : decode cX8_empty 26 = .ok (.iload_n 2, 1) := by decide +kernel
theorem dX8_empty_27 : decode cX8_empty 27 = .ok (.goto 4, 3) := by decide +kernel
theorem dX8_empty_30 : decode cX8_empty 30 = .ok (.iconst (-1), 1) := by decide +kernel
theorem dX8_empty_31 : decode cX8_empty 31 = .ok (.istore_n 1, 1) := by decide +kernel
theorem dX8_empty_32 : decode cX8_empty 32 = .ok (.aload_n 0, 1) := by decide +kernel
theorem dX8_empty_33 : decode cX8_empty 33 = .ok (.invokevirtual 154, 3) := by decide +kernel
theorem dX8_empty_36 : decode cX8_empty 36 = .ok (.iinc 2 1, 3) := by decide +kernel
theorem dX8_empty_39 : decode cX8_empty 39 = .ok (.goto (-31), 3) := by decide +kernel
theorem dX8_empty_42 : decode cX8_empty 42 = .ok (.aload_n 0, 1) := by decide +kernel
theorem dX8_empty_43 : decode cX8_empty 43 = .ok (.invokevirtual 172, 3) := by decide +kernel
theorem dX8_empty_46 : decode cX8_empty 46 = .ok (.iload_n 1, 1) := by decide +kernel
theorem dX8_empty_47 : decode cX8_empty 47 = .ok (.invokestatic 179, 3) := by decide +kernel
theorem dX8_empty_50 : decode cX8_empty 50 = .ok (.ireturn, 1) := by decide +kernel
theorem dX8_thickest_0 : decode cX8_thickest 0 = .ok (.iload_n 1, 1) := by decide +kernel
theorem dX8_thickest_1 : decode cX8_thickest 1 = .ok (.i2l, 1) := by decide +kernel
theorem dX8_thickest_2 : decode cX8_thickest 2 = .ok (.lconst 0, 1) := by decide +kernel
theorem dX8_thickest_3 : decode cX8_thickest 3 = .ok (.ldc2_w 132, 3) := by decide +kernel
theorem dX8_thickest_6 : decode cX8_thickest 6 = .ok (.invokestatic 65, 3) := by decide +kernel
theorem dX8_thickest_9 : decode cX8_thickest 9 = .ok (.ifCond .eq 13, 3) := by decide +kernel
theorem dX8_thickest_12 : decode cX8_thickest 12 = .ok (.iload_n 2, 1) := by decide +kernel
theorem dX8_thickest_13 : decode cX8_thickest 13 = .ok (.i2l, 1) := by decide +kernel
theorem dX8_thickest_14 : decode cX8_thickest 14 = .ok (.lconst 0, 1) := by decide +kernel
theorem dX8_thickest_15 : decode cX8_thickest 15 = .ok (.lconst 1, 1) := by decide +kernel
theorem dX8_thickest_16 : decode cX8_thickest 16 = .ok (.invokestatic 65, 3) := by decide +kernel
theorem dX8_thickest_19 : decode cX8_thickest 19 = .ok (.ifCond .ne 6, 3) := by decide +kernel
theorem dX8_thickest_22 : decode cX8_thickest 22 = .ok (.ldc 84, 2) := by decide +kernel
theorem dX8_thickest_24 : decode cX8_thickest 24 = .ok (.ireturn, 1) := by decide +kernel
theorem dX8_thickest_25 : decode cX8_thickest 25 = .ok (.aload_n 0, 1) := by decide +kernel
theorem dX8_thickest_26 : decode cX8_thickest 26 = .ok (.invokevirtual 166, 3) := by decide +kernel
theorem dX8_thickest_29 : decode cX8_thickest 29 = .ok (.aload_n 0, 1) := by decide +kernel
theorem dX8_thickest_30 : decode cX8_thickest 30 = .ok (.iload_n 1, 1) := by decide +kernel
theorem dX8_thickest_31 : decode cX8_thickest 31 = .ok (.invokevirtual 169, 3) := by decide +kernel
theorem dX8_thickest_34 : decode cX8_thickest 34 = .ok (.iconst 0, 1) := by decide +kernel
theorem dX8_thickest_35 : decode cX8_thickest 35 = .ok (.istore_n 3, 1) := by decide +kernel
theorem dX8_thickest_36 : decode cX8_thickest 36 = .ok (.iconst 1, 1) := by decide +kernel
theorem dX8_thickest_37 : decode cX8_thickest 37 = .ok (.istore 4, 2) := by decide +kernel
theorem dX8_thickest_39 : decode cX8_thickest 39 = .ok (.iload 4, 2) := by decide +kernel
theorem dX8_thickest_41 : decode cX8_thickest 41 = .ok (.bipush 60, 2) := by decide +kernel
theorem dX8_thickest_43 : decode cX8_thickest 43 = .ok (.if_icmp .ge 38, 3) := by decide +kernel
theorem dX8_thickest_46 : decode cX8_thickest 46 = .ok (.aload_n 0, 1) := by decide +kernel
theorem dX8_thickest_47 : decode cX8_thickest 47 = .ok (.getfield 7, 3) := by decide +kernel
theorem dX8_thickest_50 : decode cX8_thickest 50 = .ok (.bipush 11, 2) := by decide +kernel
theorem dX8_thickest_52 : decode cX8_thickest 52 = .ok (.iload 4, 2) := by decide +kernel
theorem dX8_thickest_54 : decode cX8_thickest 54 = .ok (.iadd, 1) := by decide +kernel
theorem dX8_thickest_55 : decode cX8_thickest 55 = .ok (.iaload, 1) := by decide +kernel
theorem dX8_thickest_56 : decode cX8_thickest 56 = .ok (.aload_n 0, 1) := by decide +kernel
theorem dX8_thickest_57 : decode cX8_thickest 57 = .ok (.getfield 7, 3) := by decide +kernel
theorem dX8_thickest_60 : decode cX8_thickest 60 = .ok (.bipush 11, 2) := by decide +kernel
theorem dX8_thickest_62 : decode cX8_thickest 62 = .ok (.iload_n 3, 1) := by decide +kernel
theorem dX8_thickest_63 : decode cX8_thickest 63 = .ok (.iadd, 1) := by decide +kernel
theorem dX8_thickest_64 : decode cX8_thickest 64 = .ok (.iaload, 1) := by decide +kernel
theorem dX8_thickest_65 : decode cX8_thickest 65 = .ok (.if_icmp .le 8, 3) := by decide +kernel
theorem dX8_thickest_68 : decode cX8_thickest 68 = .ok (.iload 4, 2) := by decide +kernel
theorem dX8_thickest_70 : decode cX8_thickest 70 = .ok (.goto 4, 3) := by decide +kernel
theorem dX8_thickest_73 : decode cX8_thickest 73 = .ok (.iload_n 3, 1) := by decide +kernel
theorem dX8_thickest_74 : decode cX8_thickest 74 = .ok (.istore_n 3, 1) := by decide +kernel
theorem dX8_thickest_75 : decode cX8_thickest 75 = .ok (.iinc 4 1, 3) := by decide +kernel
theorem dX8_thickest_78 : decode cX8_thickest 78 = .ok (.goto (-39), 3) := by decide +kernel
theorem dX8_thickest_81 : decode cX8_thickest 81 = .ok (.aload_n 0, 1) := by decide +kernel
theorem dX8_thickest_82 : decode cX8_thickest 82 = .ok (.getfield 7, 3) := by decide +kernel
theorem dX8_thickest_85 : decode cX8_thickest 85 = .ok (.bipush 11, 2) := by decide +kernel
theorem dX8_thickest_87 : decode cX8_thickest 87 = .ok (.iload_n 3, 1) := by decide +kernel
theorem dX8_thickest_88 : decode cX8_thickest 88 = .ok (.iadd, 1) := by decide +kernel
theorem dX8_thickest_89 : decode cX8_thickest 89 = .ok (.iaload, 1) := by decide +kernel
theorem dX8_thickest_90 : decode cX8_thickest 90 = .ok (.istore 4, 2) := by decide +kernel
theorem dX8_thickest_92 : decode cX8_thickest 92 = .ok (.aload_n 0, 1) := by decide +kernel
theorem dX8_thickest_93 : decode cX8_thickest 93 = .ok (.invokevirtual 172, 3) := by decide +kernel
theorem dX8_thickest_96 : decode cX8_thickest 96 = .ok (.iload_n 2, 1) := by decide +kernel
theorem dX8_thickest_97 : decode cX8_thickest 97 = .ok (.ifCond .ne 7, 3) := by decide +kernel
theorem dX8_thickest_100 : decode cX8_thickest 100 = .ok (.iload_n 3, 1) := by decide +kernel
theorem dX8_thickest_101 : decode cX8_thickest 101 = .ok (.goto 5, 3) := by decide +kernel
theorem dX8_thickest_104 : decode cX8_thickest 104 = .ok (.iload 4, 2) := by decide +kernel
theorem dX8_thickest_106 : decode cX8_thickest 106 = .ok (.ireturn, 1) := by decide +kernel
theorem dX8_patch_0 : decode cX8_patch 0 = .ok (.iload_n 1, 1) := by decide +kernel
theorem dX8_patch_1 : decode cX8_patch 1 = .ok (.i2l, 1) := by decide +kernel
theorem dX8_patch_2 : decode cX8_patch 2 = .ok (.lconst 1, 1) := by decide +kernel
theorem dX8_patch_3 : decode cX8_patch 3 = .ok (.ldc2_w 182, 3) := by decide +kernel
theorem dX8_patch_6 : decode cX8_patch 6 = .ok (.invokestatic 65, 3) := by decide +kernel
theorem dX8_patch_9 : decode cX8_patch 9 = .ok (.ifCond .eq 13, 3) := by decide +kernel
theorem dX8_patch_12 : decode cX8_patch 12 = .ok (.iload_n 2, 1) := by decide +kernel
theorem dX8_patch_13 : decode cX8_patch 13 = .ok (.i2l, 1) := by decide +kernel
theorem dX8_patch_14 : decode cX8_patch 14 = .ok (.lconst 0, 1) := by decide +kernel
theorem dX8_patch_15 : decode cX8_patch 15 = .ok (.lconst 1, 1) := by decide +kernel
theorem dX8_patch_16 : decode cX8_patch 16 = .ok (.invokestatic 65, 3) := by decide +kernel
theorem dX8_patch_19 : decode cX8_patch 19 = .ok (.ifCond .ne 6, 3) := by decide +kernel
theorem dX8_patch_22 : decode cX8_patch 22 = .ok (.ldc 84, 2) := by decide +kernel
theorem dX8_patch_24 : decode cX8_patch 24 = .ok (.ireturn, 1) := by decide +kernel
theorem dX8_patch_25 : decode cX8_patch 25 = .ok (.aload_n 0, 1) := by decide +kernel
theorem dX8_patch_26 : decode cX8_patch 26 = .ok (.invokevirtual 166, 3) := by decide +kernel
theorem dX8_patch_29 : decode cX8_patch 29 = .ok (.iconst (-1), 1) := by decide +kernel
theorem dX8_patch_30 : decode cX8_patch 30 = .ok (.istore_n 3, 1) := by decide +kernel
theorem dX8_patch_31 : decode cX8_patch 31 = .ok (.iconst (-1), 1) := by decide +kernel
theorem dX8_patch_32 : decode cX8_patch 32 = .ok (.istore 4, 2) := by decide +kernel
theorem dX8_patch_34 : decode cX8_patch 34 = .ok (.iconst 0, 1) := by decide +kernel
theorem dX8_patch_35 : decode cX8_patch 35 = .ok (.istore 5, 2) := by decide +kernel
theorem dX8_patch_37 : decode cX8_patch 37 = .ok (.iload 5, 2) := by decide +kernel
theorem dX8_patch_39 : decode cX8_patch 39 = .ok (.aload_n 0, 1) := by decide +kernel
theorem dX8_patch_40 : decode cX8_patch 40 = .ok (.getfield 7, 3) := by decide +kernel
theorem dX8_patch_43 : decode cX8_patch 43 = .ok (.iconst 0, 1) := by decide +kernel
theorem dX8_patch_44 : decode cX8_patch 44 = .ok (.iaload, 1) := by decide +kernel
theorem dX8_patch_45 : decode cX8_patch 45 = .ok (.if_icmp .ge 62, 3) := by decide +kernel
theorem dX8_patch_48 : decode cX8_patch 48 = .ok (.aload_n 0, 1) := by decide +kernel
theorem dX8_patch_49 : decode cX8_patch 49 = .ok (.iload 5, 2) := by decide +kernel
theorem dX8_patch_51 : decode cX8_patch 51 = .ok (.iconst 0, 1) := by decide +kernel
theorem dX8_patch_52 : decode cX8_patch 52 = .ok (.iconst 1, 1) := by decide +kernel
theorem dX8_patch_53 : decode cX8_patch 53 = .ok (.invokevirtual 72, 3) := by decide +kernel
theorem dX8_patch_56 : decode cX8_patch 56 = .ok (.aload_n 0, 1) := by decide +kernel
theorem dX8_patch_57 : decode cX8_patch 57 = .ok (.iload_n 1, 1) := by decide +kernel
theorem dX8_patch_58 : decode cX8_patch 58 = .ok (.invokevirtual 169, 3) := by decide +kernel
theorem dX8_patch_61 : decode cX8_patch 61 = .ok (.aload_n 0, 1) := by decide +kernel
theorem dX8_patch_62 : decode cX8_patch 62 = .ok (.invokevirtual 160, 3) := by decide +kernel
theorem dX8_patch_65 : decode cX8_patch 65 = .ok (.istore 6, 2) := by decide +kernel
theorem dX8_patch_67 : decode cX8_patch 67 = .ok (.aload_n 0, 1) := by decide +kernel
theorem dX8_patch_68 : decode cX8_patch 68 = .ok (.invokevirtual 172, 3) := by decide +kernel
theorem dX8_patch_71 : decode cX8_patch 71 = .ok (.iload 6, 2) := by decide +kernel
theorem dX8_patch_73 : decode cX8_patch 73 = .ok (.iload 4, 2) := by decide +kernel
theorem dX8_patch_75 : decode cX8_patch 75 = .ok (.if_icmp .le 8, 3) := by decide +kernel
theorem dX8_patch_78 : decode cX8_patch 78 = .ok (.iload 5, 2) := by decide +kernel
theorem dX8_patch_80 : decode cX8_patch 80 = .ok (.goto 4, 3) := by decide +kernel
theorem dX8_patch_83 : decode cX8_patch 83 = .ok (.iload_n 3, 1) := by decide +kernel
theorem dX8_patch_84 : decode cX8_patch 84 = .ok (.istore_n 3, 1) := by decide +kernel
theorem dX8_patch_85 : decode cX8_patch 85 = .ok (.iload 6, 2) := by decide +kernel
theorem dX8_patch_87 : decode cX8_patch 87 = .ok (.iload 4, 2) := by decide +kernel
theorem dX8_patch_89 : decode cX8_patch 89 = .ok (.if_icmp .le 8, 3) := by decide +kernel
theorem dX8_patch_92 : decode cX8_patch 92 = .ok (.iload 6, 2) := by decide +kernel
theorem dX8_patch_94 : decode cX8_patch 94 = .ok (.goto 5, 3) := by decide +kernel
theorem dX8_patch_97 : decode cX8_patch 97 = .ok (.iload 4, 2) := by decide +kernel
theorem dX8_patch_99 : decode cX8_patch 99 = .ok (.istore 4, 2) := by decide +kernel
theorem dX8_patch_101 : decode cX8_patch 101 = .ok (.iinc 5 1, 3) := by decide +kernel
theorem dX8_patch_104 : decode cX8_patch 104 = .ok (.goto (-67), 3) := by decide +kernel
theorem dX8_patch_107 : decode cX8_patch 107 = .ok (.iload_n 3, 1) := by decide +kernel
theorem dX8_patch_108 : decode cX8_patch 108 = .ok (.ifCond .ge 8, 3) := by decide +kernel
theorem dX8_patch_111 : decode cX8_patch 111 = .ok (.ldc 64, 2) := by decide +kernel
theorem dX8_patch_113 : decode cX8_patch 113 = .ok (.goto 13, 3) := by decide +kernel
theorem dX8_patch_116 : decode cX8_patch 116 = .ok (.iload_n 2, 1) := by decide +kernel
theorem dX8_patch_117 : decode cX8_patch 117 = .ok (.ifCond .ne 7, 3) := by decide +kernel
theorem dX8_patch_120 : decode cX8_patch 120 = .ok (.iload_n 3, 1) := by decide +kernel
theorem dX8_patch_121 : decode cX8_patch 121 = .ok (.goto 5, 3) := by decide +kernel
theorem dX8_patch_124 : decode cX8_patch 124 = .ok (.iload 4, 2) := by decide +kernel
theorem dX8_patch_126 : decode cX8_patch 126 = .ok (.ireturn, 1) := by decide +kernel
theorem dX8_pan_0 : decode cX8_pan 0 = .ok (.iload_n 1, 1) := by decide +kernel
theorem dX8_pan_1 : decode cX8_pan 1 = .ok (.i2l, 1) := by decide +kernel
theorem dX8_pan_2 : decode cX8_pan 2 = .ok (.lconst 0, 1) := by decide +kernel
theorem dX8_pan_3 : decode cX8_pan 3 = .ok (.ldc2_w 78, 3) := by decide +kernel
theorem dX8_pan_6 : decode cX8_pan 6 = .ok (.invokestatic 65, 3) := by decide +kernel
theorem dX8_pan_9 : decode cX8_pan 9 = .ok (.ifCond .eq 15, 3) := by decide +kernel
theorem dX8_pan_12 : decode cX8_pan 12 = .ok (.iload_n 2, 1) := by decide +kernel
theorem dX8_pan_13 : decode cX8_pan 13 = .ok (.i2l, 1) := by decide +kernel
theorem dX8_pan_14 : decode cX8_pan 14 = .ok (.lconst 1, 1) := by decide +kernel
theorem dX8_pan_15 : decode cX8_pan 15 = .ok (.ldc2_w 182, 3) := by decide +kernel
theorem dX8_pan_18 : decode cX8_pan 18 = .ok (.invokestatic 65, 3) := by decide +kernel
theorem dX8_pan_21 : decode cX8_pan 21 = .ok (.ifCond .ne 6, 3) := by decide +kernel
theorem dX8_pan_24 : decode cX8_pan 24 = .ok (.ldc 84, 2) := by decide +kernel
theorem dX8_pan_26 : decode cX8_pan 26 = .ok (.ireturn, 1) := by decide +kernel
theorem dX8_pan_27 : decode cX8_pan 27 = .ok (.aload_n 0, 1) := by decide +kernel
theorem dX8_pan_28 : decode cX8_pan 28 = .ok (.invokevirtual 166, 3) := by decide +kernel
theorem dX8_pan_31 : decode cX8_pan 31 = .ok (.iconst 0, 1) := by decide +kernel
theorem dX8_pan_32 : decode cX8_pan 32 = .ok (.istore_n 3, 1) := by decide +kernel
theorem dX8_pan_33 : decode cX8_pan 33 = .ok (.iconst 1, 1) := by decide +kernel
theorem dX8_pan_34 : decode cX8_pan 34 = .ok (.istore 4, 2) := by decide +kernel
theorem dX8_pan_36 : decode cX8_pan 36 = .ok (.iload 4, 2) := by decide +kernel
theorem dX8_pan_38 : decode cX8_pan 38 = .ok (.iload_n 2, 1) := by decide +kernel
theorem dX8_pan_39 : decode cX8_pan 39 = .ok (.if_icmp .gt 33, 3) := by decide +kernel
theorem dX8_pan_42 : decode cX8_pan 42 = .ok (.aload_n 0, 1) := by decide +kernel
theorem dX8_pan_43 : decode cX8_pan 43 = .ok (.invokevirtual 154, 3) := by decide +kernel
theorem dX8_pan_46 : decode cX8_pan 46 = .ok (.iload_n 3, 1) := by decide +kernel
theorem dX8_pan_47 : decode cX8_pan 47 = .ok (.aload_n 0, 1) := by decide +kernel
theorem dX8_pan_48 : decode cX8_pan 48 = .ok (.bipush 11, 2) := by decide +kernel
theorem dX8_pan_50 : decode cX8_pan 50 = .ok (.iload_n 1, 1) := by decide +kernel
theorem dX8_pan_51 : decode cX8_pan 51 = .ok (.iload 4, 2) := by decide +kernel
theorem dX8_pan_53 : decode cX8_pan 53 = .ok (.imul, 1) := by decide +kernel
theorem dX8_pan_54 : decode cX8_pan 54 = .ok (.bipush 59, 2) := by decide +kernel
theorem dX8_pan_56 : decode cX8_pan 56 = .ok (.invokestatic 101, 3) := by decide +kernel
theorem dX8_pan_59 : decode cX8_pan 59 = .ok (.iadd, 1) := by decide +kernel
theorem dX8_pan_60 : decode cX8_pan 60 = .ok (.iconst 0, 1) := by decide +kernel
theorem dX8_pan_61 : decode cX8_pan 61 = .ok (.invokevirtual 122, 3) := by decide +kernel
theorem dX8_pan_64 : decode cX8_pan 64 = .ok (.iadd, 1) := by decide +kernel
theorem dX8_pan_65 : decode cX8_pan 65 = .ok (.istore_n 3, 1) := by decide +kernel
theorem dX8_pan_66 : decode cX8_pan 66 = .ok (.iinc 4 1, 3) := by decide +kernel
theorem dX8_pan_69 : decode cX8_pan 69 = .ok (.goto (-33), 3) := by decide +kernel
theorem dX8_pan_72 : decode cX8_pan 72 = .ok (.aload_n 0, 1) := by decide +kernel
theorem dX8_pan_73 : decode cX8_pan 73 = .ok (.invokevirtual 172, 3) := by decide +kernel
theorem dX8_pan_76 : decode cX8_pan 76 = .ok (.iload_n 3, 1) := by decide +kernel
theorem dX8_pan_77 : decode cX8_pan 77 = .ok (.ireturn, 1) := by decide +kernel
theorem dX8_fee_0 : decode cX8_fee 0 = .ok (.aload_n 0, 1) := by decide +kernel
theorem dX8_fee_1 : decode cX8_fee 1 = .ok (.iconst 1, 1) := by decide +kernel
theorem dX8_fee_2 : decode cX8_fee 2 = .ok (.invokevirtual 94, 3) := by decide +kernel
theorem dX8_fee_5 : decode cX8_fee 5 = .ok (.istore_n 1, 1) := by decide +kernel
theorem dX8_fee_6 : decode cX8_fee 6 = .ok (.iload_n 1, 1) := by decide +kernel
theorem dX8_fee_7 : decode cX8_fee 7 = .ok (.ifCond .ge 10, 3) := by decide +kernel
theorem dX8_fee_10 : decode cX8_fee 10 = .ok (.aload_n 0, 1) := by decide +kernel
theorem dX8_fee_11 : decode cX8_fee 11 = .ok (.getfield 7, 3) := by decide +kernel
theorem dX8_fee_14 : decode cX8_fee 14 = .ok (.iconst 4, 1) := by decide +kernel
theorem dX8_fee_15 : decode cX8_fee 15 = .ok (.iaload, 1) := by decide +kernel
theorem dX8_fee_16 : decode cX8_fee 16 = .ok (.ireturn, 1) := by decide +kernel
theorem dX8_fee_17 : decode cX8_fee 17 = .ok (.aload_n 0, 1) := by decide +kernel
theorem dX8_fee_18 : decode cX8_fee 18 = .ok (.getfield 49, 3) := by decide +kernel
theorem dX8_fee_21 : decode cX8_fee 21 = .ok (.bipush 101, 2) := by decide +kernel
theorem dX8_fee_23 : decode cX8_fee 23 = .ok (.aload_n 0, 1) := by decide +kernel
theorem dX8_fee_24 : decode cX8_fee 24 = .ok (.getfield 7, 3) := by decide +kernel
theorem dX8_fee_27 : decode cX8_fee 27 = .ok (.iconst 4, 1) := by decide +kernel
theorem dX8_fee_28 : decode cX8_fee 28 = .ok (.iaload, 1) := by decide +kernel
theorem dX8_fee_29 : decode cX8_fee 29 = .ok (.iastore, 1) := by decide +kernel
theorem dX8_fee_30 : decode cX8_fee 30 = .ok (.aload_n 0, 1) := by decide +kernel
theorem dX8_fee_31 : decode cX8_fee 31 = .ok (.getfield 49, 3) := by decide +kernel
theorem dX8_fee_34 : decode cX8_fee 34 = .ok (.bipush 98, 2) := by decide +kernel
theorem dX8_fee_36 : decode cX8_fee 36 = .ok (.aload_n 0, 1) := by decide +kernel
theorem dX8_fee_37 : decode cX8_fee 37 = .ok (.getfield 7, 3) := by decide +kernel
theorem dX8_fee_40 : decode cX8_fee 40 = .ok (.iconst 5, 1) := by decide +kernel
theorem dX8_fee_41 : decode cX8_fee 41 = .ok (.iaload, 1) := by decide +kernel
theorem dX8_fee_42 : decode cX8_fee 42 = .ok (.iastore, 1) := by decide +kernel
theorem dX8_fee_43 : decode cX8_fee 43 = .ok (.aload_n 0, 1) := by decide +kernel
theorem dX8_fee_44 : decode cX8_fee 44 = .ok (.iload_n 1, 1) := by decide +kernel
theorem dX8_fee_45 : decode cX8_fee 45 = .ok (.invokevirtual 98, 3) := by decide +kernel
theorem dX8_fee_48 : decode cX8_fee 48 = .ok (.ireturn, 1) := by decide +kernel
theorem dX8_fine_0 : decode cX8_fine 0 = .ok (.aload_n 0, 1) := by decide +kernel
theorem dX8_fine_1 : decode cX8_fine 1 = .ok (.iload_n 1, 1) := by decide +kernel
theorem dX8_fine_2 : decode cX8_fine 2 = .ok (.invokevirtual 104, 3) := by decide +kernel
theorem dX8_fine_5 : decode cX8_fine 5 = .ok (.ifCond .ne 6, 3) := by decide +kernel
theorem dX8_fine_8 : decode cX8_fine 8 = .ok (.ldc 84, 2) := by decide +kernel
theorem dX8_fine_10 : decode cX8_fine 10 = .ok (.ireturn, 1) := by decide +kernel
theorem dX8_fine_11 : decode cX8_fine 11 = .ok (.aload_n 0, 1) := by decide +kernel
theorem dX8_fine_12 : decode cX8_fine 12 = .ok (.iconst 2, 1) := by decide +kernel
theorem dX8_fine_13 : decode cX8_fine 13 = .ok (.invokevirtual 94, 3) := by decide +kernel
theorem dX8_fine_16 : decode cX8_fine 16 = .ok (.istore_n 2, 1) := by decide +kernel
theorem dX8_fine_17 : decode cX8_fine 17 = .ok (.iload_n 2, 1) := by decide +kernel
theorem dX8_fine_18 : decode cX8_fine 18 = .ok (.ifCond .ge 10, 3) := by decide +kernel
theorem dX8_fine_21 : decode cX8_fine 21 = .ok (.aload_n 0, 1) := by decide +kernel
theorem dX8_fine_22 : decode cX8_fine 22 = .ok (.iload_n 1, 1) := by decide +kernel
theorem dX8_fine_23 : decode cX8_fine 23 = .ok (.iconst 3, 1) := by decide +kernel
theorem dX8_fine_24 : decode cX8_fine 24 = .ok (.invokevirtual 90, 3) := by decide +kernel
theorem dX8_fine_27 : decode cX8_fine 27 = .ok (.ireturn, 1) := by decide +kernel
theorem dX8_fine_28 : decode cX8_fine 28 = .ok (.aload_n 0, 1) := by decide +kernel
theorem dX8_fine_29 : decode cX8_fine 29 = .ok (.getfield 49, 3) := by decide +kernel
theorem dX8_fine_32 : decode cX8_fine 32 = .ok (.bipush 103, 2) := by decide +kernel
theorem dX8_fine_34 : decode cX8_fine 34 = .ok (.aload_n 0, 1) := by decide +kernel
theorem dX8_fine_35 : decode cX8_fine 35 = .ok (.iload_n 1, 1) := by decide +kernel
theorem dX8_fine_36 : decode cX8_fine 36 = .ok (.iconst 3, 1) := by decide +kernel
theorem dX8_fine_37 : decode cX8_fine 37 = .ok (.invokevirtual 90, 3) := by decide +kernel
theorem dX8_fine_40 : decode cX8_fine 40 = .ok (.iastore, 1) := by decide +kernel
theorem dX8_fine_41 : decode cX8_fine 41 = .ok (.aload_n 0, 1) := by decide +kernel
theorem dX8_fine_42 : decode cX8_fine 42 = .ok (.getfield 49, 3) := by decide +kernel
theorem dX8_fine_45 : decode cX8_fine 45 = .ok (.bipush 121, 2) := by decide +kernel
theorem dX8_fine_47 : decode cX8_fine 47 = .ok (.aload_n 0, 1) := by decide +kernel
theorem dX8_fine_48 : decode cX8_fine 48 = .ok (.iload_n 1, 1) := by decide +kernel
theorem dX8_fine_49 : decode cX8_fine 49 = .ok (.iconst 2, 1) := by decide +kernel
theorem dX8_fine_50 : decode cX8_fine 50 = .ok (.invokevirtual 90, 3) := by decide +kernel
theorem dX8_fine_53 : decode cX8_fine 53 = .ok (.iastore, 1) := by decide +kernel
theorem dX8_fine_54 : decode cX8_fine 54 = .ok (.aload_n 0, 1) := by decide +kernel
theorem dX8_fine_55 : decode cX8_fine 55 = .ok (.iload_n 2, 1) := by decide +kernel
theorem dX8_fine_56 : decode cX8_fine 56 = .ok (.invokevirtual 98, 3) := by decide +kernel
theorem dX8_fine_59 : decode cX8_fine 59 = .ok (.ireturn, 1) := by decide +kernel
theorem dX8_feed_0 : decode cX8_feed 0 = .ok (.aload_n 0, 1) := by decide +kernel
theorem dX8_feed_1 : decode cX8_feed 1 = .ok (.getfield 184, 3) := by decide +kernel
theorem dX8_feed_4 : decode cX8_feed 4 = .ok (.bipush 12, 2) := by decide +kernel
theorem dX8_feed_6 : decode cX8_feed 6 = .ok (.iadd, 1) := by decide +kernel
theorem dX8_feed_7 : decode cX8_feed 7 = .ok (.bipush 96, 2) := by decide +kernel
theorem dX8_feed_9 : decode cX8_feed 9 = .ok (.if_icmp .le 6, 3) := by decide +kernel
theorem dX8_feed_12 : decode cX8_feed 12 = .ok (.ldc 85, 2) := by decide +kernel
theorem dX8_feed_14 : decode cX8_feed 14 = .ok (.ireturn, 1) := by decide +kernel
theorem dX8_feed_15 : decode cX8_feed 15 = .ok (.iconst 0, 1) := by decide +kernel
theorem dX8_feed_16 : decode cX8_feed 16 = .ok (.istore 4, 2) := by decide +kernel
theorem dX8_feed_18 : decode cX8_feed 18 = .ok (.iload 4, 2) := by decide +kernel
theorem dX8_feed_20 : decode cX8_feed 20 = .ok (.bipush 12, 2) := by decide +kernel
theorem dX8_feed_22 : decode cX8_feed 22 = .ok (.if_icmp .ge 69, 3) := by decide +kernel
theorem dX8_feed_25 : decode cX8_feed 25 = .ok (.iload 4, 2) := by decide +kernel
theorem dX8_feed_27 : decode cX8_feed 27 = .ok (.iconst 4, 1) := by decide +kernel
theorem dX8_feed_28 : decode cX8_feed 28 = .ok (.if_icmp .ge 7, 3) := by decide +kernel
theorem dX8_feed_31 : decode cX8_feed 31 = .ok (.iload_n 1, 1) := by decide +kernel
theorem dX8_feed_32 : decode cX8_feed 32 = .ok (.goto 15, 3) := by decide +kernel
theorem dX8_feed_35 : decode cX8_feed 35 = .ok (.iload 4, 2) := by decide +kernel
theorem dX8_feed_37 : decode cX8_feed 37 = .ok (.bipush 8, 2) := by decide +kernel
theorem dX8_feed_39 : decode cX8_feed 39 = .ok (.if_icmp .ge 7, 3) := by decide +kernel
theorem dX8_feed_42 : decode cX8_feed 42 = .ok (.iload_n 2, 1) := by decide +kernel
theorem dX8_feed_43 : decode cX8_feed 43 = .ok (.goto 4, 3) := by decide +kernel
theorem dX8_feed_46 : decode cX8_feed 46 = .ok (.iload_n 3, 1) := by decide +kernel
theorem dX8_feed_47 : decode cX8_feed 47 = .ok (.istore 5, 2) := by decide +kernel
theorem dX8_feed_49 : decode cX8_feed 49 = .ok (.aload_n 0, 1) := by decide +kernel
theorem dX8_feed_50 : decode cX8_feed 50 = .ok (.getfield 46, 3) := by decide +kernel
theorem dX8_feed_53 : decode cX8_feed 53 = .ok (.aload_n 0, 1) := by decide +kernel
theorem dX8_feed_54 : decode cX8_feed 54 = .ok (.getfield 184, 3) := by decide +kernel
theorem dX8_feed_57 : decode cX8_feed 57 = .ok (.iload 5, 2) := by decide +kernel
theorem dX8_feed_59 : decode cX8_feed 59 = .ok (.bipush 24, 2) := by decide +kernel
theorem dX8_feed_61 : decode cX8_feed 61 = .ok (.bipush 8, 2) := by decide +kernel
theorem dX8_feed_63 : decode cX8_feed 63 = .ok (.iload 4, 2) := by decide +kernel
theorem dX8_feed_65 : decode cX8_feed 65 = .ok (.iconst 4, 1) := by decide +kernel
theorem dX8_feed_66 : decode cX8_feed 66 = .ok (.irem, 1) := by decide +kernel
theorem dX8_feed_67 : decode cX8_feed 67 = .ok (.imul, 1) := by decide +kernel
theorem dX8_feed_68 : decode cX8_feed 68 = .ok (.isub, 1) := by decide +kernel
theorem dX8_feed_69 : decode cX8_feed 69 = .ok (.ishr, 1) := by decide +kernel
theorem dX8_feed_70 : decode cX8_feed 70 = .ok (.sipush 255, 3) := by decide +kernel
theorem dX8_feed_73 : decode cX8_feed 73 = .ok (.iand, 1) := by decide +kernel
theorem dX8_feed_74 : decode cX8_feed 74 = .ok (.iastore, 1) := by decide +kernel
theorem dX8_feed_75 : decode cX8_feed 75 = .ok (.aload_n 0, 1) := by decide +kernel
theorem dX8_feed_76 : decode cX8_feed 76 = .ok (.dup, 1) := by decide +kernel
theorem dX8_feed_77 : decode cX8_feed 77 = .ok (.getfield 184, 3) := by decide +kernel
theorem dX8_feed_80 : decode cX8_feed 80 = .ok (.iconst 1, 1) := by decide +kernel
theorem dX8_feed_81 : decode cX8_feed 81 = .ok (.iadd, 1) := by decide +kernel
theorem dX8_feed_82 : decode cX8_feed 82 = .ok (.putfield 184, 3) := by decide +kernel
theorem dX8_feed_85 : decode cX8_feed 85 = .ok (.iinc 4 1, 3) := by decide +kernel
theorem dX8_feed_88 : decode cX8_feed 88 = .ok (.goto (-70), 3) := by decide +kernel
theorem dX8_feed_91 : decode cX8_feed 91 = .ok (.aload_n 0, 1) := by decide +kernel
theorem dX8_feed_92 : decode cX8_feed 92 = .ok (.getfield 184, 3) := by decide +kernel
theorem dX8_feed_95 : decode cX8_feed 95 = .ok (.ireturn, 1) := by decide +kernel
theorem dX8_trim_0 : decode cX8_trim 0 = .ok (.iload_n 1, 1) := by decide +kernel
theorem dX8_trim_1 : decode cX8_trim 1 = .ok (.i2l, 1) := by decide +kernel
theorem dX8_trim_2 : decode cX8_trim 2 = .ok (.lconst 0, 1) := by decide +kernel
theorem dX8_trim_3 : decode cX8_trim 3 = .ok (.aload_n 0, 1) := by decide +kernel
theorem dX8_trim_4 : decode cX8_trim 4 = .ok (.getfield 184, 3) := by decide +kernel
theorem dX8_trim_7 : decode cX8_trim 7 = .ok (.i2l, 1) := by decide +kernel
theorem dX8_trim_8 : decode cX8_trim 8 = .ok (.invokestatic 65, 3) := by decide +kernel
theorem dX8_trim_11 : decode cX8_trim 11 = .ok (.ifCond .ne 6, 3) := by decide +kernel
theorem dX8_trim_14 : decode cX8_trim 14 = .ok (.ldc 84, 2) := by decide +kernel
theorem dX8_trim_16 : decode cX8_trim 16 = .ok (.ireturn, 1) := by decide +kernel
theorem dX8_trim_17 : decode cX8_trim 17 = .ok (.aload_n 0, 1) := by decide +kernel
theorem dX8_trim_18 : decode cX8_trim 18 = .ok (.iload_n 1, 1) := by decide +kernel
theorem dX8_trim_19 : decode cX8_trim 19 = .ok (.putfield 184, 3) := by decide +kernel
theorem dX8_trim_22 : decode cX8_trim 22 = .ok (.iload_n 1, 1) := by decide +kernel
theorem dX8_trim_23 : decode cX8_trim 23 = .ok (.ireturn, 1) := by decide +kernel
theorem dX8_isLetter_0 : decode cX8_isLetter 0 = .ok (.iload_n 1, 1) := by decide +kernel
theorem dX8_isLetter_1 : decode cX8_isLetter 1 = .ok (.aload_n 0, 1) := by decide +kernel
theorem dX8_isLetter_2 : decode cX8_isLetter 2 = .ok (.getfield 184, 3) := by decide +kernel
theorem dX8_isLetter_5 : decode cX8_isLetter 5 = .ok (.if_icmp .ge 26, 3) := by decide +kernel
theorem dX8_isLetter_8 : decode cX8_isLetter 8 = .ok (.aload_n 0, 1) := by decide +kernel
theorem dX8_isLetter_9 : decode cX8_isLetter 9 = .ok (.getfield 46, 3) := by decide +kernel
theorem dX8_isLetter_12 : decode cX8_isLetter 12 = .ok (.iload_n 1, 1) := by decide +kernel
theorem dX8_isLetter_13 : decode cX8_isLetter 13 = .ok (.iaload, 1) := by decide +kernel
theorem dX8_isLetter_14 : decode cX8_isLetter 14 = .ok (.i2l, 1) := by decide +kernel
theorem dX8_isLetter_15 : decode cX8_isLetter 15 = .ok (.ldc2_w 188, 3) := by decide +kernel
theorem dX8_isLetter_18 : decode cX8_isLetter 18 = .ok (.ldc2_w 190, 3) := by decide +kernel
theorem dX8_isLetter_21 : decode cX8_isLetter 21 = .ok (.invokestatic 65, 3) := by decide +kernel
theorem dX8_isLetter_24 : decode cX8_isLetter 24 = .ok (.ifCond .eq 7, 3) := by decide +kernel
theorem dX8_isLetter_27 : decode cX8_isLetter 27 = .ok (.iconst 1, 1) := by decide +kernel
theorem dX8_isLetter_28 : decode cX8_isLetter 28 = .ok (.goto 4, 3) := by decide +kernel
theorem dX8_isLetter_31 : decode cX8_isLetter 31 = .ok (.iconst 0, 1) := by decide +kernel
theorem dX8_isLetter_32 : decode cX8_isLetter 32 = .ok (.ireturn, 1) := by decide +kernel
theorem dX8_isDigit_0 : decode cX8_isDigit 0 = .ok (.iload_n 1, 1) := by decide +kernel
theorem dX8_isDigit_1 : decode cX8_isDigit 1 = .ok (.aload_n 0, 1) := by decide +kernel
theorem dX8_isDigit_2 : decode cX8_isDigit 2 = .ok (.getfield 184, 3) := by decide +kernel
theorem dX8_isDigit_5 : decode cX8_isDigit 5 = .ok (.if_icmp .ge 26, 3) := by decide +kernel
theorem dX8_isDigit_8 : decode cX8_isDigit 8 = .ok (.aload_n 0, 1) := by decide +kernel
theorem dX8_isDigit_9 : decode cX8_isDigit 9 = .ok (.getfield 46, 3) := by decide +kernel
theorem dX8_isDigit_12 : decode cX8_isDigit 12 = .ok (.iload_n 1, 1) := by decide +kernel
theorem dX8_isDigit_13 : decode cX8_isDigit 13 = .ok (.iaload, 1) := by decide +kernel
theorem dX8_isDigit_14 : decode cX8_isDigit 14 = .ok (.i2l, 1) := by decide +kernel
theorem dX8_isDigit_15 : decode cX8_isDigit 15 = .ok (.ldc2_w 192, 3) := by decide +kernel
theorem dX8_isDigit_18 : decode cX8_isDigit 18 = .ok (.ldc2_w 194, 3) := by decide +kernel
theorem dX8_isDigit_21 : decode cX8_isDigit 21 = .ok (.invokestatic 65, 3) := by decide +kernel
theorem dX8_isDigit_24 : decode cX8_isDigit 24 = .ok (.ifCond .eq 7, 3) := by decide +kernel
theorem dX8_isDigit_27 : decode cX8_isDigit 27 = .ok (.iconst 1, 1) := by decide +kernel
theorem dX8_isDigit_28 : decode cX8_isDigit 28 = .ok (.goto 4, 3) := by decide +kernel
theorem dX8_isDigit_31 : decode cX8_isDigit 31 = .ok (.iconst 0, 1) := by decide +kernel
theorem dX8_isDigit_32 : decode cX8_isDigit 32 = .ok (.ireturn, 1) := by decide +kernel
theorem dX8_nextToken_0 : decode cX8_nextToken 0 = .ok (.aload_n 0, 1) := by decide +kernel
theorem dX8_nextToken_1 : decode cX8_nextToken 1 = .ok (.getfield 196, 3) := by decide +kernel
theorem dX8_nextToken_4 : decode cX8_nextToken 4 = .ok (.ifCond .le 23, 3) := by decide +kernel
theorem dX8_nextToken_7 : decode cX8_nextToken 7 = .ok (.aload_n 0, 1) := by decide +kernel
theorem dX8_nextToken_8 : decode cX8_nextToken 8 = .ok (.getfield 199, 3) := by decide +kernel
theorem dX8_nextToken_11 : decode cX8_nextToken 11 = .ok (.iconst 1, 1) := by decide +kernel
theorem dX8_nextToken_12 : decode cX8_nextToken 12 = .ok (.if_icmp .eq 11, 3) := by decide +kernel
theorem dX8_nextToken_15 : decode cX8_nextToken 15 = .ok (.aload_n 0, 1) := by decide +kernel
theorem dX8_nextToken_16 : decode cX8_nextToken 16 = .ok (.getfield 199, 3) := by decide +kernel
theorem dX8_nextToken_19 : decode cX8_nextToken 19 = .ok (.iconst 2, 1) := by decide +kernel
theorem dX8_nextToken_20 : decode cX8_nextToken 20 = .ok (.if_icmp .ne 7, 3) := by decide +kernel
theorem dX8_nextToken_23 : decode cX8_nextToken 23 = .ok (.iconst 1, 1) := by decide +kernel
theorem dX8_nextToken_24 : decode cX8_nextToken 24 = .ok (.goto 4, 3) := by decide +kernel
theorem dX8_nextToken_27 : decode cX8_nextToken 27 = .ok (.iconst 0, 1) := by decide +kernel
theorem dX8_nextToken_28 : decode cX8_nextToken 28 = .ok (.istore_n 1, 1) := by decide +kernel
theorem dX8_nextToken_29 : decode cX8_nextToken 29 = .ok (.aload_n 0, 1) := by decide +kernel
theorem dX8_nextToken_30 : decode cX8_nextToken 30 = .ok (.getfield 196, 3) := by decide +kernel
theorem dX8_nextToken_33 : decode cX8_nextToken 33 = .ok (.istore_n 2, 1) := by decide +kernel
theorem dX8_nextToken_34 : decode cX8_nextToken 34 = .ok (.aload_n 0, 1) := by decide +kernel
theorem dX8_nextToken_35 : decode cX8_nextToken 35 = .ok (.getfield 196, 3) := by decide +kernel
theorem dX8_nextToken_38 : decode cX8_nextToken 38 = .ok (.aload_n 0, 1) := by decide +kernel
theorem dX8_nextToken_39 : decode cX8_nextToken 39 = .ok (.getfield 184, 3) := by decide +kernel
theorem dX8_nextToken_42 : decode cX8_nextToken 42 = .ok (.if_icmp .ge 30, 3) := by decide +kernel
theorem dX8_nextToken_45 : decode cX8_nextToken 45 = .ok (.aload_n 0, 1) := by decide +kernel
theorem dX8_nextToken_46 : decode cX8_nextToken 46 = .ok (.getfield 46, 3) := by decide +kernel
theorem dX8_nextToken_49 : decode cX8_nextToken 49 = .ok (.aload_n 0, 1) := by decide +kernel
theorem dX8_nextToken_50 : decode cX8_nextToken 50 = .ok (.getfield 196, 3) := by decide +kernel
theorem dX8_nextToken_53 : decode cX8_nextToken 53 = .ok (.iaload, 1) := by decide +kernel
theorem dX8_nextToken_54 : decode cX8_nextToken 54 = .ok (.bipush 32, 2) := by decide +kernel
theorem dX8_nextToken_56 : decode cX8_nextToken 56 = .ok (.if_icmp .ne 16, 3) := by decide +kernel
theorem dX8_nextToken_59 : decode cX8_nextToken 59 = .ok (.aload_n 0, 1) := by decide +kernel
theorem dX8_nextToken_60 : decode cX8_nextToken 60 = .ok (.dup, 1) := by decide +kernel
theorem dX8_nextToken_61 : decode cX8_nextToken 61 = .ok (.getfield 196, 3) := by decide +kernel
theorem dX8_nextToken_64 : decode cX8_nextToken 64 = .ok (.iconst 1, 1) := by decide +kernel
theorem dX8_nextToken_65 : decode cX8_nextToken 65 = .ok (.iadd, 1) := by decide +kernel
theorem dX8_nextToken_66 : decode cX8_nextToken 66 = .ok (.putfield 196, 3) := by decide +kernel
theorem dX8_nextToken_69 : decode cX8_nextToken 69 = .ok (.goto (-35), 3) := by decide +kernel
theorem dX8_nextToken_72 : decode cX8_nextToken 72 = .ok (.iload_n 1, 1) := by decide +kernel
theorem dX8_nextToken_73 : decode cX8_nextToken 73 = .ok (.ifCond .eq 15, 3) := by decide +kernel
theorem dX8_nextToken_76 : decode cX8_nextToken 76 = .ok (.iload_n 2, 1) := by decide +kernel
theorem dX8_nextToken_77 : decode cX8_nextToken 77 = .ok (.aload_n 0, 1) := by decide +kernel
theorem dX8_nextToken_78 : decode cX8_nextToken 78 = .ok (.getfield 196, 3) := by decide +kernel
theorem dX8_nextToken_81 : decode cX8_nextToken 81 = .ok (.if_icmp .ne 7, 3) := by decide +kernel
theorem dX8_nextToken_84 : decode cX8_nextToken 84 = .ok (.iconst 1, 1) := by decide +kernel
theorem dX8_nextToken_85 : decode cX8_nextToken 85 = .ok (.goto 4, 3) := by decide +kernel
theorem dX8_nextToken_88 : decode cX8_nextToken 88 = .ok (.iconst 0, 1) := by decide +kernel
theorem dX8_nextToken_89 : decode cX8_nextToken 89 = .ok (.istore_n 1, 1) := by decide +kernel
theorem dX8_nextToken_90 : decode cX8_nextToken 90 = .ok (.aload_n 0, 1) := by decide +kernel
theorem dX8_nextToken_91 : decode cX8_nextToken 91 = .ok (.aload_n 0, 1) := by decide +kernel
theorem dX8_nextToken_92 : decode cX8_nextToken 92 = .ok (.getfield 196, 3) := by decide +kernel
theorem dX8_nextToken_95 : decode cX8_nextToken 95 = .ok (.putfield 202, 3) := by decide +kernel
theorem dX8_nextToken_98 : decode cX8_nextToken 98 = .ok (.aload_n 0, 1) := by decide +kernel
theorem dX8_nextToken_99 : decode cX8_nextToken 99 = .ok (.getfield 202, 3) := by decide +kernel
theorem dX8_nextToken_102 : decode cX8_nextToken 102 = .ok (.aload_n 0, 1) := by decide +kernel
theorem dX8_nextToken_103 : decode cX8_nextToken 103 = .ok (.getfield 184, 3) := by decide +kernel
theorem dX8_nextToken_106 : decode cX8_nextToken 106 = .ok (.if_icmp .ne 11, 3) := by decide +kernel
theorem dX8_nextToken_109 : decode cX8_nextToken 109 = .ok (.aload_n 0, 1) := by decide +kernel
theorem dX8_nextToken_110 : decode cX8_nextToken 110 = .ok (.iconst 0, 1) := by decide +kernel
theorem dX8_nextToken_111 : decode cX8_nextToken 111 = .ok (.putfield 199, 3) := by decide +kernel
theorem dX8_nextToken_114 : decode cX8_nextToken 114 = .ok (.goto 225, 3) := by decide +kernel
theorem dX8_nextToken_117 : decode cX8_nextToken 117 = .ok (.aload_n 0, 1) := by decide +kernel
theorem dX8_nextToken_118 : decode cX8_nextToken 118 = .ok (.aload_n 0, 1) := by decide +kernel
theorem dX8_nextToken_119 : decode cX8_nextToken 119 = .ok (.getfield 202, 3) := by decide +kernel
theorem dX8_nextToken_122 : decode cX8_nextToken 122 = .ok (.invokevirtual 205, 3) := by decide +kernel
theorem dX8_nextToken_125 : decode cX8_nextToken 125 = .ok (.ifCond .eq 73, 3) := by decide +kernel
theorem dX8_nextToken_128 : decode cX8_nextToken 128 = .ok (.aload_n 0, 1) := by decide +kernel
theorem dX8_nextToken_129 : decode cX8_nextToken 129 = .ok (.aload_n 0, 1) := by decide +kernel
theorem dX8_nextToken_130 : decode cX8_nextToken 130 = .ok (.getfield 196, 3) := by decide +kernel
theorem dX8_nextToken_133 : decode cX8_nextToken 133 = .ok (.invokevirtual 205, 3) := by decide +kernel
theorem dX8_nextToken_136 : decode cX8_nextToken 136 = .ok (.ifCond .eq 16, 3) := by decide +kernel
theorem dX8_nextToken_139 : decode cX8_nextToken 139 = .ok (.aload_n 0, 1) := by decide +kernel
theorem dX8_nextToken_140 : decode cX8_nextToken 140 = .ok (.dup, 1) := by decide +kernel
theorem dX8_nextToken_141 : decode cX8_nextToken 141 = .ok (.getfield 196, 3) := by decide +kernel
theorem dX8_nextToken_144 : decode cX8_nextToken 144 = .ok (.iconst 1, 1) := by decide +kernel
theorem dX8_nextToken_145 : decode cX8_nextToken 145 = .ok (.iadd, 1) := by decide +kernel
theorem dX8_nextToken_146 : decode cX8_nextToken 146 = .ok (.putfield 196, 3) := by decide +kernel
theorem dX8_nextToken_149 : decode cX8_nextToken 149 = .ok (.goto (-21), 3) := by decide +kernel
theorem dX8_nextToken_152 : decode cX8_nextToken 152 = .ok (.aload_n 0, 1) := by decide +kernel
theorem dX8_nextToken_153 : decode cX8_nextToken 153 = .ok (.iload_n 1, 1) := by decide +kernel
theorem dX8_nextToken_154 : decode cX8_nextToken 154 = .ok (.ifCond .eq 7, 3) := by decide +kernel
theorem dX8_nextToken_157 : decode cX8_nextToken 157 = .ok (.iconst 4, 1) := by decide +kernel
theorem dX8_nextToken_158 : decode cX8_nextToken 158 = .ok (.goto 4, 3) := by decide +kernel
theorem dX8_nextToken_161 : decode cX8_nextToken 161 = .ok (.iconst 1, 1) := by decide +kernel
theorem dX8_nextToken_162 : decode cX8_nextToken 162 = .ok (.putfield 199, 3) := by decide +kernel
theorem dX8_nextToken_165 : decode cX8_nextToken 165 = .ok (.aload_n 0, 1) := by decide +kernel
theorem dX8_nextToken_166 : decode cX8_nextToken 166 = .ok (.aload_n 0, 1) := by decide +kernel
theorem dX8_nextToken_167 : decode cX8_nextToken 167 = .ok (.getfield 196, 3) := by decide +kernel
theorem dX8_nextToken_170 : decode cX8_nextToken 170 = .ok (.aload_n 0, 1) := by decide +kernel
theorem dX8_nextToken_171 : decode cX8_nextToken 171 = .ok (.getfield 202, 3) := by decide +kernel
theorem dX8_nextToken_174 : decode cX8_nextToken 174 = .ok (.isub, 1) := by decide +kernel
theorem dX8_nextToken_175 : decode cX8_nextToken 175 = .ok (.iconst 1, 1) := by decide +kernel
theorem dX8_nextToken_176 : decode cX8_nextToken 176 = .ok (.if_icmp .ne 15, 3) := by decide +kernel
theorem dX8_nextToken_179 : decode cX8_nextToken 179 = .ok (.aload_n 0, 1) := by decide +kernel
theorem dX8_nextToken_180 : decode cX8_nextToken 180 = .ok (.getfield 46, 3) := by decide +kernel
theorem dX8_nextToken_183 : decode cX8_nextToken 183 = .ok (.aload_n 0, 1) := by decide +kernel
theorem dX8_nextToken_184 : decode cX8_nextToken 184 = .ok (.getfield 202, 3) := by decide +kernel
theorem dX8_nextToken_187 : decode cX8_nextToken 187 = .ok (.iaload, 1) := by decide +kernel
theorem dX8_nextToken_188 : decode cX8_nextToken 188 = .ok (.goto 4, 3) := by decide +kernel
theorem dX8_nextToken_191 : decode cX8_nextToken 191 = .ok (.iconst 0, 1) := by decide +kernel
theorem dX8_nextToken_192 : decode cX8_nextToken 192 = .ok (.putfield 208, 3) := by decide +kernel
theorem dX8_nextToken_195 : decode cX8_nextToken 195 = .ok (.goto 144, 3) := by decide +kernel
theorem dX8_nextToken_198 : decode cX8_nextToken 198 = .ok (.aload_n 0, 1) := by decide +kernel
theorem dX8_nextToken_199 : decode cX8_nextToken 199 = .ok (.aload_n 0, 1) := by decide +kernel
theorem dX8_nextToken_200 : decode cX8_nextToken 200 = .ok (.getfield 202, 3) := by decide +kernel
theorem dX8_nextToken_203 : decode cX8_nextToken 203 = .ok (.invokevirtual 211, 3) := by decide +kernel
theorem dX8_nextToken_206 : decode cX8_nextToken 206 = .ok (.ifCond .eq 105, 3) := by decide +kernel
theorem dX8_nextToken_209 : decode cX8_nextToken 209 = .ok (.aload_n 0, 1) := by decide +kernel
theorem dX8_nextToken_210 : decode cX8_nextToken 210 = .ok (.iconst 0, 1) := by decide +kernel
theorem dX8_nextToken_211 : decode cX8_nextToken 211 = .ok (.putfield 214, 3) := by decide +kernel
theorem dX8_nextToken_214 : decode cX8_nextToken 214 = .ok (.aload_n 0, 1) := by decide +kernel
theorem dX8_nextToken_215 : decode cX8_nextToken 215 = .ok (.aload_n 0, 1) := by decide +kernel
theorem dX8_nextToken_216 : decode cX8_nextToken 216 = .ok (.getfield 196, 3) := by decide +kernel
theorem dX8_nextToken_219 : decode cX8_nextToken 219 = .ok (.invokevirtual 211, 3) := by decide +kernel
theorem dX8_nextToken_222 : decode cX8_nextToken 222 = .ok (.ifCond .eq 60, 3) := by decide +kernel
theorem dX8_nextToken_225 : decode cX8_nextToken 225 = .ok (.aload_n 0, 1) := by decide +kernel
theorem dX8_nextToken_226 : decode cX8_nextToken 226 = .ok (.aload_n 0, 1) := by decide +kernel
theorem dX8_nextToken_227 : decode cX8_nextToken 227 = .ok (.getfield 196, 3) := by decide +kernel
