theorem dX7_init_0 : decode cX7_init 0 = .ok (.aload_n 0, 1) := by decide +kernel
theorem dX7_init_1 : decode cX7_init 1 = .ok (.invokespecial 1, 3) := by decide +kernel
theorem dX7_init_4 : decode cX7_init 4 = .ok (.aload_n 0, 1) := by decide +kernel
theorem dX7_init_5 : decode cX7_init 5 = .ok (.bipush 14, 2) := by decide +kernel
theorem dX7_init_7 : decode cX7_init 7 = .ok (.anewarray 9, 3) := by decide +kernel
theorem dX7_init_10 : decode cX7_init 10 = .ok (.putfield 11, 3) := by decide +kernel
theorem dX7_init_13 : decode cX7_init 13 = .ok (.bipush 96, 2) := by decide +kernel
theorem dX7_init_15 : decode cX7_init 15 = .ok (.newarray .int, 2) := by decide +kernel
theorem dX7_init_17 : decode cX7_init 17 = .ok (.astore_n 1, 1) := by decide +kernel
theorem dX7_init_18 : decode cX7_init 18 = .ok (.iconst 0, 1) := by decide +kernel
theorem dX7_init_19 : decode cX7_init 19 = .ok (.istore_n 2, 1) := by decide +kernel
theorem dX7_init_20 : decode cX7_init 20 = .ok (.iload_n 2, 1) := by decide +kernel
theorem dX7_init_21 : decode cX7_init 21 = .ok (.bipush 14, 2) := by decide +kernel
theorem dX7_init_23 : decode cX7_init 23 = .ok (.if_icmp .ge 23, 3) := by decide +kernel
theorem dX7_init_26 : decode cX7_init 26 = .ok (.aload_n 0, 1) := by decide +kernel
theorem dX7_init_27 : decode cX7_init 27 = .ok (.getfield 11, 3) := by decide +kernel
theorem dX7_init_30 : decode cX7_init 30 = .ok (.iload_n 2, 1) := by decide +kernel
theorem dX7_init_31 : decode cX7_init 31 = .ok (.new 9, 3) := by decide +kernel
theorem dX7_init_34 : decode cX7_init 34 = .ok (.dup, 1) := by decide +kernel
theorem dX7_init_35 : decode cX7_init 35 = .ok (.aload_n 1, 1) := by decide +kernel
theorem dX7_init_36 : decode cX7_init 36 = .ok (.invokespecial 15, 3) := by decide +kernel
theorem dX7_init_39 : decode cX7_init 39 = .ok (.aastore, 1) := by decide +kernel
theorem dX7_init_40 : decode cX7_init 40 = .ok (.iinc 2 1, 3) := by decide +kernel
theorem dX7_init_43 : decode cX7_init 43 = .ok (.goto (-23), 3) := by decide +kernel
theorem dX7_init_46 : decode cX7_init 46 = .ok (.aload_n 0, 1) := by decide +kernel
theorem dX7_init_47 : decode cX7_init 47 = .ok (.new 18, 3) := by decide +kernel
theorem dX7_init_50 : decode cX7_init 50 = .ok (.dup, 1) := by decide +kernel
theorem dX7_init_51 : decode cX7_init 51 = .ok (.invokespecial 20, 3) := by decide +kernel
theorem dX7_init_54 : decode cX7_init 54 = .ok (.putfield 21, 3) := by decide +kernel
theorem dX7_init_57 : decode cX7_init 57 = .ok (.aload_n 0, 1) := by decide +kernel
theorem dX7_init_58 : decode cX7_init 58 = .ok (.new 25, 3) := by decide +kernel
theorem dX7_init_61 : decode cX7_init 61 = .ok (.dup, 1) := by decide +kernel
theorem dX7_init_62 : decode cX7_init 62 = .ok (.aload_n 0, 1) := by decide +kernel
theorem dX7_init_63 : decode cX7_init 63 = .ok (.getfield 21, 3) := by decide +kernel
theorem dX7_init_66 : decode cX7_init 66 = .ok (.new 9, 3) := by decide +kernel
theorem dX7_init_69 : decode cX7_init 69 = .ok (.dup, 1) := by decide +kernel
theorem dX7_init_70 : decode cX7_init 70 = .ok (.aload_n 1, 1) := by decide +kernel
theorem dX7_init_71 : decode cX7_init 71 = .ok (.invokespecial 15, 3) := by decide +kernel
theorem dX7_init_74 : decode cX7_init 74 = .ok (.invokespecial 27, 3) := by decide +kernel
theorem dX7_init_77 : decode cX7_init 77 = .ok (.putfield 30, 3) := by decide +kernel
theorem dX7_init_80 : decode cX7_init 80 = .ok (.aload_n 0, 1) := by decide +kernel
theorem dX7_init_81 : decode cX7_init 81 = .ok (.new 34, 3) := by decide +kernel
theorem dX7_init_84 : decode cX7_init 84 = .ok (.dup, 1) := by decide +kernel
theorem dX7_init_85 : decode cX7_init 85 = .ok (.aload_n 0, 1) := by decide +kernel
theorem dX7_init_86 : decode cX7_init 86 = .ok (.getfield 11, 3) := by decide +kernel
theorem dX7_init_89 : decode cX7_init 89 = .ok (.invokespecial 36, 3) := by decide +kernel
theorem dX7_init_92 : decode cX7_init 92 = .ok (.putfield 39, 3) := by decide +kernel
theorem dX7_init_95 : decode cX7_init 95 = .ok (.aload_n 0, 1) := by decide +kernel
theorem dX7_init_96 : decode cX7_init 96 = .ok (.new 34, 3) := by decide +kernel
theorem dX7_init_99 : decode cX7_init 99 = .ok (.dup, 1) := by decide +kernel
theorem dX7_init_100 : decode cX7_init 100 = .ok (.aload_n 0, 1) := by decide +kernel
theorem dX7_init_101 : decode cX7_init 101 = .ok (.getfield 11, 3) := by decide +kernel
theorem dX7_init_104 : decode cX7_init 104 = .ok (.invokespecial 36, 3) := by decide +kernel
theorem dX7_init_107 : decode cX7_init 107 = .ok (.putfield 43, 3) := by decide +kernel
theorem dX7_init_110 : decode cX7_init 110 = .ok (.aload_n 0, 1) := by decide +kernel
theorem dX7_init_111 : decode cX7_init 111 = .ok (.new 34, 3) := by decide +kernel
theorem dX7_init_114 : decode cX7_init 114 = .ok (.dup, 1) := by decide +kernel
theorem dX7_init_115 : decode cX7_init 115 = .ok (.aload_n 0, 1) := by decide +kernel
theorem dX7_init_116 : decode cX7_init 116 = .ok (.getfield 11, 3) := by decide +kernel
theorem dX7_init_119 : decode cX7_init 119 = .ok (.invokespecial 36, 3) := by decide +kernel
theorem dX7_init_122 : decode cX7_init 122 = .ok (.putfield 46, 3) := by decide +kernel
theorem dX7_init_125 : decode cX7_init 125 = .ok (.aload_n 0, 1) := by decide +kernel
theorem dX7_init_126 : decode cX7_init 126 = .ok (.iconst 4, 1) := by decide +kernel
theorem dX7_init_127 : decode cX7_init 127 = .ok (.anewarray 49, 3) := by decide +kernel
theorem dX7_init_130 : decode cX7_init 130 = .ok (.putfield 51, 3) := by decide +kernel
theorem dX7_init_133 : decode cX7_init 133 = .ok (.iconst 0, 1) := by decide +kernel
theorem dX7_init_134 : decode cX7_init 134 = .ok (.istore_n 2, 1) := by decide +kernel
theorem dX7_init_135 : decode cX7_init 135 = .ok (.iload_n 2, 1) := by decide +kernel
theorem dX7_init_136 : decode cX7_init 136 = .ok (.iconst 4, 1) := by decide +kernel
theorem dX7_init_137 : decode cX7_init 137 = .ok (.if_icmp .ge 22, 3) := by decide +kernel
theorem dX7_init_140 : decode cX7_init 140 = .ok (.aload_n 0, 1) := by decide +kernel
theorem dX7_init_141 : decode cX7_init 141 = .ok (.getfield 51, 3) := by decide +kernel
theorem dX7_init_144 : decode cX7_init 144 = .ok (.iload_n 2, 1) := by decide +kernel
theorem dX7_init_145 : decode cX7_init 145 = .ok (.new 49, 3) := by decide +kernel
theorem dX7_init_148 : decode cX7_init 148 = .ok (.dup, 1) := by decide +kernel
theorem dX7_init_149 : decode cX7_init 149 = .ok (.invokespecial 55, 3) := by decide +kernel
theorem dX7_init_152 : decode cX7_init 152 = .ok (.aastore, 1) := by decide +kernel
theorem dX7_init_153 : decode cX7_init 153 = .ok (.iinc 2 1, 3) := by decide +kernel
theorem dX7_init_156 : decode cX7_init 156 = .ok (.goto (-21), 3) := by decide +kernel
theorem dX7_init_159 : decode cX7_init 159 = .ok (.aload_n 0, 1) := by decide +kernel
theorem dX7_init_160 : decode cX7_init 160 = .ok (.iconst 5, 1) := by decide +kernel
theorem dX7_init_161 : decode cX7_init 161 = .ok (.anewarray 56, 3) := by decide +kernel
theorem dX7_init_164 : decode cX7_init 164 = .ok (.putfield 58, 3) := by decide +kernel
theorem dX7_init_167 : decode cX7_init 167 = .ok (.iconst 0, 1) := by decide +kernel
theorem dX7_init_168 : decode cX7_init 168 = .ok (.istore_n 2, 1) := by decide +kernel
theorem dX7_init_169 : decode cX7_init 169 = .ok (.iload_n 2, 1) := by decide +kernel
theorem dX7_init_170 : decode cX7_init 170 = .ok (.iconst 5, 1) := by decide +kernel
theorem dX7_init_171 : decode cX7_init 171 = .ok (.if_icmp .ge 22, 3) := by decide +kernel
theorem dX7_init_174 : decode cX7_init 174 = .ok (.aload_n 0, 1) := by decide +kernel
theorem dX7_init_175 : decode cX7_init 175 = .ok (.getfield 58, 3) := by decide +kernel
theorem dX7_init_178 : decode cX7_init 178 = .ok (.iload_n 2, 1) := by decide +kernel
theorem dX7_init_179 : decode cX7_init 179 = .ok (.new 56, 3) := by decide +kernel
theorem dX7_init_182 : decode cX7_init 182 = .ok (.dup, 1) := by decide +kernel
theorem dX7_init_183 : decode cX7_init 183 = .ok (.invokespecial 62, 3) := by decide +kernel
theorem dX7_init_186 : decode cX7_init 186 = .ok (.aastore, 1) := by decide +kernel
theorem dX7_init_187 : decode cX7_init 187 = .ok (.iinc 2 1, 3) := by decide +kernel
theorem dX7_init_190 : decode cX7_init 190 = .ok (.goto (-21), 3) := by decide +kernel
theorem dX7_init_193 : decode cX7_init 193 = .ok (.aload_n 0, 1) := by decide +kernel
theorem dX7_init_194 : decode cX7_init 194 = .ok (.bipush 60, 2) := by decide +kernel
theorem dX7_init_196 : decode cX7_init 196 = .ok (.newarray .int, 2) := by decide +kernel
theorem dX7_init_198 : decode cX7_init 198 = .ok (.putfield 63, 3) := by decide +kernel
theorem dX7_init_201 : decode cX7_init 201 = .ok (.return_, 1) := by decide +kernel
theorem dX7_mule_0 : decode cX7_mule 0 = .ok (.iload_n 1, 1) := by decide +kernel
theorem dX7_mule_1 : decode cX7_mule 1 = .ok (.invokestatic 67, 3) := by decide +kernel
theorem dX7_mule_4 : decode cX7_mule 4 = .ok (.ifCond .eq 13, 3) := by decide +kernel
theorem dX7_mule_7 : decode cX7_mule 7 = .ok (.iload_n 2, 1) := by decide +kernel
theorem dX7_mule_8 : decode cX7_mule 8 = .ok (.iconst 0, 1) := by decide +kernel
theorem dX7_mule_9 : decode cX7_mule 9 = .ok (.bipush 9, 2) := by decide +kernel
theorem dX7_mule_11 : decode cX7_mule 11 = .ok (.invokestatic 71, 3) := by decide +kernel
theorem dX7_mule_14 : decode cX7_mule 14 = .ok (.ifCond .ne 6, 3) := by decide +kernel
theorem dX7_mule_17 : decode cX7_mule 17 = .ok (.ldc 75, 2) := by decide +kernel
theorem dX7_mule_19 : decode cX7_mule 19 = .ok (.ireturn, 1) := by decide +kernel
theorem dX7_mule_20 : decode cX7_mule 20 = .ok (.iload_n 3, 1) := by decide +kernel
theorem dX7_mule_21 : decode cX7_mule 21 = .ok (.iconst 0, 1) := by decide +kernel
theorem dX7_mule_22 : decode cX7_mule 22 = .ok (.sipush 9999, 3) := by decide +kernel
theorem dX7_mule_25 : decode cX7_mule 25 = .ok (.invokestatic 71, 3) := by decide +kernel
theorem dX7_mule_28 : decode cX7_mule 28 = .ok (.ifCond .eq 14, 3) := by decide +kernel
theorem dX7_mule_31 : decode cX7_mule 31 = .ok (.iload 4, 2) := by decide +kernel
theorem dX7_mule_33 : decode cX7_mule 33 = .ok (.iconst 0, 1) := by decide +kernel
theorem dX7_mule_34 : decode cX7_mule 34 = .ok (.bipush 50, 2) := by decide +kernel
theorem dX7_mule_36 : decode cX7_mule 36 = .ok (.invokestatic 71, 3) := by decide +kernel
theorem dX7_mule_39 : decode cX7_mule 39 = .ok (.ifCond .ne 6, 3) := by decide +kernel
theorem dX7_mule_42 : decode cX7_mule 42 = .ok (.ldc 75, 2) := by decide +kernel
theorem dX7_mule_44 : decode cX7_mule 44 = .ok (.ireturn, 1) := by decide +kernel
theorem dX7_mule_45 : decode cX7_mule 45 = .ok (.aload_n 0, 1) := by decide +kernel
theorem dX7_mule_46 : decode cX7_mule 46 = .ok (.getfield 39, 3) := by decide +kernel
theorem dX7_mule_49 : decode cX7_mule 49 = .ok (.getfield 76, 3) := by decide +kernel
theorem dX7_mule_52 : decode cX7_mule 52 = .ok (.bipush 8, 2) := by decide +kernel
theorem dX7_mule_54 : decode cX7_mule 54 = .ok (.if_icmp .lt 6, 3) := by decide +kernel
theorem dX7_mule_57 : decode cX7_mule 57 = .ok (.ldc 80, 2) := by decide +kernel
theorem dX7_mule_59 : decode cX7_mule 59 = .ok (.ireturn, 1) := by decide +kernel
theorem dX7_mule_60 : decode cX7_mule 60 = .ok (.aload_n 0, 1) := by decide +kernel
theorem dX7_mule_61 : decode cX7_mule 61 = .ok (.getfield 39, 3) := by decide +kernel
theorem dX7_mule_64 : decode cX7_mule 64 = .ok (.iload_n 1, 1) := by decide +kernel
theorem dX7_mule_65 : decode cX7_mule 65 = .ok (.iload_n 2, 1) := by decide +kernel
theorem dX7_mule_66 : decode cX7_mule 66 = .ok (.iload_n 3, 1) := by decide +kernel
theorem dX7_mule_67 : decode cX7_mule 67 = .ok (.iload 4, 2) := by decide +kernel
theorem dX7_mule_69 : decode cX7_mule 69 = .ok (.invokevirtual 81, 3) := by decide +kernel
theorem dX7_mule_72 : decode cX7_mule 72 = .ok (.aload_n 0, 1) := by decide +kernel
theorem dX7_mule_73 : decode cX7_mule 73 = .ok (.getfield 39, 3) := by decide +kernel
theorem dX7_mule_76 : decode cX7_mule 76 = .ok (.getfield 76, 3) := by decide +kernel
theorem dX7_mule_79 : decode cX7_mule 79 = .ok (.iconst 1, 1) := by decide +kernel
theorem dX7_mule_80 : decode cX7_mule 80 = .ok (.isub, 1) := by decide +kernel
theorem dX7_mule_81 : decode cX7_mule 81 = .ok (.ireturn, 1) := by decide +kernel
theorem dX7_told_0 : decode cX7_told 0 = .ok (.aload_n 0, 1) := by decide +kernel
theorem dX7_told_1 : decode cX7_told 1 = .ok (.iload_n 1, 1) := by decide +kernel
theorem dX7_told_2 : decode cX7_told 2 = .ok (.invokevirtual 85, 3) := by decide +kernel
theorem dX7_told_5 : decode cX7_told 5 = .ok (.ifCond .ne 6, 3) := by decide +kernel
theorem dX7_told_8 : decode cX7_told 8 = .ok (.ldc 75, 2) := by decide +kernel
theorem dX7_told_10 : decode cX7_told 10 = .ok (.ireturn, 1) := by decide +kernel
theorem dX7_told_11 : decode cX7_told 11 = .ok (.aload_n 0, 1) := by decide +kernel
theorem dX7_told_12 : decode cX7_told 12 = .ok (.getfield 39, 3) := by decide +kernel
theorem dX7_told_15 : decode cX7_told 15 = .ok (.getfield 88, 3) := by decide +kernel
theorem dX7_told_18 : decode cX7_told 18 = .ok (.iload_n 1, 1) := by decide +kernel
theorem dX7_told_19 : decode cX7_told 19 = .ok (.aaload, 1) := by decide +kernel
theorem dX7_told_20 : decode cX7_told 20 = .ok (.astore_n 3, 1) := by decide +kernel
theorem dX7_told_21 : decode cX7_told 21 = .ok (.iload_n 2, 1) := by decide +kernel
theorem dX7_told_22 : decode cX7_told 22 = .ok (.tableswitch 90 0 7 #[46, 51, 56, 61, 66, 71, 80, 85], 46) := by decide +kernel
theorem dX7_told_68 : decode cX7_told 68 = .ok (.aload_n 3, 1) := by decide +kernel
theorem dX7_told_69 : decode cX7_told 69 = .ok (.getfield 92, 3) := by decide +kernel
theorem dX7_told_72 : decode cX7_told 72 = .ok (.ireturn, 1) := by decide +kernel
theorem dX7_told_73 : decode cX7_told 73 = .ok (.aload_n 3, 1) := by decide +kernel
theorem dX7_told_74 : decode cX7_told 74 = .ok (.getfield 97, 3) := by decide +kernel
theorem dX7_told_77 : decode cX7_told 77 = .ok (.ireturn, 1) := by decide +kernel
theorem dX7_told_78 : decode cX7_told 78 = .ok (.aload_n 3, 1) := by decide +kernel
theorem dX7_told_79 : decode cX7_told 79 = .ok (.getfield 100, 3) := by decide +kernel
theorem dX7_told_82 : decode cX7_told 82 = .ok (.ireturn, 1) := by decide +kernel
theorem dX7_told_83 : decode cX7_told 83 = .ok (.aload_n 3, 1) := by decide +kernel
theorem dX7_told_84 : decode cX7_told 84 = .ok (.getfield 103, 3) := by decide +kernel
theorem dX7_told_87 : decode cX7_told 87 = .ok (.ireturn, 1) := by decide +kernel
theorem dX7_told_88 : decode cX7_told 88 = .ok (.aload_n 3, 1) := by decide +kernel
theorem dX7_told_89 : decode cX7_told 89 = .ok (.getfield 106, 3) := by decide +kernel
theorem dX7_told_92 : decode cX7_told 92 = .ok (.ireturn, 1) := by decide +kernel
theorem dX7_told_93 : decode cX7_told 93 = .ok (.aload_n 0, 1) := by decide +kernel
theorem dX7_told_94 : decode cX7_told 94 = .ok (.getfield 39, 3) := by decide +kernel
theorem dX7_told_97 : decode cX7_told 97 = .ok (.aload_n 3, 1) := by decide +kernel
theorem dX7_told_98 : decode cX7_told 98 = .ok (.invokevirtual 109, 3) := by decide +kernel
theorem dX7_told_101 : decode cX7_told 101 = .ok (.ireturn, 1) := by decide +kernel
theorem dX7_told_102 : decode cX7_told 102 = .ok (.aload_n 3, 1) := by decide +kernel
theorem dX7_told_103 : decode cX7_told 103 = .ok (.invokevirtual 113, 3) := by decide +kernel
theorem dX7_told_106 : decode cX7_told 106 = .ok (.ireturn, 1) := by decide +kernel
theorem dX7_told_107 : decode cX7_told 107 = .ok (.aload_n 3, 1) := by decide +kernel
theorem dX7_told_108 : decode cX7_told 108 = .ok (.invokevirtual 117, 3) := by decide +kernel
theorem dX7_told_111 : decode cX7_told 111 = .ok (.ireturn, 1) := by decide +kernel
theorem dX7_told_112 : decode cX7_told 112 = .ok (.ldc 75, 2) := by decide +kernel
theorem dX7_told_114 : decode cX7_told 114 = .ok (.ireturn, 1) := by decide +kernel
theorem dX7_as_0 : decode cX7_as 0 = .ok (.aload_n 0, 1) := by decide +kernel
theorem dX7_as_1 : decode cX7_as 1 = .ok (.iload_n 1, 1) := by decide +kernel
theorem dX7_as_2 : decode cX7_as 2 = .ok (.invokevirtual 85, 3) := by decide +kernel
theorem dX7_as_5 : decode cX7_as 5 = .ok (.ifCond .eq 10, 3) := by decide +kernel
theorem dX7_as_8 : decode cX7_as 8 = .ok (.iload_n 2, 1) := by decide +kernel
theorem dX7_as_9 : decode cX7_as 9 = .ok (.invokestatic 67, 3) := by decide +kernel
theorem dX7_as_12 : decode cX7_as 12 = .ok (.ifCond .ne 6, 3) := by decide +kernel
theorem dX7_as_15 : decode cX7_as 15 = .ok (.ldc 75, 2) := by decide +kernel
theorem dX7_as_17 : decode cX7_as 17 = .ok (.ireturn, 1) := by decide +kernel
theorem dX7_as_18 : decode cX7_as 18 = .ok (.aload_n 0, 1) := by decide +kernel
theorem dX7_as_19 : decode cX7_as 19 = .ok (.getfield 39, 3) := by decide +kernel
theorem dX7_as_22 : decode cX7_as 22 = .ok (.getfield 88, 3) := by decide +kernel
theorem dX7_as_25 : decode cX7_as 25 = .ok (.iload_n 1, 1) := by decide +kernel
theorem dX7_as_26 : decode cX7_as 26 = .ok (.aaload, 1) := by decide +kernel
theorem dX7_as_27 : decode cX7_as 27 = .ok (.astore_n 3, 1) := by decide +kernel
theorem dX7_as_28 : decode cX7_as 28 = .ok (.aload_n 3, 1) := by decide +kernel
theorem dX7_as_29 : decode cX7_as 29 = .ok (.iload_n 2, 1) := by decide +kernel
theorem dX7_as_30 : decode cX7_as 30 = .ok (.invokevirtual 120, 3) := by decide +kernel
theorem dX7_as_33 : decode cX7_as 33 = .ok (.ifCond .eq 10, 3) := by decide +kernel
theorem dX7_as_36 : decode cX7_as 36 = .ok (.aload_n 3, 1) := by decide +kernel
theorem dX7_as_37 : decode cX7_as 37 = .ok (.getfield 106, 3) := by decide +kernel
theorem dX7_as_40 : decode cX7_as 40 = .ok (.goto 5, 3) := by decide +kernel
theorem dX7_as_43 : decode cX7_as 43 = .ok (.ldc 123, 2) := by decide +kernel
theorem dX7_as_45 : decode cX7_as 45 = .ok (.ireturn, 1) := by decide +kernel
theorem dX7_turns_0 : decode cX7_turns 0 = .ok (.aload_n 0, 1) := by decide +kernel
theorem dX7_turns_1 : decode cX7_turns 1 = .ok (.iload_n 1, 1) := by decide +kernel
theorem dX7_turns_2 : decode cX7_turns 2 = .ok (.invokevirtual 85, 3) := by decide +kernel
theorem dX7_turns_5 : decode cX7_turns 5 = .ok (.ifCond .eq 10, 3) := by decide +kernel
theorem dX7_turns_8 : decode cX7_turns 8 = .ok (.iload_n 2, 1) := by decide +kernel
theorem dX7_turns_9 : decode cX7_turns 9 = .ok (.invokestatic 67, 3) := by decide +kernel
theorem dX7_turns_12 : decode cX7_turns 12 = .ok (.ifCond .ne 6, 3) := by decide +kernel
theorem dX7_turns_15 : decode cX7_turns 15 = .ok (.ldc 75, 2) := by decide +kernel
theorem dX7_turns_17 : decode cX7_turns 17 = .ok (.ireturn, 1) := by decide +kernel
theorem dX7_turns_18 : decode cX7_turns 18 = .ok (.aload_n 0, 1) := by decide +kernel
theorem dX7_turns_19 : decode cX7_turns 19 = .ok (.getfield 39, 3) := by decide +kernel
theorem dX7_turns_22 : decode cX7_turns 22 = .ok (.getfield 88, 3) := by decide +kernel
theorem dX7_turns_25 : decode cX7_turns 25 = .ok (.iload_n 1, 1) := by decide +kernel
theorem dX7_turns_26 : decode cX7_turns 26 = .ok (.aaload, 1) := by decide +kernel
theorem dX7_turns_27 : decode cX7_turns 27 = .ok (.getfield 92, 3) := by decide +kernel
theorem dX7_turns_30 : decode cX7_turns 30 = .ok (.istore_n 3, 1) := by decide +kernel
theorem dX7_turns_31 : decode cX7_turns 31 = .ok (.aload_n 0, 1) := by decide +kernel
theorem dX7_turns_32 : decode cX7_turns 32 = .ok (.getfield 39, 3) := by decide +kernel
theorem dX7_turns_35 : decode cX7_turns 35 = .ok (.getfield 88, 3) := by decide +kernel
theorem dX7_turns_38 : decode cX7_turns 38 = .ok (.iload_n 1, 1) := by decide +kernel
theorem dX7_turns_39 : decode cX7_turns 39 = .ok (.aaload, 1) := by decide +kernel
theorem dX7_turns_40 : decode cX7_turns 40 = .ok (.iload_n 2, 1) := by decide +kernel
theorem dX7_turns_41 : decode cX7_turns 41 = .ok (.putfield 92, 3) := by decide +kernel
theorem dX7_turns_44 : decode cX7_turns 44 = .ok (.iload_n 3, 1) := by decide +kernel
theorem dX7_turns_45 : decode cX7_turns 45 = .ok (.ireturn, 1) := by decide +kernel
theorem dX7_set_0 : decode cX7_set 0 = .ok (.aload_n 0, 1) := by decide +kernel
theorem dX7_set_1 : decode cX7_set 1 = .ok (.iload_n 1, 1) := by decide +kernel
theorem dX7_set_2 : decode cX7_set 2 = .ok (.invokevirtual 85, 3) := by decide +kernel
theorem dX7_set_5 : decode cX7_set 5 = .ok (.ifCond .eq 11, 3) := by decide +kernel
theorem dX7_set_8 : decode cX7_set 8 = .ok (.iload_n 2, 1) := by decide +kernel
theorem dX7_set_9 : decode cX7_set 9 = .ok (.iload_n 3, 1) := by decide +kernel
theorem dX7_set_10 : decode cX7_set 10 = .ok (.invokestatic 124, 3) := by decide +kernel
theorem dX7_set_13 : decode cX7_set 13 = .ok (.ifCond .ne 6, 3) := by decide +kernel
theorem dX7_set_16 : decode cX7_set 16 = .ok (.ldc 75, 2) := by decide +kernel
theorem dX7_set_18 : decode cX7_set 18 = .ok (.ireturn, 1) := by decide +kernel
theorem dX7_set_19 : decode cX7_set 19 = .ok (.aload_n 0, 1) := by decide +kernel
theorem dX7_set_20 : decode cX7_set 20 = .ok (.getfield 39, 3) := by decide +kernel
theorem dX7_set_23 : decode cX7_set 23 = .ok (.getfield 88, 3) := by decide +kernel
theorem dX7_set_26 : decode cX7_set 26 = .ok (.iload_n 1, 1) := by decide +kernel
theorem dX7_set_27 : decode cX7_set 27 = .ok (.aaload, 1) := by decide +kernel
theorem dX7_set_28 : decode cX7_set 28 = .ok (.astore 4, 2) := by decide +kernel
theorem dX7_set_30 : decode cX7_set 30 = .ok (.iload_n 2, 1) := by decide +kernel
theorem dX7_set_31 : decode cX7_set 31 = .ok (.tableswitch 73 1 3 #[25, 41, 57], 25) := by decide +kernel
theorem dX7_set_56 : decode cX7_set 56 = .ok (.aload 4, 2) := by decide +kernel
theorem dX7_set_58 : decode cX7_set 58 = .ok (.getfield 97, 3) := by decide +kernel
theorem dX7_set_61 : decode cX7_set 61 = .ok (.istore 5, 2) := by decide +kernel
theorem dX7_set_63 : decode cX7_set 63 = .ok (.aload 4, 2) := by decide +kernel
theorem dX7_set_65 : decode cX7_set 65 = .ok (.iload_n 3, 1) := by decide +kernel
theorem dX7_set_66 : decode cX7_set 66 = .ok (.putfield 97, 3) := by decide +kernel
theorem dX7_set_69 : decode cX7_set 69 = .ok (.iload 5, 2) := by decide +kernel
theorem dX7_set_71 : decode cX7_set 71 = .ok (.ireturn, 1) := by decide +kernel
theorem dX7_set_72 : decode cX7_set 72 = .ok (.aload 4, 2) := by decide +kernel
theorem dX7_set_74 : decode cX7_set 74 = .ok (.getfield 100, 3) := by decide +kernel
theorem dX7_set_77 : decode cX7_set 77 = .ok (.istore 5, 2) := by decide +kernel
theorem dX7_set_79 : decode cX7_set 79 = .ok (.aload 4, 2) := by decide +kernel
theorem dX7_set_81 : decode cX7_set 81 = .ok (.iload_n 3, 1) := by decide +kernel
theorem dX7_set_82 : decode cX7_set 82 = .ok (.putfield 100, 3) := by decide +kernel
theorem dX7_set_85 : decode cX7_set 85 = .ok (.iload 5, 2) := by decide +kernel
theorem dX7_set_87 : decode cX7_set 87 = .ok (.ireturn, 1) := by decide +kernel
theorem dX7_set_88 : decode cX7_set 88 = .ok (.aload 4, 2) := by decide +kernel
theorem dX7_set_90 : decode cX7_set 90 = .ok (.getfield 103, 3) := by decide +kernel
theorem dX7_set_93 : decode cX7_set 93 = .ok (.istore 5, 2) := by decide +kernel
theorem dX7_set_95 : decode cX7_set 95 = .ok (.aload 4, 2) := by decide +kernel
theorem dX7_set_97 : decode cX7_set 97 = .ok (.iload_n 3, 1) := by decide +kernel
theorem dX7_set_98 : decode cX7_set 98 = .ok (.putfield 103, 3) := by decide +kernel
theorem dX7_set_101 : decode cX7_set 101 = .ok (.iload 5, 2) := by decide +kernel
theorem dX7_set_103 : decode cX7_set 103 = .ok (.ireturn, 1) := by decide +kernel
theorem dX7_set_104 : decode cX7_set 104 = .ok (.aload 4, 2) := by decide +kernel
theorem dX7_set_106 : decode cX7_set 106 = .ok (.getfield 106, 3) := by decide +kernel
theorem dX7_set_109 : decode cX7_set 109 = .ok (.istore 5, 2) := by decide +kernel
theorem dX7_set_111 : decode cX7_set 111 = .ok (.aload 4, 2) := by decide +kernel
theorem dX7_set_113 : decode cX7_set 113 = .ok (.iload_n 3, 1) := by decide +kernel
theorem dX7_set_114 : decode cX7_set 114 = .ok (.putfield 106, 3) := by decide +kernel
theorem dX7_set_117 : decode cX7_set 117 = .ok (.iload 5, 2) := by decide +kernel
theorem dX7_set_119 : decode cX7_set 119 = .ok (.ireturn, 1) := by decide +kernel
theorem dX7_rule_0 : decode cX7_rule 0 = .ok (.iload_n 1, 1) := by decide +kernel
theorem dX7_rule_1 : decode cX7_rule 1 = .ok (.iconst 0, 1) := by decide +kernel
theorem dX7_rule_2 : decode cX7_rule 2 = .ok (.iconst 3, 1) := by decide +kernel
theorem dX7_rule_3 : decode cX7_rule 3 = .ok (.invokestatic 71, 3) := by decide +kernel
theorem dX7_rule_6 : decode cX7_rule 6 = .ok (.ifCond .eq 20, 3) := by decide +kernel
theorem dX7_rule_9 : decode cX7_rule 9 = .ok (.iload_n 2, 1) := by decide +kernel
theorem dX7_rule_10 : decode cX7_rule 10 = .ok (.getstatic 128, 3) := by decide +kernel
theorem dX7_rule_13 : decode cX7_rule 13 = .ok (.iload_n 1, 1) := by decide +kernel
theorem dX7_rule_14 : decode cX7_rule 14 = .ok (.iaload, 1) := by decide +kernel
theorem dX7_rule_15 : decode cX7_rule 15 = .ok (.getstatic 131, 3) := by decide +kernel
theorem dX7_rule_18 : decode cX7_rule 18 = .ok (.iload_n 1, 1) := by decide +kernel
theorem dX7_rule_19 : decode cX7_rule 19 = .ok (.iaload, 1) := by decide +kernel
theorem dX7_rule_20 : decode cX7_rule 20 = .ok (.invokestatic 71, 3) := by decide +kernel
theorem dX7_rule_23 : decode cX7_rule 23 = .ok (.ifCond .ne 6, 3) := by decide +kernel
theorem dX7_rule_26 : decode cX7_rule 26 = .ok (.ldc 75, 2) := by decide +kernel
theorem dX7_rule_28 : decode cX7_rule 28 = .ok (.ireturn, 1) := by decide +kernel
theorem dX7_rule_29 : decode cX7_rule 29 = .ok (.aload_n 0, 1) := by decide +kernel
theorem dX7_rule_30 : decode cX7_rule 30 = .ok (.getfield 39, 3) := by decide +kernel
theorem dX7_rule_33 : decode cX7_rule 33 = .ok (.getfield 134, 3) := by decide +kernel
theorem dX7_rule_36 : decode cX7_rule 36 = .ok (.iload_n 1, 1) := by decide +kernel
theorem dX7_rule_37 : decode cX7_rule 37 = .ok (.iaload, 1) := by decide +kernel
theorem dX7_rule_38 : decode cX7_rule 38 = .ok (.istore_n 3, 1) := by decide +kernel
theorem dX7_rule_39 : decode cX7_rule 39 = .ok (.aload_n 0, 1) := by decide +kernel
theorem dX7_rule_40 : decode cX7_rule 40 = .ok (.getfield 39, 3) := by decide +kernel
theorem dX7_rule_43 : decode cX7_rule 43 = .ok (.getfield 134, 3) := by decide +kernel
theorem dX7_rule_46 : decode cX7_rule 46 = .ok (.iload_n 1, 1) := by decide +kernel
theorem dX7_rule_47 : decode cX7_rule 47 = .ok (.iload_n 2, 1) := by decide +kernel
theorem dX7_rule_48 : decode cX7_rule 48 = .ok (.iastore, 1) := by decide +kernel
theorem dX7_rule_49 : decode cX7_rule 49 = .ok (.iload_n 3, 1) := by decide +kernel
theorem dX7_rule_50 : decode cX7_rule 50 = .ok (.ireturn, 1) := by decide +kernel
theorem dX7_yard_0 : decode cX7_yard 0 = .ok (.iload_n 1, 1) := by decide +kernel
theorem dX7_yard_1 : decode cX7_yard 1 = .ok (.invokestatic 137, 3) := by decide +kernel
theorem dX7_yard_4 : decode cX7_yard 4 = .ok (.ifCond .eq 12, 3) := by decide +kernel
theorem dX7_yard_7 : decode cX7_yard 7 = .ok (.iload_n 2, 1) := by decide +kernel
theorem dX7_yard_8 : decode cX7_yard 8 = .ok (.iconst 0, 1) := by decide +kernel
theorem dX7_yard_9 : decode cX7_yard 9 = .ok (.iconst 1, 1) := by decide +kernel
theorem dX7_yard_10 : decode cX7_yard 10 = .ok (.invokestatic 71, 3) := by decide +kernel
theorem dX7_yard_13 : decode cX7_yard 13 = .ok (.ifCond .ne 6, 3) := by decide +kernel
theorem dX7_yard_16 : decode cX7_yard 16 = .ok (.ldc 75, 2) := by decide +kernel
theorem dX7_yard_18 : decode cX7_yard 18 = .ok (.ireturn, 1) := by decide +kernel
theorem dX7_yard_19 : decode cX7_yard 19 = .ok (.iload_n 2, 1) := by decide +kernel
theorem dX7_yard_20 : decode cX7_yard 20 = .ok (.ifCond .ne 15, 3) := by decide +kernel
theorem dX7_yard_23 : decode cX7_yard 23 = .ok (.aload_n 0, 1) := by decide +kernel
theorem dX7_yard_24 : decode cX7_yard 24 = .ok (.getfield 39, 3) := by decide +kernel
theorem dX7_yard_27 : decode cX7_yard 27 = .ok (.getfield 140, 3) := by decide +kernel
theorem dX7_yard_30 : decode cX7_yard 30 = .ok (.iload_n 1, 1) := by decide +kernel
theorem dX7_yard_31 : decode cX7_yard 31 = .ok (.iaload, 1) := by decide +kernel
theorem dX7_yard_32 : decode cX7_yard 32 = .ok (.goto 12, 3) := by decide +kernel
theorem dX7_yard_35 : decode cX7_yard 35 = .ok (.aload_n 0, 1) := by decide +kernel
theorem dX7_yard_36 : decode cX7_yard 36 = .ok (.getfield 39, 3) := by decide +kernel
theorem dX7_yard_39 : decode cX7_yard 39 = .ok (.getfield 143, 3) := by decide +kernel
theorem dX7_yard_42 : decode cX7_yard 42 = .ok (.iload_n 1, 1) := by decide +kernel
theorem dX7_yard_43 : decode cX7_yard 43 = .ok (.iaload, 1) := by decide +kernel
theorem dX7_yard_44 : decode cX7_yard 44 = .ok (.ireturn, 1) := by decide +kernel
theorem dX7_sweep_0 : decode cX7_sweep 0 = .ok (.iload_n 1, 1) := by decide +kernel
theorem dX7_sweep_1 : decode cX7_sweep 1 = .ok (.invokestatic 137, 3) := by decide +kernel
theorem dX7_sweep_4 : decode cX7_sweep 4 = .ok (.ifCond .eq 14, 3) := by decide +kernel
theorem dX7_sweep_7 : decode cX7_sweep 7 = .ok (.aload_n 0, 1) := by decide +kernel
theorem dX7_sweep_8 : decode cX7_sweep 8 = .ok (.getfield 39, 3) := by decide +kernel
theorem dX7_sweep_11 : decode cX7_sweep 11 = .ok (.iload_n 1, 1) := by decide +kernel
theorem dX7_sweep_12 : decode cX7_sweep 12 = .ok (.invokevirtual 146, 3) := by decide +kernel
theorem dX7_sweep_15 : decode cX7_sweep 15 = .ok (.goto 5, 3) := by decide +kernel
theorem dX7_sweep_18 : decode cX7_sweep 18 = .ok (.ldc 75, 2) := by decide +kernel
theorem dX7_sweep_20 : decode cX7_sweep 20 = .ok (.ireturn, 1) := by decide +kernel
theorem dX7_rain_0 : decode cX7_rain 0 = .ok (.aload_n 0, 1) := by decide +kernel
theorem dX7_rain_1 : decode cX7_rain 1 = .ok (.getfield 39, 3) := by decide +kernel
theorem dX7_rain_4 : decode cX7_rain 4 = .ok (.invokevirtual 150, 3) := by decide +kernel
theorem dX7_rain_7 : decode cX7_rain 7 = .ok (.ireturn, 1) := by decide +kernel
theorem dX7_deal_0 : decode cX7_deal 0 = .ok (.iload_n 1, 1) := by decide +kernel
theorem dX7_deal_1 : decode cX7_deal 1 = .ok (.iconst 1, 1) := by decide +kernel
theorem dX7_deal_2 : decode cX7_deal 2 = .ok (.bipush 8, 2) := by decide +kernel
theorem dX7_deal_4 : decode cX7_deal 4 = .ok (.invokestatic 71, 3) := by decide +kernel
theorem dX7_deal_7 : decode cX7_deal 7 = .ok (.ifCond .ne 6, 3) := by decide +kernel
theorem dX7_deal_10 : decode cX7_deal 10 = .ok (.ldc 75, 2) := by decide +kernel
theorem dX7_deal_12 : decode cX7_deal 12 = .ok (.ireturn, 1) := by decide +kernel
theorem dX7_deal_13 : decode cX7_deal 13 = .ok (.iload_n 1, 1) := by decide +kernel
theorem dX7_deal_14 : decode cX7_deal 14 = .ok (.bipush 8, 2) := by decide +kernel
theorem dX7_deal_16 : decode cX7_deal 16 = .ok (.aload_n 0, 1) := by decide +kernel
theorem dX7_deal_17 : decode cX7_deal 17 = .ok (.getfield 39, 3) := by decide +kernel
theorem dX7_deal_20 : decode cX7_deal 20 = .ok (.getfield 76, 3) := by decide +kernel
theorem dX7_deal_23 : decode cX7_deal 23 = .ok (.isub, 1) := by decide +kernel
theorem dX7_deal_24 : decode cX7_deal 24 = .ok (.invokestatic 153, 3) := by decide +kernel
theorem dX7_deal_27 : decode cX7_deal 27 = .ok (.istore_n 2, 1) := by decide +kernel
theorem dX7_deal_28 : decode cX7_deal 28 = .ok (.iconst 0, 1) := by decide +kernel
theorem dX7_deal_29 : decode cX7_deal 29 = .ok (.istore_n 3, 1) := by decide +kernel
theorem dX7_deal_30 : decode cX7_deal 30 = .ok (.iload_n 3, 1) := by decide +kernel
theorem dX7_deal_31 : decode cX7_deal 31 = .ok (.iload_n 2, 1) := by decide +kernel
theorem dX7_deal_32 : decode cX7_deal 32 = .ok (.if_icmp .ge 16, 3) := by decide +kernel
theorem dX7_deal_35 : decode cX7_deal 35 = .ok (.aload_n 0, 1) := by decide +kernel
theorem dX7_deal_36 : decode cX7_deal 36 = .ok (.getfield 39, 3) := by decide +kernel
theorem dX7_deal_39 : decode cX7_deal 39 = .ok (.invokevirtual 159, 3) := by decide +kernel
theorem dX7_deal_42 : decode cX7_deal 42 = .ok (.iinc 3 1, 3) := by decide +kernel
theorem dX7_deal_45 : decode cX7_deal 45 = .ok (.goto (-15), 3) := by decide +kernel
theorem dX7_deal_48 : decode cX7_deal 48 = .ok (.iload_n 2, 1) := by decide +kernel
theorem dX7_deal_49 : decode cX7_deal 49 = .ok (.ireturn, 1) := by decide +kernel
theorem dX7_seed_0 : decode cX7_seed 0 = .ok (.aload_n 0, 1) := by decide +kernel
theorem dX7_seed_1 : decode cX7_seed 1 = .ok (.getfield 39, 3) := by decide +kernel
theorem dX7_seed_4 : decode cX7_seed 4 = .ok (.getfield 162, 3) := by decide +kernel
theorem dX7_seed_7 : decode cX7_seed 7 = .ok (.istore_n 2, 1) := by decide +kernel
theorem dX7_seed_8 : decode cX7_seed 8 = .ok (.aload_n 0, 1) := by decide +kernel
theorem dX7_seed_9 : decode cX7_seed 9 = .ok (.getfield 39, 3) := by decide +kernel
theorem dX7_seed_12 : decode cX7_seed 12 = .ok (.iload_n 1, 1) := by decide +kernel
theorem dX7_seed_13 : decode cX7_seed 13 = .ok (.putfield 162, 3) := by decide +kernel
theorem dX7_seed_16 : decode cX7_seed 16 = .ok (.iload_n 2, 1) := by decide +kernel
theorem dX7_seed_17 : decode cX7_seed 17 = .ok (.ireturn, 1) := by decide +kernel
theorem dX7_minutes_0 : decode cX7_minutes 0 = .ok (.iload_n 1, 1) := by decide +kernel
theorem dX7_minutes_1 : decode cX7_minutes 1 = .ok (.iconst 1, 1) := by decide +kernel
theorem dX7_minutes_2 : decode cX7_minutes 2 = .ok (.bipush 100, 2) := by decide +kernel
theorem dX7_minutes_4 : decode cX7_minutes 4 = .ok (.invokestatic 71, 3) := by decide +kernel
theorem dX7_minutes_7 : decode cX7_minutes 7 = .ok (.ifCond .ne 6, 3) := by decide +kernel
theorem dX7_minutes_10 : decode cX7_minutes 10 = .ok (.ldc 75, 2) := by decide +kernel
theorem dX7_minutes_12 : decode cX7_minutes 12 = .ok (.ireturn, 1) := by decide +kernel
theorem dX7_minutes_13 : decode cX7_minutes 13 = .ok (.aload_n 0, 1) := by decide +kernel
theorem dX7_minutes_14 : decode cX7_minutes 14 = .ok (.getfield 39, 3) := by decide +kernel
theorem dX7_minutes_17 : decode cX7_minutes 17 = .ok (.getfield 165, 3) := by decide +kernel
theorem dX7_minutes_20 : decode cX7_minutes 20 = .ok (.istore_n 2, 1) := by decide +kernel
theorem dX7_minutes_21 : decode cX7_minutes 21 = .ok (.aload_n 0, 1) := by decide +kernel
theorem dX7_minutes_22 : decode cX7_minutes 22 = .ok (.getfield 39, 3) := by decide +kernel
theorem dX7_minutes_25 : decode cX7_minutes 25 = .ok (.aload_n 0, 1) := by decide +kernel
theorem dX7_minutes_26 : decode cX7_minutes 26 = .ok (.getfield 39, 3) := by decide +kernel
theorem dX7_minutes_29 : decode cX7_minutes 29 = .ok (.iload_n 1, 1) := by decide +kernel
theorem dX7_minutes_30 : decode cX7_minutes 30 = .ok (.invokevirtual 168, 3) := by decide +kernel
theorem dX7_minutes_33 : decode cX7_minutes 33 = .ok (.invokevirtual 171, 3) := by decide +kernel
theorem dX7_minutes_36 : decode cX7_minutes 36 = .ok (.aload_n 0, 1) := by decide +kernel
theorem dX7_minutes_37 : decode cX7_minutes 37 = .ok (.getfield 39, 3) := by decide +kernel
theorem dX7_minutes_40 : decode cX7_minutes 40 = .ok (.getfield 165, 3) := by decide +kernel
theorem dX7_minutes_43 : decode cX7_minutes 43 = .ok (.iload_n 2, 1) := by decide +kernel
theorem dX7_minutes_44 : decode cX7_minutes 44 = .ok (.isub, 1) := by decide +kernel
theorem dX7_minutes_45 : decode cX7_minutes 45 = .ok (.ireturn, 1) := by decide +kernel
theorem dX7_way_0 : decode cX7_way 0 = .ok (.iload_n 1, 1) := by decide +kernel
theorem dX7_way_1 : decode cX7_way 1 = .ok (.tableswitch 105 0 6 #[43, 54, 65, 73, 81, 89, 97], 43) := by decide +kernel
theorem dX7_way_44 : decode cX7_way 44 = .ok (.aload_n 0, 1) := by decide +kernel
theorem dX7_way_45 : decode cX7_way 45 = .ok (.getfield 39, 3) := by decide +kernel
theorem dX7_way_48 : decode cX7_way 48 = .ok (.getfield 140, 3) := by decide +kernel
theorem dX7_way_51 : decode cX7_way 51 = .ok (.invokestatic 175, 3) := by decide +kernel
theorem dX7_way_54 : decode cX7_way 54 = .ok (.ireturn, 1) := by decide +kernel
theorem dX7_way_55 : decode cX7_way 55 = .ok (.aload_n 0, 1) := by decide +kernel
theorem dX7_way_56 : decode cX7_way 56 = .ok (.getfield 39, 3) := by decide +kernel
theorem dX7_way_59 : decode cX7_way 59 = .ok (.getfield 143, 3) := by decide +kernel
theorem dX7_way_62 : decode cX7_way 62 = .ok (.invokestatic 175, 3) := by decide +kernel
theorem dX7_way_65 : decode cX7_way 65 = .ok (.ireturn, 1) := by decide +kernel
theorem dX7_way_66 : decode cX7_way 66 = .ok (.aload_n 0, 1) := by decide +kernel
theorem dX7_way_67 : decode cX7_way 67 = .ok (.getfield 39, 3) := by decide +kernel
theorem dX7_way_70 : decode cX7_way 70 = .ok (.getfield 165, 3) := by decide +kernel
theorem dX7_way_73 : decode cX7_way 73 = .ok (.ireturn, 1) := by decide +kernel
theorem dX7_way_74 : decode cX7_way 74 = .ok (.aload_n 0, 1) := by decide +kernel
theorem dX7_way_75 : decode cX7_way 75 = .ok (.getfield 39, 3) := by decide +kernel
theorem dX7_way_78 : decode cX7_way 78 = .ok (.getfield 179, 3) := by decide +kernel
theorem dX7_way_81 : decode cX7_way 81 = .ok (.ireturn, 1) := by decide +kernel
theorem dX7_way_82 : decode cX7_way 82 = .ok (.aload_n 0, 1) := by decide +kernel
theorem dX7_way_83 : decode cX7_way 83 = .ok (.getfield 39, 3) := by decide +kernel
theorem dX7_way_86 : decode cX7_way 86 = .ok (.getfield 182, 3) := by decide +kernel
theorem dX7_way_89 : decode cX7_way 89 = .ok (.ireturn, 1) := by decide +kernel
theorem dX7_way_90 : decode cX7_way 90 = .ok (.aload_n 0, 1) := by decide +kernel
theorem dX7_way_91 : decode cX7_way 91 = .ok (.getfield 39, 3) := by decide +kernel
theorem dX7_way_94 : decode cX7_way 94 = .ok (.invokevirtual 185, 3) := by decide +kernel
theorem dX7_way_97 : decode cX7_way 97 = .ok (.ireturn, 1) := by decide +kernel
theorem dX7_way_98 : decode cX7_way 98 = .ok (.aload_n 0, 1) := by decide +kernel
theorem dX7_way_99 : decode cX7_way 99 = .ok (.getfield 39, 3) := by decide +kernel
theorem dX7_way_102 : decode cX7_way 102 = .ok (.invokevirtual 188, 3) := by decide +kernel
theorem dX7_way_105 : decode cX7_way 105 = .ok (.ireturn, 1) := by decide +kernel
theorem dX7_way_106 : decode cX7_way 106 = .ok (.ldc 75, 2) := by decide +kernel
theorem dX7_way_108 : decode cX7_way 108 = .ok (.ireturn, 1) := by decide +kernel
theorem dX7_behind_0 : decode cX7_behind 0 = .ok (.iload_n 1, 1) := by decide +kernel
theorem dX7_behind_1 : decode cX7_behind 1 = .ok (.iconst 0, 1) := by decide +kernel
theorem dX7_behind_2 : decode cX7_behind 2 = .ok (.bipush 100, 2) := by decide +kernel
theorem dX7_behind_4 : decode cX7_behind 4 = .ok (.invokestatic 71, 3) := by decide +kernel
theorem dX7_behind_7 : decode cX7_behind 7 = .ok (.ifCond .eq 20, 3) := by decide +kernel
theorem dX7_behind_10 : decode cX7_behind 10 = .ok (.iload_n 2, 1) := by decide +kernel
theorem dX7_behind_11 : decode cX7_behind 11 = .ok (.iconst 0, 1) := by decide +kernel
theorem dX7_behind_12 : decode cX7_behind 12 = .ok (.iconst 2, 1) := by decide +kernel
theorem dX7_behind_13 : decode cX7_behind 13 = .ok (.aload_n 0, 1) := by decide +kernel
theorem dX7_behind_14 : decode cX7_behind 14 = .ok (.getfield 39, 3) := by decide +kernel
theorem dX7_behind_17 : decode cX7_behind 17 = .ok (.getfield 76, 3) := by decide +kernel
theorem dX7_behind_20 : decode cX7_behind 20 = .ok (.iadd, 1) := by decide +kernel
theorem dX7_behind_21 : decode cX7_behind 21 = .ok (.invokestatic 71, 3) := by decide +kernel
theorem dX7_behind_24 : decode cX7_behind 24 = .ok (.ifCond .ne 6, 3) := by decide +kernel
theorem dX7_behind_27 : decode cX7_behind 27 = .ok (.ldc 75, 2) := by decide +kernel
theorem dX7_behind_29 : decode cX7_behind 29 = .ok (.ireturn, 1) := by decide +kernel
theorem dX7_behind_30 : decode cX7_behind 30 = .ok (.aload_n 0, 1) := by decide +kernel
theorem dX7_behind_31 : decode cX7_behind 31 = .ok (.getfield 46, 3) := by decide +kernel
theorem dX7_behind_34 : decode cX7_behind 34 = .ok (.aload_n 0, 1) := by decide +kernel
theorem dX7_behind_35 : decode cX7_behind 35 = .ok (.getfield 39, 3) := by decide +kernel
theorem dX7_behind_38 : decode cX7_behind 38 = .ok (.invokevirtual 191, 3) := by decide +kernel
theorem dX7_behind_41 : decode cX7_behind 41 = .ok (.aload_n 0, 1) := by decide +kernel
theorem dX7_behind_42 : decode cX7_behind 42 = .ok (.getfield 46, 3) := by decide +kernel
theorem dX7_behind_45 : decode cX7_behind 45 = .ok (.iload_n 1, 1) := by decide +kernel
theorem dX7_behind_46 : decode cX7_behind 46 = .ok (.invokevirtual 171, 3) := by decide +kernel
theorem dX7_behind_49 : decode cX7_behind 49 = .ok (.iload_n 2, 1) := by decide +kernel
theorem dX7_behind_50 : decode cX7_behind 50 = .ok (.tableswitch 53 0 2 #[26, 37, 45], 26) := by decide +kernel
theorem dX7_behind_76 : decode cX7_behind 76 = .ok (.aload_n 0, 1) := by decide +kernel
theorem dX7_behind_77 : decode cX7_behind 77 = .ok (.getfield 46, 3) := by decide +kernel
theorem dX7_behind_80 : decode cX7_behind 80 = .ok (.getfield 140, 3) := by decide +kernel
theorem dX7_behind_83 : decode cX7_behind 83 = .ok (.invokestatic 175, 3) := by decide +kernel
theorem dX7_behind_86 : decode cX7_behind 86 = .ok (.ireturn, 1) := by decide +kernel
theorem dX7_behind_87 : decode cX7_behind 87 = .ok (.aload_n 0, 1) := by decide +kernel
theorem dX7_behind_88 : decode cX7_behind 88 = .ok (.getfield 46, 3) := by decide +kernel
theorem dX7_behind_91 : decode cX7_behind 91 = .ok (.getfield 179, 3) := by decide +kernel
theorem dX7_behind_94 : decode cX7_behind 94 = .ok (.ireturn, 1) := by decide +kernel
theorem dX7_behind_95 : decode cX7_behind 95 = .ok (.aload_n 0, 1) := by decide +kernel
theorem dX7_behind_96 : decode cX7_behind 96 = .ok (.getfield 46, 3) := by decide +kernel
theorem dX7_behind_99 : decode cX7_behind 99 = .ok (.getfield 182, 3) := by decide +kernel
theorem dX7_behind_102 : decode cX7_behind 102 = .ok (.ireturn, 1) := by decide +kernel
theorem dX7_behind_103 : decode cX7_behind 103 = .ok (.aload_n 0, 1) := by decide +kernel
theorem dX7_behind_104 : decode cX7_behind 104 = .ok (.getfield 46, 3) := by decide +kernel
theorem dX7_behind_107 : decode cX7_behind 107 = .ok (.getfield 88, 3) := by decide +kernel
theorem dX7_behind_110 : decode cX7_behind 110 = .ok (.iload_n 2, 1) := by decide +kernel
theorem dX7_behind_111 : decode cX7_behind 111 = .ok (.iconst 3, 1) := by decide +kernel
theorem dX7_behind_112 : decode cX7_behind 112 = .ok (.isub, 1) := by decide +kernel
theorem dX7_behind_113 : decode cX7_behind 113 = .ok (.aaload, 1) := by decide +kernel
theorem dX7_behind_114 : decode cX7_behind 114 = .ok (.getfield 103, 3) := by decide +kernel
theorem dX7_behind_117 : decode cX7_behind 117 = .ok (.ireturn, 1) := by decide +kernel
theorem dX7_empty_0 : decode cX7_empty 0 = .ok (.aload_n 0, 1) := by decide +kernel
theorem dX7_empty_1 : decode cX7_empty 1 = .ok (.getfield 46, 3) := by decide +kernel
theorem dX7_empty_4 : decode cX7_empty 4 = .ok (.aload_n 0, 1) := by decide +kernel
theorem dX7_empty_5 : decode cX7_empty 5 = .ok (.getfield 39, 3) := by decide +kernel
theorem dX7_empty_8 : decode cX7_empty 8 = .ok (.invokevirtual 191, 3) := by decide +kernel
theorem dX7_empty_11 : decode cX7_empty 11 = .ok (.iconst 0, 1) := by decide +kernel
theorem dX7_empty_12 : decode cX7_empty 12 = .ok (.istore_n 1, 1) := by decide +kernel
theorem dX7_empty_13 : decode cX7_empty 13 = .ok (.iload_n 1, 1) := by decide +kernel
theorem dX7_empty_14 : decode cX7_empty 14 = .ok (.sipush 300, 3) := by decide +kernel
theorem dX7_empty_17 : decode cX7_empty 17 = .ok (.if_icmp .gt 29, 3) := by decide +kernel
theorem dX7_empty_20 : decode cX7_empty 20 = .ok (.aload_n 0, 1) := by decide +kernel
theorem dX7_empty_21 : decode cX7_empty 21 = .ok (.getfield 46, 3) := by decide +kernel
theorem dX7_empty_24 : decode cX7_empty 24 = .ok (.invokevirtual 195, 3) := by decide +kernel
theorem dX7_empty_27 : decode cX7_empty 27 = .ok (.ifCond .eq 5, 3) := by decide +kernel
theorem dX7_empty_30 : decode cX7_empty 30 = .ok (.iload_n 1, 1) := by decide +kernel
theorem dX7_empty_31 : decode cX7_empty 31 = .ok (.ireturn, 1) := by decide +kernel
theorem dX7_empty_32 : decode cX7_empty 32 = .ok (.aload_n 0, 1) := by decide +kernel
theorem dX7_empty_33 : decode cX7_empty 33 = .ok (.getfield 46, 3) := by decide +kernel
theorem dX7_empty_36 : decode cX7_empty 36 = .ok (.iconst 1, 1) := by decide +kernel
theorem dX7_empty_37 : decode cX7_empty 37 = .ok (.invokevirtual 171, 3) := by decide +kernel
theorem dX7_empty_40 : decode cX7_empty 40 = .ok (.iinc 1 1, 3) := by decide +kernel
theorem dX7_empty_43 : decode cX7_empty 43 = .ok (.goto (-30), 3) := by decide +kernel
theorem dX7_empty_46 : decode cX7_empty 46 = .ok (.ldc 199, 2) := by decide +kernel
theorem dX7_empty_48 : decode cX7_empty 48 = .ok (.ireturn, 1) := by decide +kernel
theorem dX7_thickest_0 : decode cX7_thickest 0 = .ok (.iload_n 1, 1) := by decide +kernel
theorem dX7_thickest_1 : decode cX7_thickest 1 = .ok (.iconst 0, 1) := by decide +kernel
theorem dX7_thickest_2 : decode cX7_thickest 2 = .ok (.bipush 100, 2) := by decide +kernel
theorem dX7_thickest_4 : decode cX7_thickest 4 = .ok (.invokestatic 71, 3) := by decide +kernel
theorem dX7_thickest_7 : decode cX7_thickest 7 = .ok (.ifCond .eq 12, 3) := by decide +kernel
theorem dX7_thickest_10 : decode cX7_thickest 10 = .ok (.iload_n 2, 1) := by decide +kernel
theorem dX7_thickest_11 : decode cX7_thickest 11 = .ok (.iconst 0, 1) := by decide +kernel
theorem dX7_thickest_12 : decode cX7_thickest 12 = .ok (.iconst 1, 1) := by decide +kernel
theorem dX7_thickest_13 : decode cX7_thickest 13 = .ok (.invokestatic 71, 3) := by decide +kernel
theorem dX7_thickest_16 : decode cX7_thickest 16 = .ok (.ifCond .ne 6, 3) := by decide +kernel
theorem dX7_thickest_19 : decode cX7_thickest 19 = .ok (.ldc 75, 2) := by decide +kernel
theorem dX7_thickest_21 : decode cX7_thickest 21 = .ok (.ireturn, 1) := by decide +kernel
theorem dX7_thickest_22 : decode cX7_thickest 22 = .ok (.aload_n 0, 1) := by decide +kernel
theorem dX7_thickest_23 : decode cX7_thickest 23 = .ok (.getfield 46, 3) := by decide +kernel
theorem dX7_thickest_26 : decode cX7_thickest 26 = .ok (.aload_n 0, 1) := by decide +kernel
theorem dX7_thickest_27 : decode cX7_thickest 27 = .ok (.getfield 39, 3) := by decide +kernel
theorem dX7_thickest_30 : decode cX7_thickest 30 = .ok (.invokevirtual 191, 3) := by decide +kernel
theorem dX7_thickest_33 : decode cX7_thickest 33 = .ok (.aload_n 0, 1) := by decide +kernel
theorem dX7_thickest_34 : decode cX7_thickest 34 = .ok (.getfield 46, 3) := by decide +kernel
theorem dX7_thickest_37 : decode cX7_thickest 37 = .ok (.iload_n 1, 1) := by decide +kernel
theorem dX7_thickest_38 : decode cX7_thickest 38 = .ok (.invokevirtual 171, 3) := by decide +kernel
theorem dX7_thickest_41 : decode cX7_thickest 41 = .ok (.aload_n 0, 1) := by decide +kernel
theorem dX7_thickest_42 : decode cX7_thickest 42 = .ok (.getfield 46, 3) := by decide +kernel
theorem dX7_thickest_45 : decode cX7_thickest 45 = .ok (.invokevirtual 200, 3) := by decide +kernel
theorem dX7_thickest_48 : decode cX7_thickest 48 = .ok (.istore_n 3, 1) := by decide +kernel
theorem dX7_thickest_49 : decode cX7_thickest 49 = .ok (.iload_n 2, 1) := by decide +kernel
theorem dX7_thickest_50 : decode cX7_thickest 50 = .ok (.ifCond .ne 7, 3) := by decide +kernel
theorem dX7_thickest_53 : decode cX7_thickest 53 = .ok (.iload_n 3, 1) := by decide +kernel
theorem dX7_thickest_54 : decode cX7_thickest 54 = .ok (.goto 12, 3) := by decide +kernel
theorem dX7_thickest_57 : decode cX7_thickest 57 = .ok (.aload_n 0, 1) := by decide +kernel
theorem dX7_thickest_58 : decode cX7_thickest 58 = .ok (.getfield 46, 3) := by decide +kernel
theorem dX7_thickest_61 : decode cX7_thickest 61 = .ok (.getfield 140, 3) := by decide +kernel
theorem dX7_thickest_64 : decode cX7_thickest 64 = .ok (.iload_n 3, 1) := by decide +kernel
theorem dX7_thickest_65 : decode cX7_thickest 65 = .ok (.iaload, 1) := by decide +kernel
theorem dX7_thickest_66 : decode cX7_thickest 66 = .ok (.ireturn, 1) := by decide +kernel
theorem dX7_patch_0 : decode cX7_patch 0 = .ok (.iload_n 1, 1) := by decide +kernel
theorem dX7_patch_1 : decode cX7_patch 1 = .ok (.iconst 1, 1) := by decide +kernel
theorem dX7_patch_2 : decode cX7_patch 2 = .ok (.bipush 60, 2) := by decide +kernel
theorem dX7_patch_4 : decode cX7_patch 4 = .ok (.invokestatic 71, 3) := by decide +kernel
theorem dX7_patch_7 : decode cX7_patch 7 = .ok (.ifCond .eq 12, 3) := by decide +kernel
theorem dX7_patch_10 : decode cX7_patch 10 = .ok (.iload_n 2, 1) := by decide +kernel
theorem dX7_patch_11 : decode cX7_patch 11 = .ok (.iconst 0, 1) := by decide +kernel
theorem dX7_patch_12 : decode cX7_patch 12 = .ok (.iconst 1, 1) := by decide +kernel
theorem dX7_patch_13 : decode cX7_patch 13 = .ok (.invokestatic 71, 3) := by decide +kernel
theorem dX7_patch_16 : decode cX7_patch 16 = .ok (.ifCond .ne 6, 3) := by decide +kernel
theorem dX7_patch_19 : decode cX7_patch 19 = .ok (.ldc 75, 2) := by decide +kernel
theorem dX7_patch_21 : decode cX7_patch 21 = .ok (.ireturn, 1) := by decide +kernel
theorem dX7_patch_22 : decode cX7_patch 22 = .ok (.aload_n 0, 1) := by decide +kernel
theorem dX7_patch_23 : decode cX7_patch 23 = .ok (.getfield 39, 3) := by decide +kernel
theorem dX7_patch_26 : decode cX7_patch 26 = .ok (.getfield 76, 3) := by decide +kernel
theorem dX7_patch_29 : decode cX7_patch 29 = .ok (.ifCond .ne 6, 3) := by decide +kernel
theorem dX7_patch_32 : decode cX7_patch 32 = .ok (.ldc 199, 2) := by decide +kernel
theorem dX7_patch_34 : decode cX7_patch 34 = .ok (.ireturn, 1) := by decide +kernel
theorem dX7_patch_35 : decode cX7_patch 35 = .ok (.iconst 0, 1) := by decide +kernel
theorem dX7_patch_36 : decode cX7_patch 36 = .ok (.istore_n 3, 1) := by decide +kernel
theorem dX7_patch_37 : decode cX7_patch 37 = .ok (.aload_n 0, 1) := by decide +kernel
theorem dX7_patch_38 : decode cX7_patch 38 = .ok (.iconst 0, 1) := by decide +kernel
theorem dX7_patch_39 : decode cX7_patch 39 = .ok (.iload_n 1, 1) := by decide +kernel
theorem dX7_patch_40 : decode cX7_patch 40 = .ok (.invokevirtual 203, 3) := by decide +kernel
theorem dX7_patch_43 : decode cX7_patch 43 = .ok (.istore 4, 2) := by decide +kernel
theorem dX7_patch_45 : decode cX7_patch 45 = .ok (.iconst 1, 1) := by decide +kernel
theorem dX7_patch_46 : decode cX7_patch 46 = .ok (.istore 5, 2) := by decide +kernel
theorem dX7_patch_48 : decode cX7_patch 48 = .ok (.iload 5, 2) := by decide +kernel
theorem dX7_patch_50 : decode cX7_patch 50 = .ok (.aload_n 0, 1) := by decide +kernel
theorem dX7_patch_51 : decode cX7_patch 51 = .ok (.getfield 39, 3) := by decide +kernel
theorem dX7_patch_54 : decode cX7_patch 54 = .ok (.getfield 76, 3) := by decide +kernel
theorem dX7_patch_57 : decode cX7_patch 57 = .ok (.if_icmp .ge 32, 3) := by decide +kernel
theorem dX7_patch_60 : decode cX7_patch 60 = .ok (.aload_n 0, 1) := by decide +kernel
theorem dX7_patch_61 : decode cX7_patch 61 = .ok (.iload 5, 2) := by decide +kernel
theorem dX7_patch_63 : decode cX7_patch 63 = .ok (.iload_n 1, 1) := by decide +kernel
theorem dX7_patch_64 : decode cX7_patch 64 = .ok (.invokevirtual 203, 3) := by decide +kernel
theorem dX7_patch_67 : decode cX7_patch 67 = .ok (.istore 6, 2) := by decide +kernel
theorem dX7_patch_69 : decode cX7_patch 69 = .ok (.iload 6, 2) := by decide +kernel
theorem dX7_patch_71 : decode cX7_patch 71 = .ok (.iload 4, 2) := by decide +kernel
theorem dX7_patch_73 : decode cX7_patch 73 = .ok (.if_icmp .le 10, 3) := by decide +kernel
theorem dX7_patch_76 : decode cX7_patch 76 = .ok (.iload 5, 2) := by decide +kernel
theorem dX7_patch_78 : decode cX7_patch 78 = .ok (.istore_n 3, 1) := by decide +kernel
theorem dX7_patch_79 : decode cX7_patch 79 = .ok (.iload 6, 2) := by decide +kernel
theorem dX7_patch_81 : decode cX7_patch 81 = .ok (.istore 4, 2) := by decide +kernel
theorem dX7_patch_83 : decode cX7_patch 83 = .ok (.iinc 5 1, 3) := by decide +kernel
theorem dX7_patch_86 : decode cX7_patch 86 = .ok (.goto (-38), 3) := by decide +kernel
theorem dX7_patch_89 : decode cX7_patch 89 = .ok (.iload_n 2, 1) := by decide +kernel
theorem dX7_patch_90 : decode cX7_patch 90 = .ok (.ifCond .ne 7, 3) := by decide +kernel
theorem dX7_patch_93 : decode cX7_patch 93 = .ok (.iload_n 3, 1) := by decide +kernel
theorem dX7_patch_94 : decode cX7_patch 94 = .ok (.goto 5, 3) := by decide +kernel
theorem dX7_patch_97 : decode cX7_patch 97 = .ok (.iload 4, 2) := by decide +kernel
theorem dX7_patch_99 : decode cX7_patch 99 = .ok (.ireturn, 1) := by decide +kernel
theorem dX7_pan_0 : decode cX7_pan 0 = .ok (.iload_n 1, 1) := by decide +kernel
theorem dX7_pan_1 : decode cX7_pan 1 = .ok (.iconst 0, 1) := by decide +kernel
theorem dX7_pan_2 : decode cX7_pan 2 = .ok (.bipush 9, 2) := by decide +kernel
theorem dX7_pan_4 : decode cX7_pan 4 = .ok (.invokestatic 71, 3) := by decide +kernel
theorem dX7_pan_7 : decode cX7_pan 7 = .ok (.ifCond .eq 13, 3) := by decide +kernel
theorem dX7_pan_10 : decode cX7_pan 10 = .ok (.iload_n 2, 1) := by decide +kernel
theorem dX7_pan_11 : decode cX7_pan 11 = .ok (.iconst 1, 1) := by decide +kernel
theorem dX7_pan_12 : decode cX7_pan 12 = .ok (.bipush 60, 2) := by decide +kernel
theorem dX7_pan_14 : decode cX7_pan 14 = .ok (.invokestatic 71, 3) := by decide +kernel
theorem dX7_pan_17 : decode cX7_pan 17 = .ok (.ifCond .ne 6, 3) := by decide +kernel
theorem dX7_pan_20 : decode cX7_pan 20 = .ok (.ldc 75, 2) := by decide +kernel
theorem dX7_pan_22 : decode cX7_pan 22 = .ok (.ireturn, 1) := by decide +kernel
theorem dX7_pan_23 : decode cX7_pan 23 = .ok (.aload_n 0, 1) := by decide +kernel
theorem dX7_pan_24 : decode cX7_pan 24 = .ok (.getfield 46, 3) := by decide +kernel
theorem dX7_pan_27 : decode cX7_pan 27 = .ok (.aload_n 0, 1) := by decide +kernel
theorem dX7_pan_28 : decode cX7_pan 28 = .ok (.getfield 39, 3) := by decide +kernel
theorem dX7_pan_31 : decode cX7_pan 31 = .ok (.invokevirtual 191, 3) := by decide +kernel
theorem dX7_pan_34 : decode cX7_pan 34 = .ok (.iconst 0, 1) := by decide +kernel
theorem dX7_pan_35 : decode cX7_pan 35 = .ok (.istore_n 3, 1) := by decide +kernel
theorem dX7_pan_36 : decode cX7_pan 36 = .ok (.iconst 1, 1) := by decide +kernel
theorem dX7_pan_37 : decode cX7_pan 37 = .ok (.istore 4, 2) := by decide +kernel
theorem dX7_pan_39 : decode cX7_pan 39 = .ok (.iload 4, 2) := by decide +kernel
theorem dX7_pan_41 : decode cX7_pan 41 = .ok (.iload_n 2, 1) := by decide +kernel
theorem dX7_pan_42 : decode cX7_pan 42 = .ok (.if_icmp .gt 36, 3) := by decide +kernel
theorem dX7_pan_45 : decode cX7_pan 45 = .ok (.aload_n 0, 1) := by decide +kernel
theorem dX7_pan_46 : decode cX7_pan 46 = .ok (.getfield 46, 3) := by decide +kernel
theorem dX7_pan_49 : decode cX7_pan 49 = .ok (.iconst 1, 1) := by decide +kernel
theorem dX7_pan_50 : decode cX7_pan 50 = .ok (.invokevirtual 171, 3) := by decide +kernel
theorem dX7_pan_53 : decode cX7_pan 53 = .ok (.iload_n 3, 1) := by decide +kernel
theorem dX7_pan_54 : decode cX7_pan 54 = .ok (.aload_n 0, 1) := by decide +kernel
theorem dX7_pan_55 : decode cX7_pan 55 = .ok (.getfield 46, 3) := by decide +kernel
theorem dX7_pan_58 : decode cX7_pan 58 = .ok (.iload_n 1, 1) := by decide +kernel
theorem dX7_pan_59 : decode cX7_pan 59 = .ok (.iload 4, 2) := by decide +kernel
theorem dX7_pan_61 : decode cX7_pan 61 = .ok (.imul, 1) := by decide +kernel
theorem dX7_pan_62 : decode cX7_pan 62 = .ok (.bipush 59, 2) := by decide +kernel
theorem dX7_pan_64 : decode cX7_pan 64 = .ok (.invokestatic 153, 3) := by decide +kernel
theorem dX7_pan_67 : decode cX7_pan 67 = .ok (.invokevirtual 146, 3) := by decide +kernel
theorem dX7_pan_70 : decode cX7_pan 70 = .ok (.iadd, 1) := by decide +kernel
theorem dX7_pan_71 : decode cX7_pan 71 = .ok (.istore_n 3, 1) := by decide +kernel
theorem dX7_pan_72 : decode cX7_pan 72 = .ok (.iinc 4 1, 3) := by decide +kernel
theorem dX7_pan_75 : decode cX7_pan 75 = .ok (.goto (-36), 3) := by decide +kernel
theorem dX7_pan_78 : decode cX7_pan 78 = .ok (.iload_n 3, 1) := by decide +kernel
theorem dX7_pan_79 : decode cX7_pan 79 = .ok (.ireturn, 1) := by decide +kernel
theorem dX7_whose_0 : decode cX7_whose 0 = .ok (.iload_n 1, 1) := by decide +kernel
theorem dX7_whose_1 : decode cX7_whose 1 = .ok (.invokestatic 206, 3) := by decide +kernel
theorem dX7_whose_4 : decode cX7_whose 4 = .ok (.ifCond .eq 22, 3) := by decide +kernel
theorem dX7_whose_7 : decode cX7_whose 7 = .ok (.iload_n 2, 1) := by decide +kernel
theorem dX7_whose_8 : decode cX7_whose 8 = .ok (.iconst 0, 1) := by decide +kernel
theorem dX7_whose_9 : decode cX7_whose 9 = .ok (.bipush 60, 2) := by decide +kernel
theorem dX7_whose_11 : decode cX7_whose 11 = .ok (.invokestatic 71, 3) := by decide +kernel
theorem dX7_whose_14 : decode cX7_whose 14 = .ok (.ifCond .eq 12, 3) := by decide +kernel
theorem dX7_whose_17 : decode cX7_whose 17 = .ok (.iload_n 3, 1) := by decide +kernel
theorem dX7_whose_18 : decode cX7_whose 18 = .ok (.iconst 0, 1) := by decide +kernel
theorem dX7_whose_19 : decode cX7_whose 19 = .ok (.iconst 1, 1) := by decide +kernel
theorem dX7_whose_20 : decode cX7_whose 20 = .ok (.invokestatic 71, 3) := by decide +kernel
theorem dX7_whose_23 : decode cX7_whose 23 = .ok (.ifCond .ne 6, 3) := by decide +kernel
theorem dX7_whose_26 : decode cX7_whose 26 = .ok (.ldc 75, 2) := by decide +kernel
theorem dX7_whose_28 : decode cX7_whose 28 = .ok (.ireturn, 1) := by decide +kernel
theorem dX7_whose_29 : decode cX7_whose 29 = .ok (.aload_n 0, 1) := by decide +kernel
theorem dX7_whose_30 : decode cX7_whose 30 = .ok (.getfield 51, 3) := by decide +kernel
theorem dX7_whose_33 : decode cX7_whose 33 = .ok (.iload_n 1, 1) := by decide +kernel
theorem dX7_whose_34 : decode cX7_whose 34 = .ok (.aaload, 1) := by decide +kernel
theorem dX7_whose_35 : decode cX7_whose 35 = .ok (.astore 4, 2) := by decide +kernel
theorem dX7_whose_37 : decode cX7_whose 37 = .ok (.aload 4, 2) := by decide +kernel
theorem dX7_whose_39 : decode cX7_whose 39 = .ok (.invokevirtual 209, 3) := by decide +kernel
theorem dX7_whose_42 : decode cX7_whose 42 = .ok (.ifCond .eq 6, 3) := by decide +kernel
theorem dX7_whose_45 : decode cX7_whose 45 = .ok (.ldc 212, 2) := by decide +kernel
theorem dX7_whose_47 : decode cX7_whose 47 = .ok (.ireturn, 1) := by decide +kernel
theorem dX7_whose_48 : decode cX7_whose 48 = .ok (.aload_n 0, 1) := by decide +kernel
theorem dX7_whose_49 : decode cX7_whose 49 = .ok (.getfield 39, 3) := by decide +kernel
theorem dX7_whose_52 : decode cX7_whose 52 = .ok (.getfield 76, 3) := by decide +kernel
theorem dX7_whose_55 : decode cX7_whose 55 = .ok (.ifCond .ne 6, 3) := by decide +kernel
theorem dX7_whose_58 : decode cX7_whose 58 = .ok (.ldc 199, 2) := by decide +kernel
theorem dX7_whose_60 : decode cX7_whose 60 = .ok (.ireturn, 1) := by decide +kernel
theorem dX7_whose_61 : decode cX7_whose 61 = .ok (.iconst 0, 1) := by decide +kernel
theorem dX7_whose_62 : decode cX7_whose 62 = .ok (.istore 5, 2) := by decide +kernel
theorem dX7_whose_64 : decode cX7_whose 64 = .ok (.aload_n 0, 1) := by decide +kernel
theorem dX7_whose_65 : decode cX7_whose 65 = .ok (.iconst 0, 1) := by decide +kernel
theorem dX7_whose_66 : decode cX7_whose 66 = .ok (.iload_n 2, 1) := by decide +kernel
theorem dX7_whose_67 : decode cX7_whose 67 = .ok (.aload 4, 2) := by decide +kernel
theorem dX7_whose_69 : decode cX7_whose 69 = .ok (.invokevirtual 213, 3) := by decide +kernel
theorem dX7_whose_72 : decode cX7_whose 72 = .ok (.istore 6, 2) := by decide +kernel
theorem dX7_whose_74 : decode cX7_whose 74 = .ok (.iconst 1, 1) := by decide +kernel
theorem dX7_whose_75 : decode cX7_whose 75 = .ok (.istore 7, 2) := by decide +kernel
theorem dX7_whose_77 : decode cX7_whose 77 = .ok (.iload 7, 2) := by decide +kernel
theorem dX7_whose_79 : decode cX7_whose 79 = .ok (.aload_n 0, 1) := by decide +kernel
theorem dX7_whose_80 : decode cX7_whose 80 = .ok (.getfield 39, 3) := by decide +kernel
theorem dX7_whose_83 : decode cX7_whose 83 = .ok (.getfield 76, 3) := by decide +kernel
theorem dX7_whose_86 : decode cX7_whose 86 = .ok (.if_icmp .ge 35, 3) := by decide +kernel
theorem dX7_whose_89 : decode cX7_whose 89 = .ok (.aload_n 0, 1) := by decide +kernel
theorem dX7_whose_90 : decode cX7_whose 90 = .ok (.iload 7, 2) := by decide +kernel
theorem dX7_whose_92 : decode cX7_whose 92 = .ok (.iload_n 2, 1) := by decide +kernel
theorem dX7_whose_93 : decode cX7_whose 93 = .ok (.aload 4, 2) := by decide +kernel
theorem dX7_whose_95 : decode cX7_whose 95 = .ok (.invokevirtual 213, 3) := by decide +kernel
theorem dX7_whose_98 : decode cX7_whose 98 = .ok (.istore 8, 2) := by decide +kernel
theorem dX7_whose_100 : decode cX7_whose 100 = .ok (.iload 8, 2) := by decide +kernel
theorem dX7_whose_102 : decode cX7_whose 102 = .ok (.iload 6, 2) := by decide +kernel
theorem dX7_whose_104 : decode cX7_whose 104 = .ok (.if_icmp .ge 11, 3) := by decide +kernel
theorem dX7_whose_107 : decode cX7_whose 107 = .ok (.iload 7, 2) := by decide +kernel
theorem dX7_whose_109 : decode cX7_whose 109 = .ok (.istore 5, 2) := by decide +kernel
theorem dX7_whose_111 : decode cX7_whose 111 = .ok (.iload 8, 2) := by decide +kernel
theorem dX7_whose_113 : decode cX7_whose 113 = .ok (.istore 6, 2) := by decide +kernel
theorem dX7_whose_115 : decode cX7_whose 115 = .ok (.iinc 7 1, 3) := by decide +kernel
theorem dX7_whose_118 : decode cX7_whose 118 = .ok (.goto (-41), 3) := by decide +kernel
theorem dX7_whose_121 : decode cX7_whose 121 = .ok (.iload_n 3, 1) := by decide +kernel
theorem dX7_whose_122 : decode cX7_whose 122 = .ok (.ifCond .ne 8, 3) := by decide +kernel
theorem dX7_whose_125 : decode cX7_whose 125 = .ok (.iload 5, 2) := by decide +kernel
theorem dX7_whose_127 : decode cX7_whose 127 = .ok (.goto 5, 3) := by decide +kernel
theorem dX7_whose_130 : decode cX7_whose 130 = .ok (.iload 6, 2) := by decide +kernel
theorem dX7_whose_132 : decode cX7_whose 132 = .ok (.ireturn, 1) := by decide +kernel
theorem dX7_fee_0 : decode cX7_fee 0 = .ok (.aload_n 0, 1) := by decide +kernel
theorem dX7_fee_1 : decode cX7_fee 1 = .ok (.getfield 39, 3) := by decide +kernel
theorem dX7_fee_4 : decode cX7_fee 4 = .ok (.iconst 1, 1) := by decide +kernel
theorem dX7_fee_5 : decode cX7_fee 5 = .ok (.aload_n 0, 1) := by decide +kernel
theorem dX7_fee_6 : decode cX7_fee 6 = .ok (.getfield 39, 3) := by decide +kernel
theorem dX7_fee_9 : decode cX7_fee 9 = .ok (.getfield 179, 3) := by decide +kernel
theorem dX7_fee_12 : decode cX7_fee 12 = .ok (.aload_n 0, 1) := by decide +kernel
theorem dX7_fee_13 : decode cX7_fee 13 = .ok (.getfield 39, 3) := by decide +kernel
theorem dX7_fee_16 : decode cX7_fee 16 = .ok (.getfield 179, 3) := by decide +kernel
theorem dX7_fee_19 : decode cX7_fee 19 = .ok (.aload_n 0, 1) := by decide +kernel
theorem dX7_fee_20 : decode cX7_fee 20 = .ok (.getfield 39, 3) := by decide +kernel
theorem dX7_fee_23 : decode cX7_fee 23 = .ok (.getfield 182, 3) := by decide +kernel
theorem dX7_fee_26 : decode cX7_fee 26 = .ok (.iconst 0, 1) := by decide +kernel
theorem dX7_fee_27 : decode cX7_fee 27 = .ok (.invokevirtual 217, 3) := by decide +kernel
theorem dX7_fee_30 : decode cX7_fee 30 = .ok (.ireturn, 1) := by decide +kernel
theorem dX7_fine_0 : decode cX7_fine 0 = .ok (.aload_n 0, 1) := by decide +kernel
theorem dX7_fine_1 : decode cX7_fine 1 = .ok (.iload_n 1, 1) := by decide +kernel
theorem dX7_fine_2 : decode cX7_fine 2 = .ok (.invokevirtual 85, 3) := by decide +kernel
theorem dX7_fine_5 : decode cX7_fine 5 = .ok (.ifCond .ne 6, 3) := by decide +kernel
theorem dX7_fine_8 : decode cX7_fine 8 = .ok (.ldc 75, 2) := by decide +kernel
theorem dX7_fine_10 : decode cX7_fine 10 = .ok (.ireturn, 1) := by decide +kernel
theorem dX7_fine_11 : decode cX7_fine 11 = .ok (.aload_n 0, 1) := by decide +kernel
theorem dX7_fine_12 : decode cX7_fine 12 = .ok (.getfield 39, 3) := by decide +kernel
theorem dX7_fine_15 : decode cX7_fine 15 = .ok (.getfield 88, 3) := by decide +kernel
theorem dX7_fine_18 : decode cX7_fine 18 = .ok (.iload_n 1, 1) := by decide +kernel
theorem dX7_fine_19 : decode cX7_fine 19 = .ok (.aaload, 1) := by decide +kernel
theorem dX7_fine_20 : decode cX7_fine 20 = .ok (.astore_n 2, 1) := by decide +kernel
theorem dX7_fine_21 : decode cX7_fine 21 = .ok (.aload_n 0, 1) := by decide +kernel
theorem dX7_fine_22 : decode cX7_fine 22 = .ok (.getfield 39, 3) := by decide +kernel
theorem dX7_fine_25 : decode cX7_fine 25 = .ok (.iconst 2, 1) := by decide +kernel
theorem dX7_fine_26 : decode cX7_fine 26 = .ok (.aload_n 2, 1) := by decide +kernel
theorem dX7_fine_27 : decode cX7_fine 27 = .ok (.getfield 103, 3) := by decide +kernel
theorem dX7_fine_30 : decode cX7_fine 30 = .ok (.aload_n 2, 1) := by decide +kernel
theorem dX7_fine_31 : decode cX7_fine 31 = .ok (.getfield 103, 3) := by decide +kernel
theorem dX7_fine_34 : decode cX7_fine 34 = .ok (.aload_n 2, 1) := by decide +kernel
theorem dX7_fine_35 : decode cX7_fine 35 = .ok (.getfield 100, 3) := by decide +kernel
theorem dX7_fine_38 : decode cX7_fine 38 = .ok (.iconst 0, 1) := by decide +kernel
theorem dX7_fine_39 : decode cX7_fine 39 = .ok (.invokevirtual 217, 3) := by decide +kernel
theorem dX7_fine_42 : decode cX7_fine 42 = .ok (.ireturn, 1) := by decide +kernel
theorem dX7_feed_0 : decode cX7_feed 0 = .ok (.aload_n 0, 1) := by decide +kernel
theorem dX7_feed_1 : decode cX7_feed 1 = .ok (.getfield 21, 3) := by decide +kernel
theorem dX7_feed_4 : decode cX7_feed 4 = .ok (.getfield 221, 3) := by decide +kernel
theorem dX7_feed_7 : decode cX7_feed 7 = .ok (.bipush 12, 2) := by decide +kernel
theorem dX7_feed_9 : decode cX7_feed 9 = .ok (.iadd, 1) := by decide +kernel
theorem dX7_feed_10 : decode cX7_feed 10 = .ok (.bipush 96, 2) := by decide +kernel
theorem dX7_feed_12 : decode cX7_feed 12 = .ok (.if_icmp .le 6, 3) := by decide +kernel
theorem dX7_feed_15 : decode cX7_feed 15 = .ok (.ldc 80, 2) := by decide +kernel
theorem dX7_feed_17 : decode cX7_feed 17 = .ok (.ireturn, 1) := by decide +kernel
theorem dX7_feed_18 : decode cX7_feed 18 = .ok (.aload_n 0, 1) := by decide +kernel
theorem dX7_feed_19 : decode cX7_feed 19 = .ok (.getfield 21, 3) := by decide +kernel
theorem dX7_feed_22 : decode cX7_feed 22 = .ok (.iload_n 1, 1) := by decide +kernel
theorem dX7_feed_23 : decode cX7_feed 23 = .ok (.invokevirtual 224, 3) := by decide +kernel
theorem dX7_feed_26 : decode cX7_feed 26 = .ok (.aload_n 0, 1) := by decide +kernel
theorem dX7_feed_27 : decode cX7_feed 27 = .ok (.getfield 21, 3) := by decide +kernel
theorem dX7_feed_30 : decode cX7_feed 30 = .ok (.iload_n 2, 1) := by decide +kernel
theorem dX7_feed_31 : decode cX7_feed 31 = .ok (.invokevirtual 224, 3) := by decide +kernel
theorem dX7_feed_34 : decode cX7_feed 34 = .ok (.aload_n 0, 1) := by decide +kernel
theorem dX7_feed_35 : decode cX7_feed 35 = .ok (.getfield 21, 3) := by decide +kernel
theorem dX7_feed_38 : decode cX7_feed 38 = .ok (.iload_n 3, 1) := by decide +kernel
theorem dX7_feed_39 : decode cX7_feed 39 = .ok (.invokevirtual 224, 3) := by decide +kernel
theorem dX7_feed_42 : decode cX7_feed 42 = .ok (.aload_n 0, 1) := by decide +kernel
theorem dX7_feed_43 : decode cX7_feed 43 = .ok (.getfield 21, 3) := by decide +kernel
theorem dX7_feed_46 : decode cX7_feed 46 = .ok (.getfield 221, 3) := by decide +kernel
theorem dX7_feed_49 : decode cX7_feed 49 = .ok (.ireturn, 1) := by decide +kernel
theorem dX7_trim_0 : decode cX7_trim 0 = .ok (.iload_n 1, 1) := by decide +kernel
theorem dX7_trim_1 : decode cX7_trim 1 = .ok (.iconst 0, 1) := by decide +kernel
theorem dX7_trim_2 : decode cX7_trim 2 = .ok (.aload_n 0, 1) := by decide +kernel
theorem dX7_trim_3 : decode cX7_trim 3 = .ok (.getfield 21, 3) := by decide +kernel
theorem dX7_trim_6 : decode cX7_trim 6 = .ok (.getfield 221, 3) := by decide +kernel
theorem dX7_trim_9 : decode cX7_trim 9 = .ok (.invokestatic 71, 3) := by decide +kernel
theorem dX7_trim_12 : decode cX7_trim 12 = .ok (.ifCond .ne 6, 3) := by decide +kernel
theorem dX7_trim_15 : decode cX7_trim 15 = .ok (.ldc 75, 2) := by decide +kernel
theorem dX7_trim_17 : decode cX7_trim 17 = .ok (.ireturn, 1) := by decide +kernel
theorem dX7_trim_18 : decode cX7_trim 18 = .ok (.aload_n 0, 1) := by decide +kernel
theorem dX7_trim_19 : decode cX7_trim 19 = .ok (.getfield 21, 3) := by decide +kernel
theorem dX7_trim_22 : decode cX7_trim 22 = .ok (.iload_n 1, 1) := by decide +kernel
theorem dX7_trim_23 : decode cX7_trim 23 = .ok (.putfield 221, 3) := by decide +kernel
theorem dX7_trim_26 : decode cX7_trim 26 = .ok (.iload_n 1, 1) := by decide +kernel
theorem dX7_trim_27 : decode cX7_trim 27 = .ok (.ireturn, 1) := by decide +kernel
theorem dX7_text_0 : decode cX7_text 0 = .ok (.aload_n 0, 1) := by decide +kernel
theorem dX7_text_1 : decode cX7_text 1 = .ok (.getfield 30, 3) := by decide +kernel
theorem dX7_text_4 : decode cX7_text 4 = .ok (.invokevirtual 227, 3) := by decide +kernel
theorem dX7_text_7 : decode cX7_text 7 = .ok (.istore_n 1, 1) := by decide +kernel
theorem dX7_text_8 : decode cX7_text 8 = .ok (.aload_n 0, 1) := by decide +kernel
theorem dX7_text_9 : decode cX7_text 9 = .ok (.getfield 21, 3) := by decide +kernel
theorem dX7_text_12 : decode cX7_text 12 = .ok (.iconst 0, 1) := by decide +kernel
theorem dX7_text_13 : decode cX7_text 13 = .ok (.putfield 221, 3) := by decide +kernel
theorem dX7_text_16 : decode cX7_text 16 = .ok (.iload_n 1, 1) := by decide +kernel
theorem dX7_text_17 : decode cX7_text 17 = .ok (.ifCond .ne 14, 3) := by decide +kernel
theorem dX7_text_20 : decode cX7_text 20 = .ok (.bipush (-100), 2) := by decide +kernel
theorem dX7_text_22 : decode cX7_text 22 = .ok (.aload_n 0, 1) := by decide +kernel
theorem dX7_text_23 : decode cX7_text 23 = .ok (.getfield 30, 3) := by decide +kernel
theorem dX7_text_26 : decode cX7_text 26 = .ok (.getfield 230, 3) := by decide +kernel
theorem dX7_text_29 : decode cX7_text 29 = .ok (.isub, 1) := by decide +kernel
theorem dX7_text_30 : decode cX7_text 30 = .ok (.ireturn, 1) := by decide +kernel
theorem dX7_text_31 : decode cX7_text 31 = .ok (.aload_n 0, 1) := by decide +kernel
theorem dX7_text_32 : decode cX7_text 32 = .ok (.getfield 39, 3) := by decide +kernel
theorem dX7_text_35 : decode cX7_text 35 = .ok (.getfield 233, 3) := by decide +kernel
theorem dX7_text_38 : decode cX7_text 38 = .ok (.bipush 14, 2) := by decide +kernel
theorem dX7_text_40 : decode cX7_text 40 = .ok (.if_icmp .lt 6, 3) := by decide +kernel
theorem dX7_text_43 : decode cX7_text 43 = .ok (.ldc 80, 2) := by decide +kernel
theorem dX7_text_45 : decode cX7_text 45 = .ok (.ireturn, 1) := by decide +kernel
theorem dX7_text_46 : decode cX7_text 46 = .ok (.aload_n 0, 1) := by decide +kernel
theorem dX7_text_47 : decode cX7_text 47 = .ok (.getfield 39, 3) := by decide +kernel
theorem dX7_text_50 : decode cX7_text 50 = .ok (.getfield 233, 3) := by decide +kernel
theorem dX7_text_53 : decode cX7_text 53 = .ok (.istore_n 2, 1) := by decide +kernel
theorem dX7_text_54 : decode cX7_text 54 = .ok (.aload_n 0, 1) := by decide +kernel
theorem dX7_text_55 : decode cX7_text 55 = .ok (.getfield 11, 3) := by decide +kernel
theorem dX7_text_58 : decode cX7_text 58 = .ok (.iload_n 2, 1) := by decide +kernel
theorem dX7_text_59 : decode cX7_text 59 = .ok (.aaload, 1) := by decide +kernel
theorem dX7_text_60 : decode cX7_text 60 = .ok (.aload_n 0, 1) := by decide +kernel
theorem dX7_text_61 : decode cX7_text 61 = .ok (.getfield 30, 3) := by decide +kernel
theorem dX7_text_64 : decode cX7_text 64 = .ok (.getfield 236, 3) := by decide +kernel
theorem dX7_text_67 : decode cX7_text 67 = .ok (.invokevirtual 240, 3) := by decide +kernel
theorem dX7_text_70 : decode cX7_text 70 = .ok (.aload_n 0, 1) := by decide +kernel
theorem dX7_text_71 : decode cX7_text 71 = .ok (.getfield 39, 3) := by decide +kernel
theorem dX7_text_74 : decode cX7_text 74 = .ok (.getfield 243, 3) := by decide +kernel
theorem dX7_text_77 : decode cX7_text 77 = .ok (.aload_n 0, 1) := by decide +kernel
theorem dX7_text_78 : decode cX7_text 78 = .ok (.getfield 30, 3) := by decide +kernel
theorem dX7_text_81 : decode cX7_text 81 = .ok (.getfield 236, 3) := by decide +kernel
theorem dX7_text_84 : decode cX7_text 84 = .ok (.getfield 246, 3) := by decide +kernel
theorem dX7_text_87 : decode cX7_text 87 = .ok (.iload_n 2, 1) := by decide +kernel
theorem dX7_text_88 : decode cX7_text 88 = .ok (.iastore, 1) := by decide +kernel
theorem dX7_text_89 : decode cX7_text 89 = .ok (.aload_n 0, 1) := by decide +kernel
theorem dX7_text_90 : decode cX7_text 90 = .ok (.getfield 39, 3) := by decide +kernel
theorem dX7_text_93 : decode cX7_text 93 = .ok (.iload_n 2, 1) := by decide +kernel
theorem dX7_text_94 : decode cX7_text 94 = .ok (.iconst 1, 1) := by decide +kernel
theorem dX7_text_95 : decode cX7_text 95 = .ok (.iadd, 1) := by decide +kernel
theorem dX7_text_96 : decode cX7_text 96 = .ok (.putfield 233, 3) := by decide +kernel
theorem dX7_text_99 : decode cX7_text 99 = .ok (.iload_n 2, 1) := by decide +kernel
theorem dX7_text_100 : decode cX7_text 100 = .ok (.ireturn, 1) := by decide +kernel
theorem dX7_textTold_0 : decode cX7_textTold 0 = .ok (.iload_n 1, 1) := by decide +kernel
theorem dX7_textTold_1 : decode cX7_textTold 1 = .ok (.iconst 0, 1) := by decide +kernel
theorem dX7_textTold_2 : decode cX7_textTold 2 = .ok (.aload_n 0, 1) := by decide +kernel
theorem dX7_textTold_3 : decode cX7_textTold 3 = .ok (.getfield 39, 3) := by decide +kernel
theorem dX7_textTold_6 : decode cX7_textTold 6 = .ok (.getfield 233, 3) := by decide +kernel
theorem dX7_textTold_9 : decode cX7_textTold 9 = .ok (.iconst 1, 1) := by decide +kernel
theorem dX7_textTold_10 : decode cX7_textTold 10 = .ok (.isub, 1) := by decide +kernel
theorem dX7_textTold_11 : decode cX7_textTold 11 = .ok (.invokestatic 71, 3) := by decide +kernel
theorem dX7_textTold_14 : decode cX7_textTold 14 = .ok (.ifCond .eq 12, 3) := by decide +kernel
theorem dX7_textTold_17 : decode cX7_textTold 17 = .ok (.iload_n 2, 1) := by decide +kernel
theorem dX7_textTold_18 : decode cX7_textTold 18 = .ok (.iconst 0, 1) := by decide +kernel
theorem dX7_textTold_19 : decode cX7_textTold 19 = .ok (.iconst 1, 1) := by decide +kernel
theorem dX7_textTold_20 : decode cX7_textTold 20 = .ok (.invokestatic 71, 3) := by decide +kernel
theorem dX7_textTold_23 : decode cX7_textTold 23 = .ok (.ifCond .ne 6, 3) := by decide +kernel
theorem dX7_textTold_26 : decode cX7_textTold 26 = .ok (.ldc 75, 2) := by decide +kernel
theorem dX7_textTold_28 : decode cX7_textTold 28 = .ok (.ireturn, 1) := by decide +kernel
theorem dX7_textTold_29 : decode cX7_textTold 29 = .ok (.iload_n 2, 1) := by decide +kernel
theorem dX7_textTold_30 : decode cX7_textTold 30 = .ok (.ifCond .ne 15, 3) := by decide +kernel
theorem dX7_textTold_33 : decode cX7_textTold 33 = .ok (.aload_n 0, 1) := by decide +kernel
theorem dX7_textTold_34 : decode cX7_textTold 34 = .ok (.getfield 11, 3) := by decide +kernel
theorem dX7_textTold_37 : decode cX7_textTold 37 = .ok (.iload_n 1, 1) := by decide +kernel
theorem dX7_textTold_38 : decode cX7_textTold 38 = .ok (.aaload, 1) := by decide +kernel
theorem dX7_textTold_39 : decode cX7_textTold 39 = .ok (.getfield 246, 3) := by decide +kernel
theorem dX7_textTold_42 : decode cX7_textTold 42 = .ok (.goto 12, 3) := by decide +kernel
theorem dX7_textTold_45 : decode cX7_textTold 45 = .ok (.aload_n 0, 1) := by decide +kernel
theorem dX7_textTold_46 : decode cX7_textTold 46 = .ok (.getfield 11, 3) := by decide +kernel
theorem dX7_textTold_49 : decode cX7_textTold 49 = .ok (.iload_n 1, 1) := by decide +kernel
theorem dX7_textTold_50 : decode cX7_textTold 50 = .ok (.aaload, 1) := by decide +kernel
theorem dX7_textTold_51 : decode cX7_textTold 51 = .ok (.getfield 249, 3) := by decide +kernel
theorem dX7_textTold_54 : decode cX7_textTold 54 = .ok (.ireturn, 1) := by decide +kernel
theorem dX7_why_0 : decode cX7_why 0 = .ok (.iload_n 1, 1) := by decide +kernel
theorem dX7_why_1 : decode cX7_why 1 = .ok (.iconst 0, 1) := by decide +kernel
theorem dX7_why_2 : decode cX7_why 2 = .ok (.iconst 2, 1) := by decide +kernel
theorem dX7_why_3 : decode cX7_why 3 = .ok (.invokestatic 71, 3) := by decide +kernel
theorem dX7_why_6 : decode cX7_why 6 = .ok (.ifCond .eq 15, 3) := by decide +kernel
theorem dX7_why_9 : decode cX7_why 9 = .ok (.aload_n 0, 1) := by decide +kernel
theorem dX7_why_10 : decode cX7_why 10 = .ok (.getfield 39, 3) := by decide +kernel
theorem dX7_why_13 : decode cX7_why 13 = .ok (.getfield 243, 3) := by decide +kernel
theorem dX7_why_16 : decode cX7_why 16 = .ok (.iload_n 1, 1) := by decide +kernel
theorem dX7_why_17 : decode cX7_why 17 = .ok (.iaload, 1) := by decide +kernel
theorem dX7_why_18 : decode cX7_why 18 = .ok (.goto 5, 3) := by decide +kernel
theorem dX7_why_21 : decode cX7_why 21 = .ok (.ldc 75, 2) := by decide +kernel
theorem dX7_why_23 : decode cX7_why 23 = .ok (.ireturn, 1) := by decide +kernel
theorem dX7_sheet_0 : decode cX7_sheet 0 = .ok (.iload_n 1, 1) := by decide +kernel
theorem dX7_sheet_1 : decode cX7_sheet 1 = .ok (.invokestatic 206, 3) := by decide +kernel
theorem dX7_sheet_4 : decode cX7_sheet 4 = .ok (.ifCond .eq 12, 3) := by decide +kernel
theorem dX7_sheet_7 : decode cX7_sheet 7 = .ok (.iload_n 2, 1) := by decide +kernel
theorem dX7_sheet_8 : decode cX7_sheet 8 = .ok (.iconst (-1), 1) := by decide +kernel
theorem dX7_sheet_9 : decode cX7_sheet 9 = .ok (.iconst 1, 1) := by decide +kernel
theorem dX7_sheet_10 : decode cX7_sheet 10 = .ok (.invokestatic 71, 3) := by decide +kernel
theorem dX7_sheet_13 : decode cX7_sheet 13 = .ok (.ifCond .ne 6, 3) := by decide +kernel
theorem dX7_sheet_16 : decode cX7_sheet 16 = .ok (.ldc 75, 2) := by decide +kernel
theorem dX7_sheet_18 : decode cX7_sheet 18 = .ok (.ireturn, 1) := by decide +kernel
theorem dX7_sheet_19 : decode cX7_sheet 19 = .ok (.iload_n 2, 1) := by decide +kernel
theorem dX7_sheet_20 : decode cX7_sheet 20 = .ok (.iconst (-1), 1) := by decide +kernel
theorem dX7_sheet_21 : decode cX7_sheet 21 = .ok (.if_icmp .ne 16, 3) := by decide +kernel
theorem dX7_sheet_24 : decode cX7_sheet 24 = .ok (.aload_n 0, 1) := by decide +kernel
theorem dX7_sheet_25 : decode cX7_sheet 25 = .ok (.getfield 51, 3) := by decide +kernel
theorem dX7_sheet_28 : decode cX7_sheet 28 = .ok (.iload_n 1, 1) := by decide +kernel
theorem dX7_sheet_29 : decode cX7_sheet 29 = .ok (.aaload, 1) := by decide +kernel
theorem dX7_sheet_30 : decode cX7_sheet 30 = .ok (.iconst (-1), 1) := by decide +kernel
theorem dX7_sheet_31 : decode cX7_sheet 31 = .ok (.iconst 0, 1) := by decide +kernel
theorem dX7_sheet_32 : decode cX7_sheet 32 = .ok (.invokevirtual 252, 3) := by decide +kernel
theorem dX7_sheet_35 : decode cX7_sheet 35 = .ok (.iconst 0, 1) := by decide +kernel
theorem dX7_sheet_36 : decode cX7_sheet 36 = .ok (.ireturn, 1) := by decide +kernel
theorem dX7_sheet_37 : decode cX7_sheet 37 = .ok (.iload_n 3, 1) := by decide +kernel
theorem dX7_sheet_38 : decode cX7_sheet 38 = .ok (.bipush 24, 2) := by decide +kernel
theorem dX7_sheet_40 : decode cX7_sheet 40 = .ok (.if_icmp .le 6, 3) := by decide +kernel
theorem dX7_sheet_43 : decode cX7_sheet 43 = .ok (.ldc 75, 2) := by decide +kernel
theorem dX7_sheet_45 : decode cX7_sheet 45 = .ok (.ireturn, 1) := by decide +kernel
theorem dX7_sheet_46 : decode cX7_sheet 46 = .ok (.iload_n 3, 1) := by decide +kernel
theorem dX7_sheet_47 : decode cX7_sheet 47 = .ok (.ifCond .ge 7, 3) := by decide +kernel
theorem dX7_sheet_50 : decode cX7_sheet 50 = .ok (.ldc_w 256, 3) := by decide +kernel
theorem dX7_sheet_53 : decode cX7_sheet 53 = .ok (.ireturn, 1) := by decide +kernel
theorem dX7_sheet_54 : decode cX7_sheet 54 = .ok (.aload_n 0, 1) := by decide +kernel
theorem dX7_sheet_55 : decode cX7_sheet 55 = .ok (.getfield 51, 3) := by decide +kernel
theorem dX7_sheet_58 : decode cX7_sheet 58 = .ok (.iload_n 1, 1) := by decide +kernel
theorem dX7_sheet_59 : decode cX7_sheet 59 = .ok (.aaload, 1) := by decide +kernel
theorem dX7_sheet_60 : decode cX7_sheet 60 = .ok (.iload_n 2, 1) := by decide +kernel
theorem dX7_sheet_61 : decode cX7_sheet 61 = .ok (.iload_n 3, 1) := by decide +kernel
theorem dX7_sheet_62 : decode cX7_sheet 62 = .ok (.invokevirtual 252, 3) := by decide +kernel
theorem dX7_sheet_65 : decode cX7_sheet 65 = .ok (.iload_n 3, 1) := by decide +kernel
theorem dX7_sheet_66 : decode cX7_sheet 66 = .ok (.ireturn, 1) := by decide +kernel
theorem dX7_mark_0 : decode cX7_mark 0 = .ok (.iload_n 1, 1) := by decide +kernel
theorem dX7_mark_1 : decode cX7_mark 1 = .ok (.invokestatic 206, 3) := by decide +kernel
theorem dX7_mark_4 : decode cX7_mark 4 = .ok (.ifCond .ne 6, 3) := by decide +kernel
theorem dX7_mark_7 : decode cX7_mark 7 = .ok (.ldc 75, 2) := by decide +kernel
theorem dX7_mark_9 : decode cX7_mark 9 = .ok (.ireturn, 1) := by decide +kernel
theorem dX7_mark_10 : decode cX7_mark 10 = .ok (.aload_n 0, 1) := by decide +kernel
theorem dX7_mark_11 : decode cX7_mark 11 = .ok (.getfield 51, 3) := by decide +kernel
theorem dX7_mark_14 : decode cX7_mark 14 = .ok (.iload_n 1, 1) := by decide +kernel
theorem dX7_mark_15 : decode cX7_mark 15 = .ok (.aaload, 1) := by decide +kernel
theorem dX7_mark_16 : decode cX7_mark 16 = .ok (.astore 4, 2) := by decide +kernel
theorem dX7_mark_18 : decode cX7_mark 18 = .ok (.aload 4, 2) := by decide +kernel
theorem dX7_mark_20 : decode cX7_mark 20 = .ok (.invokevirtual 209, 3) := by decide +kernel
theorem dX7_mark_23 : decode cX7_mark 23 = .ok (.ifCond .eq 6, 3) := by decide +kernel
theorem dX7_mark_26 : decode cX7_mark 26 = .ok (.ldc 212, 2) := by decide +kernel
theorem dX7_mark_28 : decode cX7_mark 28 = .ok (.ireturn, 1) := by decide +kernel
theorem dX7_mark_29 : decode cX7_mark 29 = .ok (.aload 4, 2) := by decide +kernel
theorem dX7_mark_31 : decode cX7_mark 31 = .ok (.iload_n 2, 1) := by decide +kernel
theorem dX7_mark_32 : decode cX7_mark 32 = .ok (.invokevirtual 257, 3) := by decide +kernel
theorem dX7_mark_35 : decode cX7_mark 35 = .ok (.ifCond .ne 7, 3) := by decide +kernel
theorem dX7_mark_38 : decode cX7_mark 38 = .ok (.ldc_w 260, 3) := by decide +kernel
theorem dX7_mark_41 : decode cX7_mark 41 = .ok (.ireturn, 1) := by decide +kernel
theorem dX7_mark_42 : decode cX7_mark 42 = .ok (.aload 4, 2) := by decide +kernel
theorem dX7_mark_44 : decode cX7_mark 44 = .ok (.getfield 261, 3) := by decide +kernel
theorem dX7_mark_47 : decode cX7_mark 47 = .ok (.ifCond .ne 12, 3) := by decide +kernel
theorem dX7_mark_50 : decode cX7_mark 50 = .ok (.iload_n 3, 1) := by decide +kernel
theorem dX7_mark_51 : decode cX7_mark 51 = .ok (.ldc 199, 2) := by decide +kernel
theorem dX7_mark_53 : decode cX7_mark 53 = .ok (.if_icmp .ne 6, 3) := by decide +kernel
theorem dX7_mark_56 : decode cX7_mark 56 = .ok (.ldc 123, 2) := by decide +kernel
theorem dX7_mark_58 : decode cX7_mark 58 = .ok (.ireturn, 1) := by decide +kernel
theorem dX7_mark_59 : decode cX7_mark 59 = .ok (.aload 4, 2) := by decide +kernel
theorem dX7_mark_61 : decode cX7_mark 61 = .ok (.getfield 261, 3) := by decide +kernel
theorem dX7_mark_64 : decode cX7_mark 64 = .ok (.iconst 1, 1) := by decide +kernel
theorem dX7_mark_65 : decode cX7_mark 65 = .ok (.if_icmp .ne 25, 3) := by decide +kernel
theorem dX7_mark_68 : decode cX7_mark 68 = .ok (.iload_n 3, 1) := by decide +kernel
theorem dX7_mark_69 : decode cX7_mark 69 = .ok (.ldc 199, 2) := by decide +kernel
theorem dX7_mark_71 : decode cX7_mark 71 = .ok (.if_icmp .eq 19, 3) := by decide +kernel
theorem dX7_mark_74 : decode cX7_mark 74 = .ok (.iload_n 3, 1) := by decide +kernel
theorem dX7_mark_75 : decode cX7_mark 75 = .ok (.ldc_w 264, 3) := by decide +kernel
theorem dX7_mark_78 : decode cX7_mark 78 = .ok (.ldc_w 265, 3) := by decide +kernel
theorem dX7_mark_81 : decode cX7_mark 81 = .ok (.invokestatic 71, 3) := by decide +kernel
theorem dX7_mark_84 : decode cX7_mark 84 = .ok (.ifCond .ne 6, 3) := by decide +kernel
theorem dX7_mark_87 : decode cX7_mark 87 = .ok (.ldc 75, 2) := by decide +kernel
theorem dX7_mark_89 : decode cX7_mark 89 = .ok (.ireturn, 1) := by decide +kernel
theorem dX7_mark_90 : decode cX7_mark 90 = .ok (.aload 4, 2) := by decide +kernel
theorem dX7_mark_92 : decode cX7_mark 92 = .ok (.getfield 266, 3) := by decide +kernel
theorem dX7_mark_95 : decode cX7_mark 95 = .ok (.iload_n 2, 1) := by decide +kernel
theorem dX7_mark_96 : decode cX7_mark 96 = .ok (.aload 4, 2) := by decide +kernel
theorem dX7_mark_98 : decode cX7_mark 98 = .ok (.getfield 261, 3) := by decide +kernel
theorem dX7_mark_101 : decode cX7_mark 101 = .ok (.ifCond .ne 8, 3) := by decide +kernel
theorem dX7_mark_104 : decode cX7_mark 104 = .ok (.iload_n 3, 1) := by decide +kernel
theorem dX7_mark_105 : decode cX7_mark 105 = .ok (.i2s, 1) := by decide +kernel
theorem dX7_mark_106 : decode cX7_mark 106 = .ok (.goto 4, 3) := by decide +kernel
theorem dX7_mark_109 : decode cX7_mark 109 = .ok (.iload_n 3, 1) := by decide +kernel
theorem dX7_mark_110 : decode cX7_mark 110 = .ok (.iastore, 1) := by decide +kernel
theorem dX7_mark_111 : decode cX7_mark 111 = .ok (.iconst 1, 1) := by decide +kernel
theorem dX7_mark_112 : decode cX7_mark 112 = .ok (.ireturn, 1) := by decide +kernel
theorem dX7_pour_0 : decode cX7_pour 0 = .ok (.iload_n 1, 1) := by decide +kernel
theorem dX7_pour_1 : decode cX7_pour 1 = .ok (.invokestatic 206, 3) := by decide +kernel
theorem dX7_pour_4 : decode cX7_pour 4 = .ok (.ifCond .ne 6, 3) := by decide +kernel
theorem dX7_pour_7 : decode cX7_pour 7 = .ok (.ldc 75, 2) := by decide +kernel
theorem dX7_pour_9 : decode cX7_pour 9 = .ok (.ireturn, 1) := by decide +kernel
theorem dX7_pour_10 : decode cX7_pour 10 = .ok (.aload_n 0, 1) := by decide +kernel
theorem dX7_pour_11 : decode cX7_pour 11 = .ok (.getfield 51, 3) := by decide +kernel
theorem dX7_pour_14 : decode cX7_pour 14 = .ok (.iload_n 1, 1) := by decide +kernel
theorem dX7_pour_15 : decode cX7_pour 15 = .ok (.aaload, 1) := by decide +kernel
theorem dX7_pour_16 : decode cX7_pour 16 = .ok (.astore_n 2, 1) := by decide +kernel
theorem dX7_pour_17 : decode cX7_pour 17 = .ok (.aload_n 2, 1) := by decide +kernel
theorem dX7_pour_18 : decode cX7_pour 18 = .ok (.invokevirtual 209, 3) := by decide +kernel
theorem dX7_pour_21 : decode cX7_pour 21 = .ok (.ifCond .eq 6, 3) := by decide +kernel
theorem dX7_pour_24 : decode cX7_pour 24 = .ok (.ldc 212, 2) := by decide +kernel
theorem dX7_pour_26 : decode cX7_pour 26 = .ok (.ireturn, 1) := by decide +kernel
theorem dX7_pour_27 : decode cX7_pour 27 = .ok (.iconst 0, 1) := by decide +kernel
theorem dX7_pour_28 : decode cX7_pour 28 = .ok (.istore_n 3, 1) := by decide +kernel
theorem dX7_pour_29 : decode cX7_pour 29 = .ok (.iconst 0, 1) := by decide +kernel
theorem dX7_pour_30 : decode cX7_pour 30 = .ok (.istore 4, 2) := by decide +kernel
theorem dX7_pour_32 : decode cX7_pour 32 = .ok (.iload 4, 2) := by decide +kernel
theorem dX7_pour_34 : decode cX7_pour 34 = .ok (.aload_n 0, 1) := by decide +kernel
theorem dX7_pour_35 : decode cX7_pour 35 = .ok (.getfield 39, 3) := by decide +kernel
theorem dX7_pour_38 : decode cX7_pour 38 = .ok (.getfield 76, 3) := by decide +kernel
theorem dX7_pour_41 : decode cX7_pour 41 = .ok (.if_icmp .ge 74, 3) := by decide +kernel
theorem dX7_pour_44 : decode cX7_pour 44 = .ok (.aload_n 2, 1) := by decide +kernel
theorem dX7_pour_45 : decode cX7_pour 45 = .ok (.iload 4, 2) := by decide +kernel
theorem dX7_pour_47 : decode cX7_pour 47 = .ok (.invokevirtual 269, 3) := by decide +kernel
theorem dX7_pour_50 : decode cX7_pour 50 = .ok (.ifCond .eq 59, 3) := by decide +kernel
theorem dX7_pour_53 : decode cX7_pour 53 = .ok (.aload_n 2, 1) := by decide +kernel
theorem dX7_pour_54 : decode cX7_pour 54 = .ok (.getfield 266, 3) := by decide +kernel
theorem dX7_pour_57 : decode cX7_pour 57 = .ok (.iload 4, 2) := by decide +kernel
theorem dX7_pour_59 : decode cX7_pour 59 = .ok (.iaload, 1) := by decide +kernel
theorem dX7_pour_60 : decode cX7_pour 60 = .ok (.iconst 0, 1) := by decide +kernel
theorem dX7_pour_61 : decode cX7_pour 61 = .ok (.bipush 50, 2) := by decide +kernel
theorem dX7_pour_63 : decode cX7_pour 63 = .ok (.invokestatic 272, 3) := by decide +kernel
theorem dX7_pour_66 : decode cX7_pour 66 = .ok (.istore 5, 2) := by decide +kernel
theorem dX7_pour_68 : decode cX7_pour 68 = .ok (.iload_n 3, 1) := by decide +kernel
theorem dX7_pour_69 : decode cX7_pour 69 = .ok (.iload 5, 2) := by decide +kernel
theorem dX7_pour_71 : decode cX7_pour 71 = .ok (.aload_n 0, 1) := by decide +kernel
theorem dX7_pour_72 : decode cX7_pour 72 = .ok (.getfield 39, 3) := by decide +kernel
theorem dX7_pour_75 : decode cX7_pour 75 = .ok (.getfield 88, 3) := by decide +kernel
theorem dX7_pour_78 : decode cX7_pour 78 = .ok (.iload 4, 2) := by decide +kernel
theorem dX7_pour_80 : decode cX7_pour 80 = .ok (.aaload, 1) := by decide +kernel
theorem dX7_pour_81 : decode cX7_pour 81 = .ok (.getfield 106, 3) := by decide +kernel
theorem dX7_pour_84 : decode cX7_pour 84 = .ok (.if_icmp .ne 7, 3) := by decide +kernel
theorem dX7_pour_87 : decode cX7_pour 87 = .ok (.iconst 0, 1) := by decide +kernel
theorem dX7_pour_88 : decode cX7_pour 88 = .ok (.goto 4, 3) := by decide +kernel
theorem dX7_pour_91 : decode cX7_pour 91 = .ok (.iconst 1, 1) := by decide +kernel
theorem dX7_pour_92 : decode cX7_pour 92 = .ok (.iadd, 1) := by decide +kernel
theorem dX7_pour_93 : decode cX7_pour 93 = .ok (.istore_n 3, 1) := by decide +kernel
theorem dX7_pour_94 : decode cX7_pour 94 = .ok (.aload_n 0, 1) := by decide +kernel
theorem dX7_pour_95 : decode cX7_pour 95 = .ok (.getfield 39, 3) := by decide +kernel
theorem dX7_pour_98 : decode cX7_pour 98 = .ok (.getfield 88, 3) := by decide +kernel
theorem dX7_pour_101 : decode cX7_pour 101 = .ok (.iload 4, 2) := by decide +kernel
theorem dX7_pour_103 : decode cX7_pour 103 = .ok (.aaload, 1) := by decide +kernel
theorem dX7_pour_104 : decode cX7_pour 104 = .ok (.iload 5, 2) := by decide +kernel
theorem dX7_pour_106 : decode cX7_pour 106 = .ok (.putfield 106, 3) := by decide +kernel
theorem dX7_pour_109 : decode cX7_pour 109 = .ok (.iinc 4 1, 3) := by decide +kernel
theorem dX7_pour_112 : decode cX7_pour 112 = .ok (.goto (-80), 3) := by decide +kernel
theorem dX7_pour_115 : decode cX7_pour 115 = .ok (.iload_n 3, 1) := by decide +kernel
theorem dX7_pour_116 : decode cX7_pour 116 = .ok (.ireturn, 1) := by decide +kernel
theorem dX7_reads_0 : decode cX7_reads 0 = .ok (.iload_n 1, 1) := by decide +kernel
theorem dX7_reads_1 : decode cX7_reads 1 = .ok (.invokestatic 206, 3) := by decide +kernel
theorem dX7_reads_4 : decode cX7_reads 4 = .ok (.ifCond .ne 6, 3) := by decide +kernel
theorem dX7_reads_7 : decode cX7_reads 7 = .ok (.ldc 75, 2) := by decide +kernel
theorem dX7_reads_9 : decode cX7_reads 9 = .ok (.ireturn, 1) := by decide +kernel
theorem dX7_reads_10 : decode cX7_reads 10 = .ok (.aload_n 0, 1) := by decide +kernel
theorem dX7_reads_11 : decode cX7_reads 11 = .ok (.getfield 51, 3) := by decide +kernel
theorem dX7_reads_14 : decode cX7_reads 14 = .ok (.iload_n 1, 1) := by decide +kernel
theorem dX7_reads_15 : decode cX7_reads 15 = .ok (.aaload, 1) := by decide +kernel
theorem dX7_reads_16 : decode cX7_reads 16 = .ok (.astore_n 2, 1) := by decide +kernel
theorem dX7_reads_17 : decode cX7_reads 17 = .ok (.aload_n 2, 1) := by decide +kernel
theorem dX7_reads_18 : decode cX7_reads 18 = .ok (.invokevirtual 209, 3) := by decide +kernel
theorem dX7_reads_21 : decode cX7_reads 21 = .ok (.ifCond .eq 6, 3) := by decide +kernel
theorem dX7_reads_24 : decode cX7_reads 24 = .ok (.ldc 212, 2) := by decide +kernel
theorem dX7_reads_26 : decode cX7_reads 26 = .ok (.ireturn, 1) := by decide +kernel
theorem dX7_reads_27 : decode cX7_reads 27 = .ok (.iconst 0, 1) := by decide +kernel
theorem dX7_reads_28 : decode cX7_reads 28 = .ok (.istore_n 3, 1) := by decide +kernel
theorem dX7_reads_29 : decode cX7_reads 29 = .ok (.iload_n 3, 1) := by decide +kernel
theorem dX7_reads_30 : decode cX7_reads 30 = .ok (.aload_n 2, 1) := by decide +kernel
theorem dX7_reads_31 : decode cX7_reads 31 = .ok (.getfield 276, 3) := by decide +kernel
theorem dX7_reads_34 : decode cX7_reads 34 = .ok (.if_icmp .ge 37, 3) := by decide +kernel
theorem dX7_reads_37 : decode cX7_reads 37 = .ok (.aload_n 2, 1) := by decide +kernel
theorem dX7_reads_38 : decode cX7_reads 38 = .ok (.iload_n 3, 1) := by decide +kernel
theorem dX7_reads_39 : decode cX7_reads 39 = .ok (.invokevirtual 269, 3) := by decide +kernel
theorem dX7_reads_42 : decode cX7_reads 42 = .ok (.ifCond .eq 23, 3) := by decide +kernel
theorem dX7_reads_45 : decode cX7_reads 45 = .ok (.aload_n 2, 1) := by decide +kernel
theorem dX7_reads_46 : decode cX7_reads 46 = .ok (.getfield 266, 3) := by decide +kernel
theorem dX7_reads_49 : decode cX7_reads 49 = .ok (.iload_n 3, 1) := by decide +kernel
theorem dX7_reads_50 : decode cX7_reads 50 = .ok (.iaload, 1) := by decide +kernel
theorem dX7_reads_51 : decode cX7_reads 51 = .ok (.aload_n 0, 1) := by decide +kernel
theorem dX7_reads_52 : decode cX7_reads 52 = .ok (.getfield 39, 3) := by decide +kernel
theorem dX7_reads_55 : decode cX7_reads 55 = .ok (.getfield 140, 3) := by decide +kernel
theorem dX7_reads_58 : decode cX7_reads 58 = .ok (.iload_n 3, 1) := by decide +kernel
theorem dX7_reads_59 : decode cX7_reads 59 = .ok (.iaload, 1) := by decide +kernel
theorem dX7_reads_60 : decode cX7_reads 60 = .ok (.if_icmp .eq 5, 3) := by decide +kernel
theorem dX7_reads_63 : decode cX7_reads 63 = .ok (.iload_n 3, 1) := by decide +kernel
theorem dX7_reads_64 : decode cX7_reads 64 = .ok (.ireturn, 1) := by decide +kernel
theorem dX7_reads_65 : decode cX7_reads 65 = .ok (.iinc 3 1, 3) := by decide +kernel
theorem dX7_reads_68 : decode cX7_reads 68 = .ok (.goto (-39), 3) := by decide +kernel
theorem dX7_reads_71 : decode cX7_reads 71 = .ok (.ldc 199, 2) := by decide +kernel
theorem dX7_reads_73 : decode cX7_reads 73 = .ok (.ireturn, 1) := by decide +kernel
theorem dX7_copy_0 : decode cX7_copy 0 = .ok (.iload_n 1, 1) := by decide +kernel
theorem dX7_copy_1 : decode cX7_copy 1 = .ok (.invokestatic 206, 3) := by decide +kernel
theorem dX7_copy_4 : decode cX7_copy 4 = .ok (.ifCond .eq 10, 3) := by decide +kernel
theorem dX7_copy_7 : decode cX7_copy 7 = .ok (.iload_n 3, 1) := by decide +kernel
theorem dX7_copy_8 : decode cX7_copy 8 = .ok (.invokestatic 206, 3) := by decide +kernel
theorem dX7_copy_11 : decode cX7_copy 11 = .ok (.ifCond .ne 6, 3) := by decide +kernel
theorem dX7_copy_14 : decode cX7_copy 14 = .ok (.ldc 75, 2) := by decide +kernel
theorem dX7_copy_16 : decode cX7_copy 16 = .ok (.ireturn, 1) := by decide +kernel
theorem dX7_copy_17 : decode cX7_copy 17 = .ok (.aload_n 0, 1) := by decide +kernel
theorem dX7_copy_18 : decode cX7_copy 18 = .ok (.getfield 51, 3) := by decide +kernel
theorem dX7_copy_21 : decode cX7_copy 21 = .ok (.iload_n 1, 1) := by decide +kernel
theorem dX7_copy_22 : decode cX7_copy 22 = .ok (.aaload, 1) := by decide +kernel
theorem dX7_copy_23 : decode cX7_copy 23 = .ok (.astore 6, 2) := by decide +kernel
theorem dX7_copy_25 : decode cX7_copy 25 = .ok (.aload_n 0, 1) := by decide +kernel
theorem dX7_copy_26 : decode cX7_copy 26 = .ok (.getfield 51, 3) := by decide +kernel
theorem dX7_copy_29 : decode cX7_copy 29 = .ok (.iload_n 3, 1) := by decide +kernel
theorem dX7_copy_30 : decode cX7_copy 30 = .ok (.aaload, 1) := by decide +kernel
theorem dX7_copy_31 : decode cX7_copy 31 = .ok (.astore 7, 2) := by decide +kernel
theorem dX7_copy_33 : decode cX7_copy 33 = .ok (.aload 6, 2) := by decide +kernel
theorem dX7_copy_35 : decode cX7_copy 35 = .ok (.invokevirtual 209, 3) := by decide +kernel
theorem dX7_copy_38 : decode cX7_copy 38 = .ok (.ifCond .ne 11, 3) := by decide +kernel
theorem dX7_copy_41 : decode cX7_copy 41 = .ok (.aload 7, 2) := by decide +kernel
theorem dX7_copy_43 : decode cX7_copy 43 = .ok (.invokevirtual 209, 3) := by decide +kernel
theorem dX7_copy_46 : decode cX7_copy 46 = .ok (.ifCond .eq 6, 3) := by decide +kernel
theorem dX7_copy_49 : decode cX7_copy 49 = .ok (.ldc 212, 2) := by decide +kernel
theorem dX7_copy_51 : decode cX7_copy 51 = .ok (.ireturn, 1) := by decide +kernel
theorem dX7_copy_52 : decode cX7_copy 52 = .ok (.aload 6, 2) := by decide +kernel
theorem dX7_copy_54 : decode cX7_copy 54 = .ok (.getfield 261, 3) := by decide +kernel
theorem dX7_copy_57 : decode cX7_copy 57 = .ok (.aload 7, 2) := by decide +kernel
theorem dX7_copy_59 : decode cX7_copy 59 = .ok (.getfield 261, 3) := by decide +kernel
theorem dX7_copy_62 : decode cX7_copy 62 = .ok (.if_icmp .eq 6, 3) := by decide +kernel
theorem dX7_copy_65 : decode cX7_copy 65 = .ok (.ldc 123, 2) := by decide +kernel
theorem dX7_copy_67 : decode cX7_copy 67 = .ok (.ireturn, 1) := by decide +kernel
theorem dX7_copy_68 : decode cX7_copy 68 = .ok (.aload 6, 2) := by decide +kernel
theorem dX7_copy_70 : decode cX7_copy 70 = .ok (.iload_n 2, 1) := by decide +kernel
theorem dX7_copy_71 : decode cX7_copy 71 = .ok (.iload 5, 2) := by decide +kernel
theorem dX7_copy_73 : decode cX7_copy 73 = .ok (.invokevirtual 277, 3) := by decide +kernel
theorem dX7_copy_76 : decode cX7_copy 76 = .ok (.ifCond .eq 15, 3) := by decide +kernel
theorem dX7_copy_79 : decode cX7_copy 79 = .ok (.aload 7, 2) := by decide +kernel
theorem dX7_copy_81 : decode cX7_copy 81 = .ok (.iload 4, 2) := by decide +kernel
theorem dX7_copy_83 : decode cX7_copy 83 = .ok (.iload 5, 2) := by decide +kernel
theorem dX7_copy_85 : decode cX7_copy 85 = .ok (.invokevirtual 277, 3) := by decide +kernel
theorem dX7_copy_88 : decode cX7_copy 88 = .ok (.ifCond .ne 7, 3) := by decide +kernel
theorem dX7_copy_91 : decode cX7_copy 91 = .ok (.ldc_w 260, 3) := by decide +kernel
theorem dX7_copy_94 : decode cX7_copy 94 = .ok (.ireturn, 1) := by decide +kernel
theorem dX7_copy_95 : decode cX7_copy 95 = .ok (.aload 6, 2) := by decide +kernel
theorem dX7_copy_97 : decode cX7_copy 97 = .ok (.getfield 266, 3) := by decide +kernel
theorem dX7_copy_100 : decode cX7_copy 100 = .ok (.iload_n 2, 1) := by decide +kernel
theorem dX7_copy_101 : decode cX7_copy 101 = .ok (.aload 7, 2) := by decide +kernel
theorem dX7_copy_103 : decode cX7_copy 103 = .ok (.getfield 266, 3) := by decide +kernel
theorem dX7_copy_106 : decode cX7_copy 106 = .ok (.iload 4, 2) := by decide +kernel
theorem dX7_copy_108 : decode cX7_copy 108 = .ok (.iload 5, 2) := by decide +kernel
theorem dX7_copy_110 : decode cX7_copy 110 = .ok (.invokestatic 280, 3) := by decide +kernel
theorem dX7_copy_113 : decode cX7_copy 113 = .ok (.iload 5, 2) := by decide +kernel
theorem dX7_copy_115 : decode cX7_copy 115 = .ok (.ireturn, 1) := by decide +kernel
theorem dX7_lay_0 : decode cX7_lay 0 = .ok (.iload_n 1, 1) := by decide +kernel
theorem dX7_lay_1 : decode cX7_lay 1 = .ok (.invokestatic 286, 3) := by decide +kernel
theorem dX7_lay_4 : decode cX7_lay 4 = .ok (.ifCond .eq 12, 3) := by decide +kernel
theorem dX7_lay_7 : decode cX7_lay 7 = .ok (.iload_n 2, 1) := by decide +kernel
theorem dX7_lay_8 : decode cX7_lay 8 = .ok (.iconst 0, 1) := by decide +kernel
theorem dX7_lay_9 : decode cX7_lay 9 = .ok (.iconst 3, 1) := by decide +kernel
theorem dX7_lay_10 : decode cX7_lay 10 = .ok (.invokestatic 71, 3) := by decide +kernel
theorem dX7_lay_13 : decode cX7_lay 13 = .ok (.ifCond .ne 6, 3) := by decide +kernel
theorem dX7_lay_16 : decode cX7_lay 16 = .ok (.ldc 75, 2) := by decide +kernel
theorem dX7_lay_18 : decode cX7_lay 18 = .ok (.ireturn, 1) := by decide +kernel
theorem dX7_lay_19 : decode cX7_lay 19 = .ok (.iload_n 2, 1) := by decide +kernel
theorem dX7_lay_20 : decode cX7_lay 20 = .ok (.iconst 1, 1) := by decide +kernel
theorem dX7_lay_21 : decode cX7_lay 21 = .ok (.if_icmp .ne 11, 3) := by decide +kernel
theorem dX7_lay_24 : decode cX7_lay 24 = .ok (.aload_n 0, 1) := by decide +kernel
theorem dX7_lay_25 : decode cX7_lay 25 = .ok (.iload_n 3, 1) := by decide +kernel
theorem dX7_lay_26 : decode cX7_lay 26 = .ok (.invokevirtual 85, 3) := by decide +kernel
theorem dX7_lay_29 : decode cX7_lay 29 = .ok (.ifCond .eq 15, 3) := by decide +kernel
theorem dX7_lay_32 : decode cX7_lay 32 = .ok (.iload_n 2, 1) := by decide +kernel
theorem dX7_lay_33 : decode cX7_lay 33 = .ok (.iconst 2, 1) := by decide +kernel
theorem dX7_lay_34 : decode cX7_lay 34 = .ok (.if_icmp .ne 13, 3) := by decide +kernel
theorem dX7_lay_37 : decode cX7_lay 37 = .ok (.iload_n 3, 1) := by decide +kernel
theorem dX7_lay_38 : decode cX7_lay 38 = .ok (.invokestatic 206, 3) := by decide +kernel
theorem dX7_lay_41 : decode cX7_lay 41 = .ok (.ifCond .ne 6, 3) := by decide +kernel
theorem dX7_lay_44 : decode cX7_lay 44 = .ok (.ldc 75, 2) := by decide +kernel
theorem dX7_lay_46 : decode cX7_lay 46 = .ok (.ireturn, 1) := by decide +kernel
theorem dX7_lay_47 : decode cX7_lay 47 = .ok (.iload_n 2, 1) := by decide +kernel
theorem dX7_lay_48 : decode cX7_lay 48 = .ok (.iconst 2, 1) := by decide +kernel
theorem dX7_lay_49 : decode cX7_lay 49 = .ok (.if_icmp .ne 18, 3) := by decide +kernel
theorem dX7_lay_52 : decode cX7_lay 52 = .ok (.aload_n 0, 1) := by decide +kernel
theorem dX7_lay_53 : decode cX7_lay 53 = .ok (.getfield 51, 3) := by decide +kernel
theorem dX7_lay_56 : decode cX7_lay 56 = .ok (.iload_n 3, 1) := by decide +kernel
theorem dX7_lay_57 : decode cX7_lay 57 = .ok (.aaload, 1) := by decide +kernel
theorem dX7_lay_58 : decode cX7_lay 58 = .ok (.invokevirtual 209, 3) := by decide +kernel
theorem dX7_lay_61 : decode cX7_lay 61 = .ok (.ifCond .eq 6, 3) := by decide +kernel
theorem dX7_lay_64 : decode cX7_lay 64 = .ok (.ldc 212, 2) := by decide +kernel
theorem dX7_lay_66 : decode cX7_lay 66 = .ok (.ireturn, 1) := by decide +kernel
theorem dX7_lay_67 : decode cX7_lay 67 = .ok (.aload_n 0, 1) := by decide +kernel
theorem dX7_lay_68 : decode cX7_lay 68 = .ok (.getfield 58, 3) := by decide +kernel
theorem dX7_lay_71 : decode cX7_lay 71 = .ok (.iload_n 1, 1) := by decide +kernel
theorem dX7_lay_72 : decode cX7_lay 72 = .ok (.aaload, 1) := by decide +kernel
theorem dX7_lay_73 : decode cX7_lay 73 = .ok (.astore 4, 2) := by decide +kernel
theorem dX7_lay_75 : decode cX7_lay 75 = .ok (.aload 4, 2) := by decide +kernel
theorem dX7_lay_77 : decode cX7_lay 77 = .ok (.getfield 289, 3) := by decide +kernel
theorem dX7_lay_80 : decode cX7_lay 80 = .ok (.istore 5, 2) := by decide +kernel
theorem dX7_lay_82 : decode cX7_lay 82 = .ok (.aload 4, 2) := by decide +kernel
theorem dX7_lay_84 : decode cX7_lay 84 = .ok (.iload_n 2, 1) := by decide +kernel
theorem dX7_lay_85 : decode cX7_lay 85 = .ok (.putfield 289, 3) := by decide +kernel
theorem dX7_lay_88 : decode cX7_lay 88 = .ok (.iload_n 2, 1) := by decide +kernel
theorem dX7_lay_89 : decode cX7_lay 89 = .ok (.iconst 1, 1) := by decide +kernel
theorem dX7_lay_90 : decode cX7_lay 90 = .ok (.if_icmp .ne 23, 3) := by decide +kernel
theorem dX7_lay_93 : decode cX7_lay 93 = .ok (.aload 4, 2) := by decide +kernel
theorem dX7_lay_95 : decode cX7_lay 95 = .ok (.getfield 292, 3) := by decide +kernel
theorem dX7_lay_98 : decode cX7_lay 98 = .ok (.aload_n 0, 1) := by decide +kernel
theorem dX7_lay_99 : decode cX7_lay 99 = .ok (.getfield 39, 3) := by decide +kernel
theorem dX7_lay_102 : decode cX7_lay 102 = .ok (.getfield 88, 3) := by decide +kernel
theorem dX7_lay_105 : decode cX7_lay 105 = .ok (.iload_n 3, 1) := by decide +kernel
theorem dX7_lay_106 : decode cX7_lay 106 = .ok (.aaload, 1) := by decide +kernel
theorem dX7_lay_107 : decode cX7_lay 107 = .ok (.invokevirtual 296, 3) := by decide +kernel
theorem dX7_lay_110 : decode cX7_lay 110 = .ok (.goto 36, 3) := by decide +kernel
theorem dX7_lay_113 : decode cX7_lay 113 = .ok (.iload_n 2, 1) := by decide +kernel
theorem dX7_lay_114 : decode cX7_lay 114 = .ok (.iconst 2, 1) := by decide +kernel
theorem dX7_lay_115 : decode cX7_lay 115 = .ok (.if_icmp .ne 20, 3) := by decide +kernel
theorem dX7_lay_118 : decode cX7_lay 118 = .ok (.aload 4, 2) := by decide +kernel
theorem dX7_lay_120 : decode cX7_lay 120 = .ok (.getfield 299, 3) := by decide +kernel
theorem dX7_lay_123 : decode cX7_lay 123 = .ok (.aload_n 0, 1) := by decide +kernel
theorem dX7_lay_124 : decode cX7_lay 124 = .ok (.getfield 51, 3) := by decide +kernel
theorem dX7_lay_127 : decode cX7_lay 127 = .ok (.iload_n 3, 1) := by decide +kernel
theorem dX7_lay_128 : decode cX7_lay 128 = .ok (.aaload, 1) := by decide +kernel
theorem dX7_lay_129 : decode cX7_lay 129 = .ok (.invokevirtual 303, 3) := by decide +kernel
theorem dX7_lay_132 : decode cX7_lay 132 = .ok (.goto 14, 3) := by decide +kernel
theorem dX7_lay_135 : decode cX7_lay 135 = .ok (.iload_n 2, 1) := by decide +kernel
theorem dX7_lay_136 : decode cX7_lay 136 = .ok (.iconst 3, 1) := by decide +kernel
theorem dX7_lay_137 : decode cX7_lay 137 = .ok (.if_icmp .ne 9, 3) := by decide +kernel
theorem dX7_lay_140 : decode cX7_lay 140 = .ok (.aload 4, 2) := by decide +kernel
theorem dX7_lay_142 : decode cX7_lay 142 = .ok (.iload_n 3, 1) := by decide +kernel
theorem dX7_lay_143 : decode cX7_lay 143 = .ok (.putfield 306, 3) := by decide +kernel
theorem dX7_lay_146 : decode cX7_lay 146 = .ok (.iload 5, 2) := by decide +kernel
theorem dX7_lay_148 : decode cX7_lay 148 = .ok (.ireturn, 1) := by decide +kernel
theorem dX7_ask_0 : decode cX7_ask 0 = .ok (.iload_n 1, 1) := by decide +kernel
theorem dX7_ask_1 : decode cX7_ask 1 = .ok (.invokestatic 286, 3) := by decide +kernel
theorem dX7_ask_4 : decode cX7_ask 4 = .ok (.ifCond .eq 10, 3) := by decide +kernel
theorem dX7_ask_7 : decode cX7_ask 7 = .ok (.iload_n 2, 1) := by decide +kernel
theorem dX7_ask_8 : decode cX7_ask 8 = .ok (.invokestatic 67, 3) := by decide +kernel
theorem dX7_ask_11 : decode cX7_ask 11 = .ok (.ifCond .ne 6, 3) := by decide +kernel
theorem dX7_ask_14 : decode cX7_ask 14 = .ok (.ldc 75, 2) := by decide +kernel
theorem dX7_ask_16 : decode cX7_ask 16 = .ok (.ireturn, 1) := by decide +kernel
theorem dX7_ask_17 : decode cX7_ask 17 = .ok (.aload_n 0, 1) := by decide +kernel
theorem dX7_ask_18 : decode cX7_ask 18 = .ok (.getfield 58, 3) := by decide +kernel
theorem dX7_ask_21 : decode cX7_ask 21 = .ok (.iload_n 1, 1) := by decide +kernel
theorem dX7_ask_22 : decode cX7_ask 22 = .ok (.aaload, 1) := by decide +kernel
theorem dX7_ask_23 : decode cX7_ask 23 = .ok (.astore_n 3, 1) := by decide +kernel
theorem dX7_ask_24 : decode cX7_ask 24 = .ok (.aload_n 3, 1) := by decide +kernel
theorem dX7_ask_25 : decode cX7_ask 25 = .ok (.getfield 289, 3) := by decide +kernel
theorem dX7_ask_28 : decode cX7_ask 28 = .ok (.ifCond .ne 6, 3) := by decide +kernel
theorem dX7_ask_31 : decode cX7_ask 31 = .ok (.ldc 212, 2) := by decide +kernel
theorem dX7_ask_33 : decode cX7_ask 33 = .ok (.ireturn, 1) := by decide +kernel
theorem dX7_ask_34 : decode cX7_ask 34 = .ok (.aload_n 3, 1) := by decide +kernel
theorem dX7_ask_35 : decode cX7_ask 35 = .ok (.getfield 289, 3) := by decide +kernel
theorem dX7_ask_38 : decode cX7_ask 38 = .ok (.iconst 1, 1) := by decide +kernel
theorem dX7_ask_39 : decode cX7_ask 39 = .ok (.if_icmp .ne 14, 3) := by decide +kernel
theorem dX7_ask_42 : decode cX7_ask 42 = .ok (.aload_n 3, 1) := by decide +kernel
theorem dX7_ask_43 : decode cX7_ask 43 = .ok (.getfield 292, 3) := by decide +kernel
theorem dX7_ask_46 : decode cX7_ask 46 = .ok (.iload_n 2, 1) := by decide +kernel
theorem dX7_ask_47 : decode cX7_ask 47 = .ok (.invokevirtual 120, 3) := by decide +kernel
theorem dX7_ask_50 : decode cX7_ask 50 = .ok (.ifCond .ne 6, 3) := by decide +kernel
theorem dX7_ask_53 : decode cX7_ask 53 = .ok (.ldc 123, 2) := by decide +kernel
theorem dX7_ask_55 : decode cX7_ask 55 = .ok (.ireturn, 1) := by decide +kernel
theorem dX7_ask_56 : decode cX7_ask 56 = .ok (.aload_n 3, 1) := by decide +kernel
theorem dX7_ask_57 : decode cX7_ask 57 = .ok (.getfield 292, 3) := by decide +kernel
theorem dX7_ask_60 : decode cX7_ask 60 = .ok (.invokevirtual 117, 3) := by decide +kernel
theorem dX7_ask_63 : decode cX7_ask 63 = .ok (.ireturn, 1) := by decide +kernel
theorem dX7_item_0 : decode cX7_item 0 = .ok (.iload_n 1, 1) := by decide +kernel
theorem dX7_item_1 : decode cX7_item 1 = .ok (.invokestatic 286, 3) := by decide +kernel
theorem dX7_item_4 : decode cX7_item 4 = .ok (.ifCond .ne 6, 3) := by decide +kernel
theorem dX7_item_7 : decode cX7_item 7 = .ok (.ldc 75, 2) := by decide +kernel
theorem dX7_item_9 : decode cX7_item 9 = .ok (.ireturn, 1) := by decide +kernel
theorem dX7_item_10 : decode cX7_item 10 = .ok (.aload_n 0, 1) := by decide +kernel
theorem dX7_item_11 : decode cX7_item 11 = .ok (.getfield 58, 3) := by decide +kernel
theorem dX7_item_14 : decode cX7_item 14 = .ok (.iload_n 1, 1) := by decide +kernel
theorem dX7_item_15 : decode cX7_item 15 = .ok (.aaload, 1) := by decide +kernel
theorem dX7_item_16 : decode cX7_item 16 = .ok (.astore_n 3, 1) := by decide +kernel
theorem dX7_item_17 : decode cX7_item 17 = .ok (.aload_n 3, 1) := by decide +kernel
theorem dX7_item_18 : decode cX7_item 18 = .ok (.getfield 289, 3) := by decide +kernel
theorem dX7_item_21 : decode cX7_item 21 = .ok (.ifCond .ne 6, 3) := by decide +kernel
theorem dX7_item_24 : decode cX7_item 24 = .ok (.ldc 212, 2) := by decide +kernel
theorem dX7_item_26 : decode cX7_item 26 = .ok (.ireturn, 1) := by decide +kernel
theorem dX7_item_27 : decode cX7_item 27 = .ok (.aload_n 3, 1) := by decide +kernel
theorem dX7_item_28 : decode cX7_item 28 = .ok (.getfield 289, 3) := by decide +kernel
theorem dX7_item_31 : decode cX7_item 31 = .ok (.iconst 2, 1) := by decide +kernel
theorem dX7_item_32 : decode cX7_item 32 = .ok (.if_icmp .eq 6, 3) := by decide +kernel
theorem dX7_item_35 : decode cX7_item 35 = .ok (.ldc 123, 2) := by decide +kernel
theorem dX7_item_37 : decode cX7_item 37 = .ok (.ireturn, 1) := by decide +kernel
theorem dX7_item_38 : decode cX7_item 38 = .ok (.aload_n 3, 1) := by decide +kernel
theorem dX7_item_39 : decode cX7_item 39 = .ok (.getfield 299, 3) := by decide +kernel
theorem dX7_item_42 : decode cX7_item 42 = .ok (.iload_n 2, 1) := by decide +kernel
theorem dX7_item_43 : decode cX7_item 43 = .ok (.invokevirtual 257, 3) := by decide +kernel
theorem dX7_item_46 : decode cX7_item 46 = .ok (.ifCond .ne 7, 3) := by decide +kernel
theorem dX7_item_49 : decode cX7_item 49 = .ok (.ldc_w 260, 3) := by decide +kernel
theorem dX7_item_52 : decode cX7_item 52 = .ok (.ireturn, 1) := by decide +kernel
theorem dX7_item_53 : decode cX7_item 53 = .ok (.aload_n 3, 1) := by decide +kernel
theorem dX7_item_54 : decode cX7_item 54 = .ok (.getfield 299, 3) := by decide +kernel
theorem dX7_item_57 : decode cX7_item 57 = .ok (.iload_n 2, 1) := by decide +kernel
theorem dX7_item_58 : decode cX7_item 58 = .ok (.invokevirtual 269, 3) := by decide +kernel
theorem dX7_item_61 : decode cX7_item 61 = .ok (.ifCond .eq 15, 3) := by decide +kernel
theorem dX7_item_64 : decode cX7_item 64 = .ok (.aload_n 3, 1) := by decide +kernel
theorem dX7_item_65 : decode cX7_item 65 = .ok (.getfield 299, 3) := by decide +kernel
theorem dX7_item_68 : decode cX7_item 68 = .ok (.getfield 266, 3) := by decide +kernel
theorem dX7_item_71 : decode cX7_item 71 = .ok (.iload_n 2, 1) := by decide +kernel
theorem dX7_item_72 : decode cX7_item 72 = .ok (.iaload, 1) := by decide +kernel
theorem dX7_item_73 : decode cX7_item 73 = .ok (.goto 5, 3) := by decide +kernel
theorem dX7_item_76 : decode cX7_item 76 = .ok (.ldc 123, 2) := by decide +kernel
theorem dX7_item_78 : decode cX7_item 78 = .ok (.ireturn, 1) := by decide +kernel
theorem dX7_rest_0 : decode cX7_rest 0 = .ok (.iload_n 1, 1) := by decide +kernel
theorem dX7_rest_1 : decode cX7_rest 1 = .ok (.invokestatic 286, 3) := by decide +kernel
theorem dX7_rest_4 : decode cX7_rest 4 = .ok (.ifCond .ne 6, 3) := by decide +kernel
theorem dX7_rest_7 : decode cX7_rest 7 = .ok (.ldc 75, 2) := by decide +kernel
theorem dX7_rest_9 : decode cX7_rest 9 = .ok (.ireturn, 1) := by decide +kernel
theorem dX7_rest_10 : decode cX7_rest 10 = .ok (.aload_n 0, 1) := by decide +kernel
theorem dX7_rest_11 : decode cX7_rest 11 = .ok (.getfield 58, 3) := by decide +kernel
theorem dX7_rest_14 : decode cX7_rest 14 = .ok (.iload_n 1, 1) := by decide +kernel
theorem dX7_rest_15 : decode cX7_rest 15 = .ok (.aaload, 1) := by decide +kernel
theorem dX7_rest_16 : decode cX7_rest 16 = .ok (.astore_n 3, 1) := by decide +kernel
theorem dX7_rest_17 : decode cX7_rest 17 = .ok (.aload_n 3, 1) := by decide +kernel
theorem dX7_rest_18 : decode cX7_rest 18 = .ok (.getfield 289, 3) := by decide +kernel
theorem dX7_rest_21 : decode cX7_rest 21 = .ok (.ifCond .ne 6, 3) := by decide +kernel
theorem dX7_rest_24 : decode cX7_rest 24 = .ok (.ldc 212, 2) := by decide +kernel
theorem dX7_rest_26 : decode cX7_rest 26 = .ok (.ireturn, 1) := by decide +kernel
theorem dX7_rest_27 : decode cX7_rest 27 = .ok (.aload_n 3, 1) := by decide +kernel
theorem dX7_rest_28 : decode cX7_rest 28 = .ok (.getfield 289, 3) := by decide +kernel
theorem dX7_rest_31 : decode cX7_rest 31 = .ok (.iconst 3, 1) := by decide +kernel
theorem dX7_rest_32 : decode cX7_rest 32 = .ok (.if_icmp .eq 6, 3) := by decide +kernel
theorem dX7_rest_35 : decode cX7_rest 35 = .ok (.ldc 123, 2) := by decide +kernel
theorem dX7_rest_37 : decode cX7_rest 37 = .ok (.ireturn, 1) := by decide +kernel
theorem dX7_rest_38 : decode cX7_rest 38 = .ok (.iload_n 2, 1) := by decide +kernel
theorem dX7_rest_39 : decode cX7_rest 39 = .ok (.ifCond .ne 9, 3) := by decide +kernel
theorem dX7_rest_42 : decode cX7_rest 42 = .ok (.ldc_w 309, 3) := by decide +kernel
theorem dX7_rest_45 : decode cX7_rest 45 = .ok (.goto 9, 3) := by decide +kernel
theorem dX7_rest_48 : decode cX7_rest 48 = .ok (.aload_n 3, 1) := by decide +kernel
theorem dX7_rest_49 : decode cX7_rest 49 = .ok (.getfield 306, 3) := by decide +kernel
theorem dX7_rest_52 : decode cX7_rest 52 = .ok (.iload_n 2, 1) := by decide +kernel
theorem dX7_rest_53 : decode cX7_rest 53 = .ok (.irem, 1) := by decide +kernel
theorem dX7_rest_54 : decode cX7_rest 54 = .ok (.ireturn, 1) := by decide +kernel
theorem dX7_tell_0 : decode cX7_tell 0 = .ok (.aload_n 0, 1) := by decide +kernel
theorem dX7_tell_1 : decode cX7_tell 1 = .ok (.getfield 310, 3) := by decide +kernel
theorem dX7_tell_4 : decode cX7_tell 4 = .ok (.bipush 60, 2) := by decide +kernel
theorem dX7_tell_6 : decode cX7_tell 6 = .ok (.if_icmp .lt 6, 3) := by decide +kernel
theorem dX7_tell_9 : decode cX7_tell 9 = .ok (.ldc 80, 2) := by decide +kernel
theorem dX7_tell_11 : decode cX7_tell 11 = .ok (.ireturn, 1) := by decide +kernel
theorem dX7_tell_12 : decode cX7_tell 12 = .ok (.aload_n 0, 1) := by decide +kernel
theorem dX7_tell_13 : decode cX7_tell 13 = .ok (.getfield 63, 3) := by decide +kernel
theorem dX7_tell_16 : decode cX7_tell 16 = .ok (.aload_n 0, 1) := by decide +kernel
theorem dX7_tell_17 : decode cX7_tell 17 = .ok (.getfield 310, 3) := by decide +kernel
theorem dX7_tell_20 : decode cX7_tell 20 = .ok (.iload_n 1, 1) := by decide +kernel
theorem dX7_tell_21 : decode cX7_tell 21 = .ok (.iastore, 1) := by decide +kernel
theorem dX7_tell_22 : decode cX7_tell 22 = .ok (.aload_n 0, 1) := by decide +kernel
theorem dX7_tell_23 : decode cX7_tell 23 = .ok (.dup, 1) := by decide +kernel
theorem dX7_tell_24 : decode cX7_tell 24 = .ok (.getfield 310, 3) := by decide +kernel
theorem dX7_tell_27 : decode cX7_tell 27 = .ok (.iconst 1, 1) := by decide +kernel
theorem dX7_tell_28 : decode cX7_tell 28 = .ok (.iadd, 1) := by decide +kernel
theorem dX7_tell_29 : decode cX7_tell 29 = .ok (.putfield 310, 3) := by decide +kernel
theorem dX7_tell_32 : decode cX7_tell 32 = .ok (.aload_n 0, 1) := by decide +kernel
theorem dX7_tell_33 : decode cX7_tell 33 = .ok (.getfield 310, 3) := by decide +kernel
theorem dX7_tell_36 : decode cX7_tell 36 = .ok (.ireturn, 1) := by decide +kernel
theorem dX7_check_0 : decode cX7_check 0 = .ok (.aload_n 0, 1) := by decide +kernel
theorem dX7_check_1 : decode cX7_check 1 = .ok (.getfield 310, 3) := by decide +kernel
theorem dX7_check_4 : decode cX7_check 4 = .ok (.istore_n 2, 1) := by decide +kernel
theorem dX7_check_5 : decode cX7_check 5 = .ok (.aload_n 0, 1) := by decide +kernel
theorem dX7_check_6 : decode cX7_check 6 = .ok (.iconst 0, 1) := by decide +kernel
theorem dX7_check_7 : decode cX7_check 7 = .ok (.putfield 310, 3) := by decide +kernel
theorem dX7_check_10 : decode cX7_check 10 = .ok (.iload_n 1, 1) := by decide +kernel
theorem dX7_check_11 : decode cX7_check 11 = .ok (.iconst 1, 1) := by decide +kernel
theorem dX7_check_12 : decode cX7_check 12 = .ok (.bipush 30, 2) := by decide +kernel
theorem dX7_check_14 : decode cX7_check 14 = .ok (.invokestatic 71, 3) := by decide +kernel
theorem dX7_check_17 : decode cX7_check 17 = .ok (.ifCond .ne 6, 3) := by decide +kernel
theorem dX7_check_20 : decode cX7_check 20 = .ok (.ldc 75, 2) := by decide +kernel
theorem dX7_check_22 : decode cX7_check 22 = .ok (.ireturn, 1) := by decide +kernel
theorem dX7_check_23 : decode cX7_check 23 = .ok (.aload_n 0, 1) := by decide +kernel
theorem dX7_check_24 : decode cX7_check 24 = .ok (.getfield 313, 3) := by decide +kernel
theorem dX7_check_27 : decode cX7_check 27 = .ok (.ifCond .ne 7, 3) := by decide +kernel
theorem dX7_check_30 : decode cX7_check 30 = .ok (.ldc_w 309, 3) := by decide +kernel
theorem dX7_check_33 : decode cX7_check 33 = .ok (.ireturn, 1) := by decide +kernel
theorem dX7_check_34 : decode cX7_check 34 = .ok (.aload_n 0, 1) := by decide +kernel
theorem dX7_check_35 : decode cX7_check 35 = .ok (.getfield 46, 3) := by decide +kernel
theorem dX7_check_38 : decode cX7_check 38 = .ok (.aload_n 0, 1) := by decide +kernel
theorem dX7_check_39 : decode cX7_check 39 = .ok (.getfield 43, 3) := by decide +kernel
theorem dX7_check_42 : decode cX7_check 42 = .ok (.invokevirtual 191, 3) := by decide +kernel
theorem dX7_check_45 : decode cX7_check 45 = .ok (.iconst 2, 1) := by decide +kernel
theorem dX7_check_46 : decode cX7_check 46 = .ok (.aload_n 0, 1) := by decide +kernel
theorem dX7_check_47 : decode cX7_check 47 = .ok (.getfield 46, 3) := by decide +kernel
theorem dX7_check_50 : decode cX7_check 50 = .ok (.iload_n 1, 1) := by decide +kernel
theorem dX7_check_51 : decode cX7_check 51 = .ok (.invokevirtual 168, 3) := by decide +kernel
theorem dX7_check_54 : decode cX7_check 54 = .ok (.imul, 1) := by decide +kernel
theorem dX7_check_55 : decode cX7_check 55 = .ok (.istore_n 3, 1) := by decide +kernel
theorem dX7_check_56 : decode cX7_check 56 = .ok (.iconst 0, 1) := by decide +kernel
theorem dX7_check_57 : decode cX7_check 57 = .ok (.istore 4, 2) := by decide +kernel
theorem dX7_check_59 : decode cX7_check 59 = .ok (.iload 4, 2) := by decide +kernel
theorem dX7_check_61 : decode cX7_check 61 = .ok (.iload_n 3, 1) := by decide +kernel
theorem dX7_check_62 : decode cX7_check 62 = .ok (.if_icmp .ge 76, 3) := by decide +kernel
theorem dX7_check_65 : decode cX7_check 65 = .ok (.iload 4, 2) := by decide +kernel
theorem dX7_check_67 : decode cX7_check 67 = .ok (.iconst 2, 1) := by decide +kernel
theorem dX7_check_68 : decode cX7_check 68 = .ok (.irem, 1) := by decide +kernel
theorem dX7_check_69 : decode cX7_check 69 = .ok (.ifCond .ne 11, 3) := by decide +kernel
theorem dX7_check_72 : decode cX7_check 72 = .ok (.aload_n 0, 1) := by decide +kernel
theorem dX7_check_73 : decode cX7_check 73 = .ok (.getfield 46, 3) := by decide +kernel
theorem dX7_check_76 : decode cX7_check 76 = .ok (.iconst 1, 1) := by decide +kernel
theorem dX7_check_77 : decode cX7_check 77 = .ok (.invokevirtual 171, 3) := by decide +kernel
theorem dX7_check_80 : decode cX7_check 80 = .ok (.iload 4, 2) := by decide +kernel
theorem dX7_check_82 : decode cX7_check 82 = .ok (.iconst 2, 1) := by decide +kernel
theorem dX7_check_83 : decode cX7_check 83 = .ok (.irem, 1) := by decide +kernel
theorem dX7_check_84 : decode cX7_check 84 = .ok (.ifCond .ne 16, 3) := by decide +kernel
theorem dX7_check_87 : decode cX7_check 87 = .ok (.aload_n 0, 1) := by decide +kernel
theorem dX7_check_88 : decode cX7_check 88 = .ok (.getfield 46, 3) := by decide +kernel
theorem dX7_check_91 : decode cX7_check 91 = .ok (.getfield 140, 3) := by decide +kernel
theorem dX7_check_94 : decode cX7_check 94 = .ok (.invokestatic 175, 3) := by decide +kernel
theorem dX7_check_97 : decode cX7_check 97 = .ok (.goto 10, 3) := by decide +kernel
theorem dX7_check_100 : decode cX7_check 100 = .ok (.aload_n 0, 1) := by decide +kernel
theorem dX7_check_101 : decode cX7_check 101 = .ok (.getfield 46, 3) := by decide +kernel
theorem dX7_check_104 : decode cX7_check 104 = .ok (.getfield 179, 3) := by decide +kernel
theorem dX7_check_107 : decode cX7_check 107 = .ok (.istore 5, 2) := by decide +kernel
theorem dX7_check_109 : decode cX7_check 109 = .ok (.iload 4, 2) := by decide +kernel
theorem dX7_check_111 : decode cX7_check 111 = .ok (.iload_n 2, 1) := by decide +kernel
theorem dX7_check_112 : decode cX7_check 112 = .ok (.if_icmp .ge 15, 3) := by decide +kernel
theorem dX7_check_115 : decode cX7_check 115 = .ok (.aload_n 0, 1) := by decide +kernel
theorem dX7_check_116 : decode cX7_check 116 = .ok (.getfield 63, 3) := by decide +kernel
theorem dX7_check_119 : decode cX7_check 119 = .ok (.iload 4, 2) := by decide +kernel
theorem dX7_check_121 : decode cX7_check 121 = .ok (.iaload, 1) := by decide +kernel
theorem dX7_check_122 : decode cX7_check 122 = .ok (.iload 5, 2) := by decide +kernel
theorem dX7_check_124 : decode cX7_check 124 = .ok (.if_icmp .eq 8, 3) := by decide +kernel
theorem dX7_check_127 : decode cX7_check 127 = .ok (.iconst 1, 1) := by decide +kernel
theorem dX7_check_128 : decode cX7_check 128 = .ok (.iload 4, 2) := by decide +kernel
theorem dX7_check_130 : decode cX7_check 130 = .ok (.iadd, 1) := by decide +kernel
theorem dX7_check_131 : decode cX7_check 131 = .ok (.ireturn, 1) := by decide +kernel
theorem dX7_check_132 : decode cX7_check 132 = .ok (.iinc 4 1, 3) := by decide +kernel
theorem dX7_check_135 : decode cX7_check 135 = .ok (.goto (-76), 3) := by decide +kernel
theorem dX7_check_138 : decode cX7_check 138 = .ok (.iload_n 2, 1) := by decide +kernel
theorem dX7_check_139 : decode cX7_check 139 = .ok (.iload_n 3, 1) := by decide +kernel
theorem dX7_check_140 : decode cX7_check 140 = .ok (.if_icmp .le 9, 3) := by decide +kernel
theorem dX7_check_143 : decode cX7_check 143 = .ok (.iconst 1, 1) := by decide +kernel
theorem dX7_check_144 : decode cX7_check 144 = .ok (.iload_n 3, 1) := by decide +kernel
theorem dX7_check_145 : decode cX7_check 145 = .ok (.iadd, 1) := by decide +kernel
theorem dX7_check_146 : decode cX7_check 146 = .ok (.goto 4, 3) := by decide +kernel
theorem dX7_check_149 : decode cX7_check 149 = .ok (.iconst 0, 1) := by decide +kernel
theorem dX7_check_150 : decode cX7_check 150 = .ok (.ireturn, 1) := by decide +kernel
theorem dX7_keep_0 : decode cX7_keep 0 = .ok (.aload_n 0, 1) := by decide +kernel
theorem dX7_keep_1 : decode cX7_keep 1 = .ok (.getfield 43, 3) := by decide +kernel
theorem dX7_keep_4 : decode cX7_keep 4 = .ok (.aload_n 0, 1) := by decide +kernel
theorem dX7_keep_5 : decode cX7_keep 5 = .ok (.getfield 39, 3) := by decide +kernel
theorem dX7_keep_8 : decode cX7_keep 8 = .ok (.invokevirtual 191, 3) := by decide +kernel
theorem dX7_keep_11 : decode cX7_keep 11 = .ok (.aload_n 0, 1) := by decide +kernel
theorem dX7_keep_12 : decode cX7_keep 12 = .ok (.iconst 1, 1) := by decide +kernel
theorem dX7_keep_13 : decode cX7_keep 13 = .ok (.putfield 313, 3) := by decide +kernel
theorem dX7_keep_16 : decode cX7_keep 16 = .ok (.aload_n 0, 1) := by decide +kernel
theorem dX7_keep_17 : decode cX7_keep 17 = .ok (.getfield 39, 3) := by decide +kernel
theorem dX7_keep_20 : decode cX7_keep 20 = .ok (.getfield 76, 3) := by decide +kernel
theorem dX7_keep_23 : decode cX7_keep 23 = .ok (.ireturn, 1) := by decide +kernel
theorem dX7_back_0 : decode cX7_back 0 = .ok (.aload_n 0, 1) := by decide +kernel
theorem dX7_back_1 : decode cX7_back 1 = .ok (.getfield 313, 3) := by decide +kernel
theorem dX7_back_4 : decode cX7_back 4 = .ok (.ifCond .ne 7, 3) := by decide +kernel
theorem dX7_back_7 : decode cX7_back 7 = .ok (.ldc_w 309, 3) := by decide +kernel
theorem dX7_back_10 : decode cX7_back 10 = .ok (.ireturn, 1) := by decide +kernel
theorem dX7_back_11 : decode cX7_back 11 = .ok (.aload_n 0, 1) := by decide +kernel
theorem dX7_back_12 : decode cX7_back 12 = .ok (.getfield 39, 3) := by decide +kernel
theorem dX7_back_15 : decode cX7_back 15 = .ok (.aload_n 0, 1) := by decide +kernel
theorem dX7_back_16 : decode cX7_back 16 = .ok (.getfield 43, 3) := by decide +kernel
theorem dX7_back_19 : decode cX7_back 19 = .ok (.invokevirtual 191, 3) := by decide +kernel
theorem dX7_back_22 : decode cX7_back 22 = .ok (.aload_n 0, 1) := by decide +kernel
theorem dX7_back_23 : decode cX7_back 23 = .ok (.getfield 39, 3) := by decide +kernel
theorem dX7_back_26 : decode cX7_back 26 = .ok (.getfield 76, 3) := by decide +kernel
theorem dX7_back_29 : decode cX7_back 29 = .ok (.ireturn, 1) := by decide +kernel
theorem dX7_count_0 : decode cX7_count 0 = .ok (.iload_n 1, 1) := by decide +kernel
theorem dX7_count_1 : decode cX7_count 1 = .ok (.tableswitch 140 0 9 #[55, 63, 71, 81, 91, 101, 111, 119, 124, 132], 55) := by decide +kernel
theorem dX7_count_56 : decode cX7_count 56 = .ok (.aload_n 0, 1) := by decide +kernel
theorem dX7_count_57 : decode cX7_count 57 = .ok (.getfield 39, 3) := by decide +kernel
theorem dX7_count_60 : decode cX7_count 60 = .ok (.getfield 76, 3) := by decide +kernel
theorem dX7_count_63 : decode cX7_count 63 = .ok (.ireturn, 1) := by decide +kernel
theorem dX7_count_64 : decode cX7_count 64 = .ok (.aload_n 0, 1) := by decide +kernel
theorem dX7_count_65 : decode cX7_count 65 = .ok (.getfield 39, 3) := by decide +kernel
theorem dX7_count_68 : decode cX7_count 68 = .ok (.getfield 317, 3) := by decide +kernel
theorem dX7_count_71 : decode cX7_count 71 = .ok (.ireturn, 1) := by decide +kernel
theorem dX7_count_72 : decode cX7_count 72 = .ok (.aload_n 0, 1) := by decide +kernel
theorem dX7_count_73 : decode cX7_count 73 = .ok (.getfield 39, 3) := by decide +kernel
theorem dX7_count_76 : decode cX7_count 76 = .ok (.getfield 134, 3) := by decide +kernel
theorem dX7_count_79 : decode cX7_count 79 = .ok (.iconst 0, 1) := by decide +kernel
theorem dX7_count_80 : decode cX7_count 80 = .ok (.iaload, 1) := by decide +kernel
theorem dX7_count_81 : decode cX7_count 81 = .ok (.ireturn, 1) := by decide +kernel
theorem dX7_count_82 : decode cX7_count 82 = .ok (.aload_n 0, 1) := by decide +kernel
theorem dX7_count_83 : decode cX7_count 83 = .ok (.getfield 39, 3) := by decide +kernel
theorem dX7_count_86 : decode cX7_count 86 = .ok (.getfield 134, 3) := by decide +kernel
theorem dX7_count_89 : decode cX7_count 89 = .ok (.iconst 1, 1) := by decide +kernel
theorem dX7_count_90 : decode cX7_count 90 = .ok (.iaload, 1) := by decide +kernel
theorem dX7_count_91 : decode cX7_count 91 = .ok (.ireturn, 1) := by decide +kernel
theorem dX7_count_92 : decode cX7_count 92 = .ok (.aload_n 0, 1) := by decide +kernel
theorem dX7_count_93 : decode cX7_count 93 = .ok (.getfield 39, 3) := by decide +kernel
theorem dX7_count_96 : decode cX7_count 96 = .ok (.getfield 134, 3) := by decide +kernel
theorem dX7_count_99 : decode cX7_count 99 = .ok (.iconst 2, 1) := by decide +kernel
theorem dX7_count_100 : decode cX7_count 100 = .ok (.iaload, 1) := by decide +kernel
theorem dX7_count_101 : decode cX7_count 101 = .ok (.ireturn, 1) := by decide +kernel
theorem dX7_count_102 : decode cX7_count 102 = .ok (.aload_n 0, 1) := by decide +kernel
theorem dX7_count_103 : decode cX7_count 103 = .ok (.getfield 39, 3) := by decide +kernel
theorem dX7_count_106 : decode cX7_count 106 = .ok (.getfield 134, 3) := by decide +kernel
theorem dX7_count_109 : decode cX7_count 109 = .ok (.iconst 3, 1) := by decide +kernel
theorem dX7_count_110 : decode cX7_count 110 = .ok (.iaload, 1) := by decide +kernel
theorem dX7_count_111 : decode cX7_count 111 = .ok (.ireturn, 1) := by decide +kernel
theorem dX7_count_112 : decode cX7_count 112 = .ok (.aload_n 0, 1) := by decide +kernel
theorem dX7_count_113 : decode cX7_count 113 = .ok (.getfield 39, 3) := by decide +kernel
theorem dX7_count_116 : decode cX7_count 116 = .ok (.getfield 233, 3) := by decide +kernel
theorem dX7_count_119 : decode cX7_count 119 = .ok (.ireturn, 1) := by decide +kernel
theorem dX7_count_120 : decode cX7_count 120 = .ok (.aload_n 0, 1) := by decide +kernel
theorem dX7_count_121 : decode cX7_count 121 = .ok (.getfield 310, 3) := by decide +kernel
theorem dX7_count_124 : decode cX7_count 124 = .ok (.ireturn, 1) := by decide +kernel
theorem dX7_count_125 : decode cX7_count 125 = .ok (.aload_n 0, 1) := by decide +kernel
theorem dX7_count_126 : decode cX7_count 126 = .ok (.getfield 21, 3) := by decide +kernel
theorem dX7_count_129 : decode cX7_count 129 = .ok (.getfield 221, 3) := by decide +kernel
theorem dX7_count_132 : decode cX7_count 132 = .ok (.ireturn, 1) := by decide +kernel
theorem dX7_count_133 : decode cX7_count 133 = .ok (.aload_n 0, 1) := by decide +kernel
theorem dX7_count_134 : decode cX7_count 134 = .ok (.getfield 39, 3) := by decide +kernel
theorem dX7_count_137 : decode cX7_count 137 = .ok (.getfield 162, 3) := by decide +kernel
theorem dX7_count_140 : decode cX7_count 140 = .ok (.ireturn, 1) := by decide +kernel
theorem dX7_count_141 : decode cX7_count 141 = .ok (.ldc 75, 2) := by decide +kernel
theorem dX7_count_143 : decode cX7_count 143 = .ok (.ireturn, 1) := by decide +kernel
theorem dX7_isMule_0 : decode cX7_isMule 0 = .ok (.iload_n 1, 1) := by decide +kernel
theorem dX7_isMule_1 : decode cX7_isMule 1 = .ok (.iconst 0, 1) := by decide +kernel
theorem dX7_isMule_2 : decode cX7_isMule 2 = .ok (.aload_n 0, 1) := by decide +kernel
theorem dX7_isMule_3 : decode cX7_isMule 3 = .ok (.getfield 39, 3) := by decide +kernel
theorem dX7_isMule_6 : decode cX7_isMule 6 = .ok (.getfield 76, 3) := by decide +kernel
theorem dX7_isMule_9 : decode cX7_isMule 9 = .ok (.iconst 1, 1) := by decide +kernel
theorem dX7_isMule_10 : decode cX7_isMule 10 = .ok (.isub, 1) := by decide +kernel
theorem dX7_isMule_11 : decode cX7_isMule 11 = .ok (.invokestatic 71, 3) := by decide +kernel
theorem dX7_isMule_14 : decode cX7_isMule 14 = .ok (.ireturn, 1) := by decide +kernel
theorem dX7_isKind_0 : decode cX7_isKind 0 = .ok (.iload_n 0, 1) := by decide +kernel
theorem dX7_isKind_1 : decode cX7_isKind 1 = .ok (.iconst 0, 1) := by decide +kernel
theorem dX7_isKind_2 : decode cX7_isKind 2 = .ok (.iconst 5, 1) := by decide +kernel
theorem dX7_isKind_3 : decode cX7_isKind 3 = .ok (.invokestatic 71, 3) := by decide +kernel
theorem dX7_isKind_6 : decode cX7_isKind 6 = .ok (.ireturn, 1) := by decide +kernel
theorem dX7_isYard_0 : decode cX7_isYard 0 = .ok (.iload_n 0, 1) := by decide +kernel
theorem dX7_isYard_1 : decode cX7_isYard 1 = .ok (.iconst 0, 1) := by decide +kernel
theorem dX7_isYard_2 : decode cX7_isYard 2 = .ok (.bipush 59, 2) := by decide +kernel
theorem dX7_isYard_4 : decode cX7_isYard 4 = .ok (.invokestatic 71, 3) := by decide +kernel
theorem dX7_isYard_7 : decode cX7_isYard 7 = .ok (.ireturn, 1) := by decide +kernel
theorem dX7_isSheet_0 : decode cX7_isSheet 0 = .ok (.iload_n 0, 1) := by decide +kernel
theorem dX7_isSheet_1 : decode cX7_isSheet 1 = .ok (.iconst 0, 1) := by decide +kernel
theorem dX7_isSheet_2 : decode cX7_isSheet 2 = .ok (.iconst 3, 1) := by decide +kernel
theorem dX7_isSheet_3 : decode cX7_isSheet 3 = .ok (.invokestatic 71, 3) := by decide +kernel
theorem dX7_isSheet_6 : decode cX7_isSheet 6 = .ok (.ireturn, 1) := by decide +kernel
theorem dX7_isSlot_0 : decode cX7_isSlot 0 = .ok (.iload_n 0, 1) := by decide +kernel
theorem dX7_isSlot_1 : decode cX7_isSlot 1 = .ok (.iconst 0, 1) := by decide +kernel
theorem dX7_isSlot_2 : decode cX7_isSlot 2 = .ok (.iconst 4, 1) := by decide +kernel
theorem dX7_isSlot_3 : decode cX7_isSlot 3 = .ok (.invokestatic 71, 3) := by decide +kernel
theorem dX7_isSlot_6 : decode cX7_isSlot 6 = .ok (.ireturn, 1) := by decide +kernel
theorem dX7_fits_0 : decode cX7_fits 0 = .ok (.iload_n 0, 1) := by decide +kernel
theorem dX7_fits_1 : decode cX7_fits 1 = .ok (.tableswitch 61 1 4 #[31, 39, 44, 53], 31) := by decide +kernel
theorem dX7_fits_32 : decode cX7_fits 32 = .ok (.iload_n 1, 1) := by decide +kernel
theorem dX7_fits_33 : decode cX7_fits 33 = .ok (.iconst 0, 1) := by decide +kernel
theorem dX7_fits_34 : decode cX7_fits 34 = .ok (.bipush 9, 2) := by decide +kernel
theorem dX7_fits_36 : decode cX7_fits 36 = .ok (.invokestatic 71, 3) := by decide +kernel
theorem dX7_fits_39 : decode cX7_fits 39 = .ok (.ireturn, 1) := by decide +kernel
theorem dX7_fits_40 : decode cX7_fits 40 = .ok (.iload_n 1, 1) := by decide +kernel
theorem dX7_fits_41 : decode cX7_fits 41 = .ok (.invokestatic 137, 3) := by decide +kernel
theorem dX7_fits_44 : decode cX7_fits 44 = .ok (.ireturn, 1) := by decide +kernel
theorem dX7_fits_45 : decode cX7_fits 45 = .ok (.iload_n 1, 1) := by decide +kernel
theorem dX7_fits_46 : decode cX7_fits 46 = .ok (.iconst 0, 1) := by decide +kernel
theorem dX7_fits_47 : decode cX7_fits 47 = .ok (.sipush 9999, 3) := by decide +kernel
theorem dX7_fits_50 : decode cX7_fits 50 = .ok (.invokestatic 71, 3) := by decide +kernel
theorem dX7_fits_53 : decode cX7_fits 53 = .ok (.ireturn, 1) := by decide +kernel
theorem dX7_fits_54 : decode cX7_fits 54 = .ok (.iload_n 1, 1) := by decide +kernel
theorem dX7_fits_55 : decode cX7_fits 55 = .ok (.iconst 0, 1) := by decide +kernel
theorem dX7_fits_56 : decode cX7_fits 56 = .ok (.bipush 50, 2) := by decide +kernel
theorem dX7_fits_58 : decode cX7_fits 58 = .ok (.invokestatic 71, 3) := by decide +kernel
theorem dX7_fits_61 : decode cX7_fits 61 = .ok (.ireturn, 1) := by decide +kernel
theorem dX7_fits_62 : decode cX7_fits 62 = .ok (.iconst 0, 1) := by decide +kernel
theorem dX7_fits_63 : decode cX7_fits 63 = .ok (.ireturn, 1) := by decide +kernel
theorem dX7_within_0 : decode cX7_within 0 = .ok (.iload_n 1, 1) := by decide +kernel
theorem dX7_within_1 : decode cX7_within 1 = .ok (.iload_n 0, 1) := by decide +kernel
theorem dX7_within_2 : decode cX7_within 2 = .ok (.if_icmp .gt 12, 3) := by decide +kernel
theorem dX7_within_5 : decode cX7_within 5 = .ok (.iload_n 0, 1) := by decide +kernel
theorem dX7_within_6 : decode cX7_within 6 = .ok (.iload_n 2, 1) := by decide +kernel
theorem dX7_within_7 : decode cX7_within 7 = .ok (.if_icmp .gt 7, 3) := by decide +kernel
theorem dX7_within_10 : decode cX7_within 10 = .ok (.iconst 1, 1) := by decide +kernel
theorem dX7_within_11 : decode cX7_within 11 = .ok (.goto 4, 3) := by decide +kernel
theorem dX7_within_14 : decode cX7_within 14 = .ok (.iconst 0, 1) := by decide +kernel
theorem dX7_within_15 : decode cX7_within 15 = .ok (.ireturn, 1) := by decide +kernel
theorem dX7_held_0 : decode cX7_held 0 = .ok (.iload_n 1, 1) := by decide +kernel
theorem dX7_held_1 : decode cX7_held 1 = .ok (.iload_n 0, 1) := by decide +kernel
theorem dX7_held_2 : decode cX7_held 2 = .ok (.iload_n 2, 1) := by decide +kernel
theorem dX7_held_3 : decode cX7_held 3 = .ok (.invokestatic 153, 3) := by decide +kernel
theorem dX7_held_6 : decode cX7_held 6 = .ok (.invokestatic 320, 3) := by decide +kernel
theorem dX7_held_9 : decode cX7_held 9 = .ok (.ireturn, 1) := by decide +kernel
theorem dX7_sumOf_0 : decode cX7_sumOf 0 = .ok (.iconst 0, 1) := by decide +kernel
theorem dX7_sumOf_1 : decode cX7_sumOf 1 = .ok (.istore_n 1, 1) := by decide +kernel
theorem dX7_sumOf_2 : decode cX7_sumOf 2 = .ok (.aload_n 0, 1) := by decide +kernel
theorem dX7_sumOf_3 : decode cX7_sumOf 3 = .ok (.astore_n 2, 1) := by decide +kernel
theorem dX7_sumOf_4 : decode cX7_sumOf 4 = .ok (.aload_n 2, 1) := by decide +kernel
theorem dX7_sumOf_5 : decode cX7_sumOf 5 = .ok (.arraylength, 1) := by decide +kernel
theorem dX7_sumOf_6 : decode cX7_sumOf 6 = .ok (.istore_n 3, 1) := by decide +kernel
theorem dX7_sumOf_7 : decode cX7_sumOf 7 = .ok (.iconst 0, 1) := by decide +kernel
theorem dX7_sumOf_8 : decode cX7_sumOf 8 = .ok (.istore 4, 2) := by decide +kernel
theorem dX7_sumOf_10 : decode cX7_sumOf 10 = .ok (.iload 4, 2) := by decide +kernel
theorem dX7_sumOf_12 : decode cX7_sumOf 12 = .ok (.iload_n 3, 1) := by decide +kernel
theorem dX7_sumOf_13 : decode cX7_sumOf 13 = .ok (.if_icmp .ge 20, 3) := by decide +kernel
theorem dX7_sumOf_16 : decode cX7_sumOf 16 = .ok (.aload_n 2, 1) := by decide +kernel
theorem dX7_sumOf_17 : decode cX7_sumOf 17 = .ok (.iload 4, 2) := by decide +kernel
theorem dX7_sumOf_19 : decode cX7_sumOf 19 = .ok (.iaload, 1) := by decide +kernel
theorem dX7_sumOf_20 : decode cX7_sumOf 20 = .ok (.istore 5, 2) := by decide +kernel
theorem dX7_sumOf_22 : decode cX7_sumOf 22 = .ok (.iload_n 1, 1) := by decide +kernel
theorem dX7_sumOf_23 : decode cX7_sumOf 23 = .ok (.iload 5, 2) := by decide +kernel
theorem dX7_sumOf_25 : decode cX7_sumOf 25 = .ok (.iadd, 1) := by decide +kernel
theorem dX7_sumOf_26 : decode cX7_sumOf 26 = .ok (.istore_n 1, 1) := by decide +kernel
theorem dX7_sumOf_27 : decode cX7_sumOf 27 = .ok (.iinc 4 1, 3) := by decide +kernel
theorem dX7_sumOf_30 : decode cX7_sumOf 30 = .ok (.goto (-20), 3) := by decide +kernel
theorem dX7_sumOf_33 : decode cX7_sumOf 33 = .ok (.iload_n 1, 1) := by decide +kernel
theorem dX7_sumOf_34 : decode cX7_sumOf 34 = .ok (.ireturn, 1) := by decide +kernel
theorem dX7_leftIfPatched_0 : decode cX7_leftIfPatched 0 = .ok (.aload_n 0, 1) := by decide +kernel
theorem dX7_leftIfPatched_1 : decode cX7_leftIfPatched 1 = .ok (.getfield 46, 3) := by decide +kernel
theorem dX7_leftIfPatched_4 : decode cX7_leftIfPatched 4 = .ok (.aload_n 0, 1) := by decide +kernel
theorem dX7_leftIfPatched_5 : decode cX7_leftIfPatched 5 = .ok (.getfield 39, 3) := by decide +kernel
theorem dX7_leftIfPatched_8 : decode cX7_leftIfPatched 8 = .ok (.invokevirtual 191, 3) := by decide +kernel
theorem dX7_leftIfPatched_11 : decode cX7_leftIfPatched 11 = .ok (.aload_n 0, 1) := by decide +kernel
theorem dX7_leftIfPatched_12 : decode cX7_leftIfPatched 12 = .ok (.getfield 46, 3) := by decide +kernel
theorem dX7_leftIfPatched_15 : decode cX7_leftIfPatched 15 = .ok (.getfield 88, 3) := by decide +kernel
theorem dX7_leftIfPatched_18 : decode cX7_leftIfPatched 18 = .ok (.iload_n 1, 1) := by decide +kernel
theorem dX7_leftIfPatched_19 : decode cX7_leftIfPatched 19 = .ok (.aaload, 1) := by decide +kernel
theorem dX7_leftIfPatched_20 : decode cX7_leftIfPatched 20 = .ok (.iconst 1, 1) := by decide +kernel
theorem dX7_leftIfPatched_21 : decode cX7_leftIfPatched 21 = .ok (.putfield 92, 3) := by decide +kernel
theorem dX7_leftIfPatched_24 : decode cX7_leftIfPatched 24 = .ok (.aload_n 0, 1) := by decide +kernel
theorem dX7_leftIfPatched_25 : decode cX7_leftIfPatched 25 = .ok (.getfield 46, 3) := by decide +kernel
theorem dX7_leftIfPatched_28 : decode cX7_leftIfPatched 28 = .ok (.iload_n 2, 1) := by decide +kernel
theorem dX7_leftIfPatched_29 : decode cX7_leftIfPatched 29 = .ok (.invokevirtual 171, 3) := by decide +kernel
theorem dX7_leftIfPatched_32 : decode cX7_leftIfPatched 32 = .ok (.aload_n 0, 1) := by decide +kernel
theorem dX7_leftIfPatched_33 : decode cX7_leftIfPatched 33 = .ok (.getfield 46, 3) := by decide +kernel
theorem dX7_leftIfPatched_36 : decode cX7_leftIfPatched 36 = .ok (.invokevirtual 185, 3) := by decide +kernel
theorem dX7_leftIfPatched_39 : decode cX7_leftIfPatched 39 = .ok (.ireturn, 1) := by decide +kernel
theorem dX7_differenceIfAlone_0 : decode cX7_differenceIfAlone 0 = .ok (.aload_n 0, 1) := by decide +kernel
theorem dX7_differenceIfAlone_1 : decode cX7_differenceIfAlone 1 = .ok (.getfield 46, 3) := by decide +kernel
theorem dX7_differenceIfAlone_4 : decode cX7_differenceIfAlone 4 = .ok (.aload_n 0, 1) := by decide +kernel
theorem dX7_differenceIfAlone_5 : decode cX7_differenceIfAlone 5 = .ok (.getfield 39, 3) := by decide +kernel
theorem dX7_differenceIfAlone_8 : decode cX7_differenceIfAlone 8 = .ok (.invokevirtual 191, 3) := by decide +kernel
theorem dX7_differenceIfAlone_11 : decode cX7_differenceIfAlone 11 = .ok (.iconst 0, 1) := by decide +kernel
theorem dX7_differenceIfAlone_12 : decode cX7_differenceIfAlone 12 = .ok (.istore 4, 2) := by decide +kernel
theorem dX7_differenceIfAlone_14 : decode cX7_differenceIfAlone 14 = .ok (.iload 4, 2) := by decide +kernel
theorem dX7_differenceIfAlone_16 : decode cX7_differenceIfAlone 16 = .ok (.aload_n 0, 1) := by decide +kernel
theorem dX7_differenceIfAlone_17 : decode cX7_differenceIfAlone 17 = .ok (.getfield 46, 3) := by decide +kernel
theorem dX7_differenceIfAlone_20 : decode cX7_differenceIfAlone 20 = .ok (.getfield 76, 3) := by decide +kernel
theorem dX7_differenceIfAlone_23 : decode cX7_differenceIfAlone 23 = .ok (.if_icmp .ge 29, 3) := by decide +kernel
theorem dX7_differenceIfAlone_26 : decode cX7_differenceIfAlone 26 = .ok (.iload 4, 2) := by decide +kernel
theorem dX7_differenceIfAlone_28 : decode cX7_differenceIfAlone 28 = .ok (.iload_n 1, 1) := by decide +kernel
theorem dX7_differenceIfAlone_29 : decode cX7_differenceIfAlone 29 = .ok (.if_icmp .eq 17, 3) := by decide +kernel
theorem dX7_differenceIfAlone_32 : decode cX7_differenceIfAlone 32 = .ok (.aload_n 0, 1) := by decide +kernel
theorem dX7_differenceIfAlone_33 : decode cX7_differenceIfAlone 33 = .ok (.getfield 46, 3) := by decide +kernel
theorem dX7_differenceIfAlone_36 : decode cX7_differenceIfAlone 36 = .ok (.getfield 88, 3) := by decide +kernel
theorem dX7_differenceIfAlone_39 : decode cX7_differenceIfAlone 39 = .ok (.iload 4, 2) := by decide +kernel
theorem dX7_differenceIfAlone_41 : decode cX7_differenceIfAlone 41 = .ok (.aaload, 1) := by decide +kernel
theorem dX7_differenceIfAlone_42 : decode cX7_differenceIfAlone 42 = .ok (.iconst 0, 1) := by decide +kernel
theorem dX7_differenceIfAlone_43 : decode cX7_differenceIfAlone 43 = .ok (.putfield 106, 3) := by decide +kernel
theorem dX7_differenceIfAlone_46 : decode cX7_differenceIfAlone 46 = .ok (.iinc 4 1, 3) := by decide +kernel
theorem dX7_differenceIfAlone_49 : decode cX7_differenceIfAlone 49 = .ok (.goto (-35), 3) := by decide +kernel
theorem dX7_differenceIfAlone_52 : decode cX7_differenceIfAlone 52 = .ok (.aload_n 0, 1) := by decide +kernel
theorem dX7_differenceIfAlone_53 : decode cX7_differenceIfAlone 53 = .ok (.getfield 46, 3) := by decide +kernel
theorem dX7_differenceIfAlone_56 : decode cX7_differenceIfAlone 56 = .ok (.iload_n 2, 1) := by decide +kernel
theorem dX7_differenceIfAlone_57 : decode cX7_differenceIfAlone 57 = .ok (.invokevirtual 171, 3) := by decide +kernel
theorem dX7_differenceIfAlone_60 : decode cX7_differenceIfAlone 60 = .ok (.iconst 0, 1) := by decide +kernel
theorem dX7_differenceIfAlone_61 : decode cX7_differenceIfAlone 61 = .ok (.istore 4, 2) := by decide +kernel
theorem dX7_differenceIfAlone_63 : decode cX7_differenceIfAlone 63 = .ok (.iconst 0, 1) := by decide +kernel
theorem dX7_differenceIfAlone_64 : decode cX7_differenceIfAlone 64 = .ok (.istore 5, 2) := by decide +kernel
theorem dX7_differenceIfAlone_66 : decode cX7_differenceIfAlone 66 = .ok (.iload 5, 2) := by decide +kernel
theorem dX7_differenceIfAlone_68 : decode cX7_differenceIfAlone 68 = .ok (.aload_n 3, 1) := by decide +kernel
theorem dX7_differenceIfAlone_69 : decode cX7_differenceIfAlone 69 = .ok (.getfield 276, 3) := by decide +kernel
theorem dX7_differenceIfAlone_72 : decode cX7_differenceIfAlone 72 = .ok (.if_icmp .ge 44, 3) := by decide +kernel
theorem dX7_differenceIfAlone_75 : decode cX7_differenceIfAlone 75 = .ok (.aload_n 3, 1) := by decide +kernel
theorem dX7_differenceIfAlone_76 : decode cX7_differenceIfAlone 76 = .ok (.iload 5, 2) := by decide +kernel
theorem dX7_differenceIfAlone_78 : decode cX7_differenceIfAlone 78 = .ok (.invokevirtual 269, 3) := by decide +kernel
theorem dX7_differenceIfAlone_81 : decode cX7_differenceIfAlone 81 = .ok (.ifCond .eq 29, 3) := by decide +kernel
theorem dX7_differenceIfAlone_84 : decode cX7_differenceIfAlone 84 = .ok (.iload 4, 2) := by decide +kernel
theorem dX7_differenceIfAlone_86 : decode cX7_differenceIfAlone 86 = .ok (.aload_n 0, 1) := by decide +kernel
theorem dX7_differenceIfAlone_87 : decode cX7_differenceIfAlone 87 = .ok (.getfield 46, 3) := by decide +kernel
theorem dX7_differenceIfAlone_90 : decode cX7_differenceIfAlone 90 = .ok (.getfield 140, 3) := by decide +kernel
theorem dX7_differenceIfAlone_93 : decode cX7_differenceIfAlone 93 = .ok (.iload 5, 2) := by decide +kernel
theorem dX7_differenceIfAlone_95 : decode cX7_differenceIfAlone 95 = .ok (.iaload, 1) := by decide +kernel
theorem dX7_differenceIfAlone_96 : decode cX7_differenceIfAlone 96 = .ok (.aload_n 3, 1) := by decide +kernel
theorem dX7_differenceIfAlone_97 : decode cX7_differenceIfAlone 97 = .ok (.getfield 266, 3) := by decide +kernel
theorem dX7_differenceIfAlone_100 : decode cX7_differenceIfAlone 100 = .ok (.iload 5, 2) := by decide +kernel
theorem dX7_differenceIfAlone_102 : decode cX7_differenceIfAlone 102 = .ok (.iaload, 1) := by decide +kernel
theorem dX7_differenceIfAlone_103 : decode cX7_differenceIfAlone 103 = .ok (.isub, 1) := by decide +kernel
theorem dX7_differenceIfAlone_104 : decode cX7_differenceIfAlone 104 = .ok (.invokestatic 323, 3) := by decide +kernel
theorem dX7_differenceIfAlone_107 : decode cX7_differenceIfAlone 107 = .ok (.iadd, 1) := by decide +kernel
theorem dX7_differenceIfAlone_108 : decode cX7_differenceIfAlone 108 = .ok (.istore 4, 2) := by decide +kernel
theorem dX7_differenceIfAlone_110 : decode cX7_differenceIfAlone 110 = .ok (.iinc 5 1, 3) := by decide +kernel
theorem dX7_differenceIfAlone_113 : decode cX7_differenceIfAlone 113 = .ok (.goto (-47), 3) := by decide +kernel
theorem dX7_differenceIfAlone_116 : decode cX7_differenceIfAlone 116 = .ok (.iload 4, 2) := by decide +kernel
theorem dX7_differenceIfAlone_118 : decode cX7_differenceIfAlone 118 = .ok (.ireturn, 1) := by decide +kernel
