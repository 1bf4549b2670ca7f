theorem dL_cell_0 : decode cL_cell 0 = .ok (.iload_n 1, 1) := by decide +kernel
theorem dL_cell_1 : decode cL_cell 1 = .ok (.aload_n 0, 1) := by decide +kernel
theorem dL_cell_2 : decode cL_cell 2 = .ok (.arraylength, 1) := by decide +kernel
theorem dL_cell_3 : decode cL_cell 3 = .ok (.if_icmp .ge 9, 3) := by decide +kernel
theorem dL_cell_6 : decode cL_cell 6 = .ok (.aload_n 0, 1) := by decide +kernel
theorem dL_cell_7 : decode cL_cell 7 = .ok (.iload_n 1, 1) := by decide +kernel
theorem dL_cell_8 : decode cL_cell 8 = .ok (.iaload, 1) := by decide +kernel
theorem dL_cell_9 : decode cL_cell 9 = .ok (.goto 9, 3) := by decide +kernel
theorem dL_cell_12 : decode cL_cell 12 = .ok (.ldc 7, 2) := by decide +kernel
theorem dL_cell_14 : decode cL_cell 14 = .ok (.iload_n 1, 1) := by decide +kernel
theorem dL_cell_15 : decode cL_cell 15 = .ok (.iconst 1, 1) := by decide +kernel
theorem dL_cell_16 : decode cL_cell 16 = .ok (.iadd, 1) := by decide +kernel
theorem dL_cell_17 : decode cL_cell 17 = .ok (.imul, 1) := by decide +kernel
theorem dL_cell_18 : decode cL_cell 18 = .ok (.ireturn, 1) := by decide +kernel
theorem dL_low_0 : decode cL_low 0 = .ok (.iload_n 0, 1) := by decide +kernel
theorem dL_low_1 : decode cL_low 1 = .ok (.ldc 8, 2) := by decide +kernel
theorem dL_low_3 : decode cL_low 3 = .ok (.iand, 1) := by decide +kernel
theorem dL_low_4 : decode cL_low 4 = .ok (.iload_n 1, 1) := by decide +kernel
theorem dL_low_5 : decode cL_low 5 = .ok (.irem, 1) := by decide +kernel
theorem dL_low_6 : decode cL_low 6 = .ok (.ireturn, 1) := by decide +kernel
theorem dL_spoilt_0 : decode cL_spoilt 0 = .ok (.aload_n 0, 1) := by decide +kernel
theorem dL_spoilt_1 : decode cL_spoilt 1 = .ok (.iconst 0, 1) := by decide +kernel
theorem dL_spoilt_2 : decode cL_spoilt 2 = .ok (.iconst 2, 1) := by decide +kernel
theorem dL_spoilt_3 : decode cL_spoilt 3 = .ok (.invokevirtual 9, 3) := by decide +kernel
theorem dL_spoilt_6 : decode cL_spoilt 6 = .ok (.aload_n 0, 1) := by decide +kernel
theorem dL_spoilt_7 : decode cL_spoilt 7 = .ok (.iconst 1, 1) := by decide +kernel
theorem dL_spoilt_8 : decode cL_spoilt 8 = .ok (.iconst 2, 1) := by decide +kernel
theorem dL_spoilt_9 : decode cL_spoilt 9 = .ok (.invokevirtual 9, 3) := by decide +kernel
theorem dL_spoilt_12 : decode cL_spoilt 12 = .ok (.iadd, 1) := by decide +kernel
theorem dL_spoilt_13 : decode cL_spoilt 13 = .ok (.aload_n 0, 1) := by decide +kernel
theorem dL_spoilt_14 : decode cL_spoilt 14 = .ok (.iconst 2, 1) := by decide +kernel
theorem dL_spoilt_15 : decode cL_spoilt 15 = .ok (.iconst 2, 1) := by decide +kernel
theorem dL_spoilt_16 : decode cL_spoilt 16 = .ok (.invokevirtual 9, 3) := by decide +kernel
theorem dL_spoilt_19 : decode cL_spoilt 19 = .ok (.iadd, 1) := by decide +kernel
theorem dL_spoilt_20 : decode cL_spoilt 20 = .ok (.aload_n 0, 1) := by decide +kernel
theorem dL_spoilt_21 : decode cL_spoilt 21 = .ok (.iconst 3, 1) := by decide +kernel
theorem dL_spoilt_22 : decode cL_spoilt 22 = .ok (.iconst 2, 1) := by decide +kernel
theorem dL_spoilt_23 : decode cL_spoilt 23 = .ok (.invokevirtual 9, 3) := by decide +kernel
theorem dL_spoilt_26 : decode cL_spoilt 26 = .ok (.iadd, 1) := by decide +kernel
theorem dL_spoilt_27 : decode cL_spoilt 27 = .ok (.ireturn, 1) := by decide +kernel
theorem dL_atBerth_0 : decode cL_atBerth 0 = .ok (.aload_n 0, 1) := by decide +kernel
theorem dL_atBerth_1 : decode cL_atBerth 1 = .ok (.iconst 0, 1) := by decide +kernel
theorem dL_atBerth_2 : decode cL_atBerth 2 = .ok (.iconst 0, 1) := by decide +kernel
theorem dL_atBerth_3 : decode cL_atBerth 3 = .ok (.invokevirtual 15, 3) := by decide +kernel
theorem dL_atBerth_6 : decode cL_atBerth 6 = .ok (.aload_n 0, 1) := by decide +kernel
theorem dL_atBerth_7 : decode cL_atBerth 7 = .ok (.iconst 0, 1) := by decide +kernel
theorem dL_atBerth_8 : decode cL_atBerth 8 = .ok (.iconst 1, 1) := by decide +kernel
theorem dL_atBerth_9 : decode cL_atBerth 9 = .ok (.invokevirtual 15, 3) := by decide +kernel
theorem dL_atBerth_12 : decode cL_atBerth 12 = .ok (.iadd, 1) := by decide +kernel
theorem dL_atBerth_13 : decode cL_atBerth 13 = .ok (.aload_n 0, 1) := by decide +kernel
theorem dL_atBerth_14 : decode cL_atBerth 14 = .ok (.iconst 0, 1) := by decide +kernel
theorem dL_atBerth_15 : decode cL_atBerth 15 = .ok (.iconst 2, 1) := by decide +kernel
theorem dL_atBerth_16 : decode cL_atBerth 16 = .ok (.invokevirtual 15, 3) := by decide +kernel
theorem dL_atBerth_19 : decode cL_atBerth 19 = .ok (.iadd, 1) := by decide +kernel
theorem dL_atBerth_20 : decode cL_atBerth 20 = .ok (.aload_n 0, 1) := by decide +kernel
theorem dL_atBerth_21 : decode cL_atBerth 21 = .ok (.iconst 0, 1) := by decide +kernel
theorem dL_atBerth_22 : decode cL_atBerth 22 = .ok (.iconst 3, 1) := by decide +kernel
theorem dL_atBerth_23 : decode cL_atBerth 23 = .ok (.invokevirtual 15, 3) := by decide +kernel
theorem dL_atBerth_26 : decode cL_atBerth 26 = .ok (.iadd, 1) := by decide +kernel
theorem dL_atBerth_27 : decode cL_atBerth 27 = .ok (.ireturn, 1) := by decide +kernel
theorem dL_tale_0 : decode cL_tale 0 = .ok (.ldc2_w 18, 3) := by decide +kernel
theorem dL_tale_3 : decode cL_tale 3 = .ok (.lstore_n 1, 1) := by decide +kernel
theorem dL_tale_4 : decode cL_tale 4 = .ok (.iconst 0, 1) := by decide +kernel
theorem dL_tale_5 : decode cL_tale 5 = .ok (.istore_n 3, 1) := by decide +kernel
theorem dL_tale_6 : decode cL_tale 6 = .ok (.iload_n 3, 1) := by decide +kernel
theorem dL_tale_7 : decode cL_tale 7 = .ok (.bipush 18, 2) := by decide +kernel
theorem dL_tale_9 : decode cL_tale 9 = .ok (.if_icmp .ge 22, 3) := by decide +kernel
theorem dL_tale_12 : decode cL_tale 12 = .ok (.ldc2_w 20, 3) := by decide +kernel
theorem dL_tale_15 : decode cL_tale 15 = .ok (.lload_n 1, 1) := by decide +kernel
theorem dL_tale_16 : decode cL_tale 16 = .ok (.lmul, 1) := by decide +kernel
theorem dL_tale_17 : decode cL_tale 17 = .ok (.aload_n 0, 1) := by decide +kernel
theorem dL_tale_18 : decode cL_tale 18 = .ok (.iload_n 3, 1) := by decide +kernel
theorem dL_tale_19 : decode cL_tale 19 = .ok (.invokevirtual 22, 3) := by decide +kernel
theorem dL_tale_22 : decode cL_tale 22 = .ok (.i2l, 1) := by decide +kernel
theorem dL_tale_23 : decode cL_tale 23 = .ok (.ladd, 1) := by decide +kernel
theorem dL_tale_24 : decode cL_tale 24 = .ok (.lstore_n 1, 1) := by decide +kernel
theorem dL_tale_25 : decode cL_tale 25 = .ok (.iinc 3 1, 3) := by decide +kernel
theorem dL_tale_28 : decode cL_tale 28 = .ok (.goto (-22), 3) := by decide +kernel
theorem dL_tale_31 : decode cL_tale 31 = .ok (.iconst 0, 1) := by decide +kernel
theorem dL_tale_32 : decode cL_tale 32 = .ok (.istore_n 3, 1) := by decide +kernel
theorem dL_tale_33 : decode cL_tale 33 = .ok (.iload_n 3, 1) := by decide +kernel
theorem dL_tale_34 : decode cL_tale 34 = .ok (.bipush 24, 2) := by decide +kernel
theorem dL_tale_36 : decode cL_tale 36 = .ok (.if_icmp .ge 29, 3) := by decide +kernel
theorem dL_tale_39 : decode cL_tale 39 = .ok (.ldc2_w 26, 3) := by decide +kernel
theorem dL_tale_42 : decode cL_tale 42 = .ok (.lload_n 1, 1) := by decide +kernel
theorem dL_tale_43 : decode cL_tale 43 = .ok (.lmul, 1) := by decide +kernel
theorem dL_tale_44 : decode cL_tale 44 = .ok (.aload_n 0, 1) := by decide +kernel
theorem dL_tale_45 : decode cL_tale 45 = .ok (.iload_n 3, 1) := by decide +kernel
theorem dL_tale_46 : decode cL_tale 46 = .ok (.bipush 6, 2) := by decide +kernel
theorem dL_tale_48 : decode cL_tale 48 = .ok (.idiv, 1) := by decide +kernel
theorem dL_tale_49 : decode cL_tale 49 = .ok (.iload_n 3, 1) := by decide +kernel
theorem dL_tale_50 : decode cL_tale 50 = .ok (.bipush 6, 2) := by decide +kernel
theorem dL_tale_52 : decode cL_tale 52 = .ok (.irem, 1) := by decide +kernel
theorem dL_tale_53 : decode cL_tale 53 = .ok (.invokevirtual 28, 3) := by decide +kernel
theorem dL_tale_56 : decode cL_tale 56 = .ok (.i2l, 1) := by decide +kernel
theorem dL_tale_57 : decode cL_tale 57 = .ok (.ladd, 1) := by decide +kernel
theorem dL_tale_58 : decode cL_tale 58 = .ok (.lstore_n 1, 1) := by decide +kernel
theorem dL_tale_59 : decode cL_tale 59 = .ok (.iinc 3 1, 3) := by decide +kernel
theorem dL_tale_62 : decode cL_tale 62 = .ok (.goto (-29), 3) := by decide +kernel
theorem dL_tale_65 : decode cL_tale 65 = .ok (.iconst 0, 1) := by decide +kernel
theorem dL_tale_66 : decode cL_tale 66 = .ok (.istore_n 3, 1) := by decide +kernel
theorem dL_tale_67 : decode cL_tale 67 = .ok (.iload_n 3, 1) := by decide +kernel
theorem dL_tale_68 : decode cL_tale 68 = .ok (.bipush 16, 2) := by decide +kernel
theorem dL_tale_70 : decode cL_tale 70 = .ok (.if_icmp .ge 27, 3) := by decide +kernel
theorem dL_tale_73 : decode cL_tale 73 = .ok (.ldc2_w 31, 3) := by decide +kernel
theorem dL_tale_76 : decode cL_tale 76 = .ok (.lload_n 1, 1) := by decide +kernel
theorem dL_tale_77 : decode cL_tale 77 = .ok (.lmul, 1) := by decide +kernel
theorem dL_tale_78 : decode cL_tale 78 = .ok (.aload_n 0, 1) := by decide +kernel
theorem dL_tale_79 : decode cL_tale 79 = .ok (.iload_n 3, 1) := by decide +kernel
theorem dL_tale_80 : decode cL_tale 80 = .ok (.iconst 4, 1) := by decide +kernel
theorem dL_tale_81 : decode cL_tale 81 = .ok (.idiv, 1) := by decide +kernel
theorem dL_tale_82 : decode cL_tale 82 = .ok (.iload_n 3, 1) := by decide +kernel
theorem dL_tale_83 : decode cL_tale 83 = .ok (.iconst 4, 1) := by decide +kernel
theorem dL_tale_84 : decode cL_tale 84 = .ok (.irem, 1) := by decide +kernel
theorem dL_tale_85 : decode cL_tale 85 = .ok (.invokevirtual 9, 3) := by decide +kernel
theorem dL_tale_88 : decode cL_tale 88 = .ok (.i2l, 1) := by decide +kernel
theorem dL_tale_89 : decode cL_tale 89 = .ok (.ladd, 1) := by decide +kernel
theorem dL_tale_90 : decode cL_tale 90 = .ok (.lstore_n 1, 1) := by decide +kernel
theorem dL_tale_91 : decode cL_tale 91 = .ok (.iinc 3 1, 3) := by decide +kernel
theorem dL_tale_94 : decode cL_tale 94 = .ok (.goto (-27), 3) := by decide +kernel
theorem dL_tale_97 : decode cL_tale 97 = .ok (.iconst 0, 1) := by decide +kernel
theorem dL_tale_98 : decode cL_tale 98 = .ok (.istore_n 3, 1) := by decide +kernel
theorem dL_tale_99 : decode cL_tale 99 = .ok (.iload_n 3, 1) := by decide +kernel
theorem dL_tale_100 : decode cL_tale 100 = .ok (.bipush 48, 2) := by decide +kernel
theorem dL_tale_102 : decode cL_tale 102 = .ok (.if_icmp .ge 29, 3) := by decide +kernel
theorem dL_tale_105 : decode cL_tale 105 = .ok (.ldc2_w 33, 3) := by decide +kernel
theorem dL_tale_108 : decode cL_tale 108 = .ok (.lload_n 1, 1) := by decide +kernel
theorem dL_tale_109 : decode cL_tale 109 = .ok (.lmul, 1) := by decide +kernel
theorem dL_tale_110 : decode cL_tale 110 = .ok (.aload_n 0, 1) := by decide +kernel
theorem dL_tale_111 : decode cL_tale 111 = .ok (.iload_n 3, 1) := by decide +kernel
theorem dL_tale_112 : decode cL_tale 112 = .ok (.bipush 8, 2) := by decide +kernel
theorem dL_tale_114 : decode cL_tale 114 = .ok (.idiv, 1) := by decide +kernel
theorem dL_tale_115 : decode cL_tale 115 = .ok (.iload_n 3, 1) := by decide +kernel
theorem dL_tale_116 : decode cL_tale 116 = .ok (.bipush 8, 2) := by decide +kernel
theorem dL_tale_118 : decode cL_tale 118 = .ok (.irem, 1) := by decide +kernel
theorem dL_tale_119 : decode cL_tale 119 = .ok (.invokevirtual 15, 3) := by decide +kernel
theorem dL_tale_122 : decode cL_tale 122 = .ok (.i2l, 1) := by decide +kernel
theorem dL_tale_123 : decode cL_tale 123 = .ok (.ladd, 1) := by decide +kernel
theorem dL_tale_124 : decode cL_tale 124 = .ok (.lstore_n 1, 1) := by decide +kernel
theorem dL_tale_125 : decode cL_tale 125 = .ok (.iinc 3 1, 3) := by decide +kernel
theorem dL_tale_128 : decode cL_tale 128 = .ok (.goto (-29), 3) := by decide +kernel
theorem dL_tale_131 : decode cL_tale 131 = .ok (.lload_n 1, 1) := by decide +kernel
theorem dL_tale_132 : decode cL_tale 132 = .ok (.lreturn, 1) := by decide +kernel
theorem dL_act_0 : decode cL_act 0 = .ok (.iload_n 2, 1) := by decide +kernel
theorem dL_act_1 : decode cL_act 1 = .ok (.iconst 3, 1) := by decide +kernel
theorem dL_act_2 : decode cL_act 2 = .ok (.invokestatic 35, 3) := by decide +kernel
theorem dL_act_5 : decode cL_act 5 = .ok (.istore 4, 2) := by decide +kernel
theorem dL_act_7 : decode cL_act 7 = .ok (.iload_n 2, 1) := by decide +kernel
theorem dL_act_8 : decode cL_act 8 = .ok (.iconst 3, 1) := by decide +kernel
theorem dL_act_9 : decode cL_act 9 = .ok (.ishr, 1) := by decide +kernel
theorem dL_act_10 : decode cL_act 10 = .ok (.iconst 3, 1) := by decide +kernel
theorem dL_act_11 : decode cL_act 11 = .ok (.invokestatic 35, 3) := by decide +kernel
theorem dL_act_14 : decode cL_act 14 = .ok (.istore 5, 2) := by decide +kernel
theorem dL_act_16 : decode cL_act 16 = .ok (.iload_n 1, 1) := by decide +kernel
theorem dL_act_17 : decode cL_act 17 = .ok (.bipush 18, 2) := by decide +kernel
theorem dL_act_19 : decode cL_act 19 = .ok (.invokestatic 35, 3) := by decide +kernel
theorem dL_act_22 : decode cL_act 22 = .ok (.istore 6, 2) := by decide +kernel
theorem dL_act_24 : decode cL_act 24 = .ok (.iconst 0, 1) := by decide +kernel
theorem dL_act_25 : decode cL_act 25 = .ok (.istore 7, 2) := by decide +kernel
theorem dL_act_27 : decode cL_act 27 = .ok (.iload 6, 2) := by decide +kernel
theorem dL_act_29 : decode cL_act 29 = .ok (.tableswitch 443 0 14 #[75, 75, 142, 142, 147, 147, 147, 175, 182, 207, 282, 282, 298, 348, 425], 75) := by decide +kernel
theorem dL_act_104 : decode cL_act 104 = .ok (.iload_n 2, 1) := by decide +kernel
theorem dL_act_105 : decode cL_act 105 = .ok (.iconst 5, 1) := by decide +kernel
theorem dL_act_106 : decode cL_act 106 = .ok (.ishr, 1) := by decide +kernel
theorem dL_act_107 : decode cL_act 107 = .ok (.sipush 300, 3) := by decide +kernel
theorem dL_act_110 : decode cL_act 110 = .ok (.invokestatic 35, 3) := by decide +kernel
theorem dL_act_113 : decode cL_act 113 = .ok (.istore 8, 2) := by decide +kernel
theorem dL_act_115 : decode cL_act 115 = .ok (.iload_n 2, 1) := by decide +kernel
theorem dL_act_116 : decode cL_act 116 = .ok (.iconst 2, 1) := by decide +kernel
theorem dL_act_117 : decode cL_act 117 = .ok (.ishr, 1) := by decide +kernel
theorem dL_act_118 : decode cL_act 118 = .ok (.iconst 2, 1) := by decide +kernel
theorem dL_act_119 : decode cL_act 119 = .ok (.invokestatic 35, 3) := by decide +kernel
theorem dL_act_122 : decode cL_act 122 = .ok (.iload_n 2, 1) := by decide +kernel
theorem dL_act_123 : decode cL_act 123 = .ok (.bipush 7, 2) := by decide +kernel
theorem dL_act_125 : decode cL_act 125 = .ok (.ishr, 1) := by decide +kernel
theorem dL_act_126 : decode cL_act 126 = .ok (.sipush 150, 3) := by decide +kernel
theorem dL_act_129 : decode cL_act 129 = .ok (.invokestatic 35, 3) := by decide +kernel
theorem dL_act_132 : decode cL_act 132 = .ok (.imul, 1) := by decide +kernel
theorem dL_act_133 : decode cL_act 133 = .ok (.istore 9, 2) := by decide +kernel
theorem dL_act_135 : decode cL_act 135 = .ok (.aload_n 0, 1) := by decide +kernel
theorem dL_act_136 : decode cL_act 136 = .ok (.iload 8, 2) := by decide +kernel
theorem dL_act_138 : decode cL_act 138 = .ok (.iload 9, 2) := by decide +kernel
theorem dL_act_140 : decode cL_act 140 = .ok (.iconst 0, 1) := by decide +kernel
theorem dL_act_141 : decode cL_act 141 = .ok (.iconst 0, 1) := by decide +kernel
theorem dL_act_142 : decode cL_act 142 = .ok (.invokevirtual 40, 3) := by decide +kernel
theorem dL_act_145 : decode cL_act 145 = .ok (.istore 7, 2) := by decide +kernel
theorem dL_act_147 : decode cL_act 147 = .ok (.iload 7, 2) := by decide +kernel
theorem dL_act_149 : decode cL_act 149 = .ok (.ifCond .le 19, 3) := by decide +kernel
theorem dL_act_152 : decode cL_act 152 = .ok (.aload_n 3, 1) := by decide +kernel
theorem dL_act_153 : decode cL_act 153 = .ok (.iconst 0, 1) := by decide +kernel
theorem dL_act_154 : decode cL_act 154 = .ok (.dup2, 1) := by decide +kernel
theorem dL_act_155 : decode cL_act 155 = .ok (.iaload, 1) := by decide +kernel
theorem dL_act_156 : decode cL_act 156 = .ok (.iload 8, 2) := by decide +kernel
theorem dL_act_158 : decode cL_act 158 = .ok (.iadd, 1) := by decide +kernel
theorem dL_act_159 : decode cL_act 159 = .ok (.iastore, 1) := by decide +kernel
theorem dL_act_160 : decode cL_act 160 = .ok (.aload_n 3, 1) := by decide +kernel
theorem dL_act_161 : decode cL_act 161 = .ok (.iconst 1, 1) := by decide +kernel
theorem dL_act_162 : decode cL_act 162 = .ok (.dup2, 1) := by decide +kernel
theorem dL_act_163 : decode cL_act 163 = .ok (.iaload, 1) := by decide +kernel
theorem dL_act_164 : decode cL_act 164 = .ok (.iload 9, 2) := by decide +kernel
theorem dL_act_166 : decode cL_act 166 = .ok (.iadd, 1) := by decide +kernel
theorem dL_act_167 : decode cL_act 167 = .ok (.iastore, 1) := by decide +kernel
theorem dL_act_168 : decode cL_act 168 = .ok (.iload 7, 2) := by decide +kernel
theorem dL_act_170 : decode cL_act 170 = .ok (.ireturn, 1) := by decide +kernel
theorem dL_act_171 : decode cL_act 171 = .ok (.aload_n 0, 1) := by decide +kernel
theorem dL_act_172 : decode cL_act 172 = .ok (.invokevirtual 44, 3) := by decide +kernel
theorem dL_act_175 : decode cL_act 175 = .ok (.ireturn, 1) := by decide +kernel
theorem dL_act_176 : decode cL_act 176 = .ok (.aload_n 0, 1) := by decide +kernel
theorem dL_act_177 : decode cL_act 177 = .ok (.iload 4, 2) := by decide +kernel
theorem dL_act_179 : decode cL_act 179 = .ok (.iload_n 2, 1) := by decide +kernel
theorem dL_act_180 : decode cL_act 180 = .ok (.bipush 9, 2) := by decide +kernel
theorem dL_act_182 : decode cL_act 182 = .ok (.ishr, 1) := by decide +kernel
theorem dL_act_183 : decode cL_act 183 = .ok (.iconst 3, 1) := by decide +kernel
theorem dL_act_184 : decode cL_act 184 = .ok (.iand, 1) := by decide +kernel
theorem dL_act_185 : decode cL_act 185 = .ok (.ifCond .le 13, 3) := by decide +kernel
theorem dL_act_188 : decode cL_act 188 = .ok (.iload_n 2, 1) := by decide +kernel
theorem dL_act_189 : decode cL_act 189 = .ok (.iconst 3, 1) := by decide +kernel
theorem dL_act_190 : decode cL_act 190 = .ok (.ishr, 1) := by decide +kernel
theorem dL_act_191 : decode cL_act 191 = .ok (.iconst 2, 1) := by decide +kernel
theorem dL_act_192 : decode cL_act 192 = .ok (.invokestatic 35, 3) := by decide +kernel
theorem dL_act_195 : decode cL_act 195 = .ok (.goto 5, 3) := by decide +kernel
theorem dL_act_198 : decode cL_act 198 = .ok (.iload 5, 2) := by decide +kernel
theorem dL_act_200 : decode cL_act 200 = .ok (.invokevirtual 48, 3) := by decide +kernel
theorem dL_act_203 : decode cL_act 203 = .ok (.ireturn, 1) := by decide +kernel
theorem dL_act_204 : decode cL_act 204 = .ok (.aload_n 0, 1) := by decide +kernel
theorem dL_act_205 : decode cL_act 205 = .ok (.iload 4, 2) := by decide +kernel
theorem dL_act_207 : decode cL_act 207 = .ok (.invokevirtual 51, 3) := by decide +kernel
theorem dL_act_210 : decode cL_act 210 = .ok (.ireturn, 1) := by decide +kernel
theorem dL_act_211 : decode cL_act 211 = .ok (.iload_n 2, 1) := by decide +kernel
theorem dL_act_212 : decode cL_act 212 = .ok (.bipush 9, 2) := by decide +kernel
theorem dL_act_214 : decode cL_act 214 = .ok (.ishr, 1) := by decide +kernel
theorem dL_act_215 : decode cL_act 215 = .ok (.iconst 1, 1) := by decide +kernel
theorem dL_act_216 : decode cL_act 216 = .ok (.iand, 1) := by decide +kernel
theorem dL_act_217 : decode cL_act 217 = .ok (.ifCond .ne 12, 3) := by decide +kernel
theorem dL_act_220 : decode cL_act 220 = .ok (.aload_n 0, 1) := by decide +kernel
theorem dL_act_221 : decode cL_act 221 = .ok (.iload 4, 2) := by decide +kernel
theorem dL_act_223 : decode cL_act 223 = .ok (.invokevirtual 54, 3) := by decide +kernel
theorem dL_act_226 : decode cL_act 226 = .ok (.goto 9, 3) := by decide +kernel
theorem dL_act_229 : decode cL_act 229 = .ok (.aload_n 0, 1) := by decide +kernel
theorem dL_act_230 : decode cL_act 230 = .ok (.iload 4, 2) := by decide +kernel
theorem dL_act_232 : decode cL_act 232 = .ok (.invokevirtual 57, 3) := by decide +kernel
theorem dL_act_235 : decode cL_act 235 = .ok (.ireturn, 1) := by decide +kernel
theorem dL_act_236 : decode cL_act 236 = .ok (.iconst 4, 1) := by decide +kernel
theorem dL_act_237 : decode cL_act 237 = .ok (.newarray .int, 2) := by decide +kernel
theorem dL_act_239 : decode cL_act 239 = .ok (.astore 10, 2) := by decide +kernel
theorem dL_act_241 : decode cL_act 241 = .ok (.iconst 0, 1) := by decide +kernel
theorem dL_act_242 : decode cL_act 242 = .ok (.istore 11, 2) := by decide +kernel
theorem dL_act_244 : decode cL_act 244 = .ok (.iload 11, 2) := by decide +kernel
theorem dL_act_246 : decode cL_act 246 = .ok (.iconst 4, 1) := by decide +kernel
theorem dL_act_247 : decode cL_act 247 = .ok (.if_icmp .ge 21, 3) := by decide +kernel
theorem dL_act_250 : decode cL_act 250 = .ok (.aload 10, 2) := by decide +kernel
theorem dL_act_252 : decode cL_act 252 = .ok (.iload 11, 2) := by decide +kernel
theorem dL_act_254 : decode cL_act 254 = .ok (.aload_n 0, 1) := by decide +kernel
theorem dL_act_255 : decode cL_act 255 = .ok (.iconst 0, 1) := by decide +kernel
theorem dL_act_256 : decode cL_act 256 = .ok (.iload 11, 2) := by decide +kernel
theorem dL_act_258 : decode cL_act 258 = .ok (.invokevirtual 15, 3) := by decide +kernel
theorem dL_act_261 : decode cL_act 261 = .ok (.iastore, 1) := by decide +kernel
theorem dL_act_262 : decode cL_act 262 = .ok (.iinc 11 1, 3) := by decide +kernel
theorem dL_act_265 : decode cL_act 265 = .ok (.goto (-21), 3) := by decide +kernel
theorem dL_act_268 : decode cL_act 268 = .ok (.aload_n 0, 1) := by decide +kernel
theorem dL_act_269 : decode cL_act 269 = .ok (.invokevirtual 60, 3) := by decide +kernel
theorem dL_act_272 : decode cL_act 272 = .ok (.istore 7, 2) := by decide +kernel
theorem dL_act_274 : decode cL_act 274 = .ok (.iconst 0, 1) := by decide +kernel
theorem dL_act_275 : decode cL_act 275 = .ok (.istore 11, 2) := by decide +kernel
theorem dL_act_277 : decode cL_act 277 = .ok (.iload 11, 2) := by decide +kernel
theorem dL_act_279 : decode cL_act 279 = .ok (.iconst 4, 1) := by decide +kernel
theorem dL_act_280 : decode cL_act 280 = .ok (.if_icmp .ge 28, 3) := by decide +kernel
theorem dL_act_283 : decode cL_act 283 = .ok (.iload 7, 2) := by decide +kernel
theorem dL_act_285 : decode cL_act 285 = .ok (.ifCond .lt 23, 3) := by decide +kernel
theorem dL_act_288 : decode cL_act 288 = .ok (.aload_n 3, 1) := by decide +kernel
theorem dL_act_289 : decode cL_act 289 = .ok (.iconst 4, 1) := by decide +kernel
theorem dL_act_290 : decode cL_act 290 = .ok (.iload 11, 2) := by decide +kernel
theorem dL_act_292 : decode cL_act 292 = .ok (.iadd, 1) := by decide +kernel
theorem dL_act_293 : decode cL_act 293 = .ok (.dup2, 1) := by decide +kernel
theorem dL_act_294 : decode cL_act 294 = .ok (.iaload, 1) := by decide +kernel
theorem dL_act_295 : decode cL_act 295 = .ok (.aload 10, 2) := by decide +kernel
theorem dL_act_297 : decode cL_act 297 = .ok (.iload 11, 2) := by decide +kernel
theorem dL_act_299 : decode cL_act 299 = .ok (.iaload, 1) := by decide +kernel
theorem dL_act_300 : decode cL_act 300 = .ok (.iadd, 1) := by decide +kernel
theorem dL_act_301 : decode cL_act 301 = .ok (.iastore, 1) := by decide +kernel
theorem dL_act_302 : decode cL_act 302 = .ok (.iinc 11 1, 3) := by decide +kernel
theorem dL_act_305 : decode cL_act 305 = .ok (.goto (-28), 3) := by decide +kernel
theorem dL_act_308 : decode cL_act 308 = .ok (.iload 7, 2) := by decide +kernel
theorem dL_act_310 : decode cL_act 310 = .ok (.ireturn, 1) := by decide +kernel
theorem dL_act_311 : decode cL_act 311 = .ok (.aload_n 0, 1) := by decide +kernel
theorem dL_act_312 : decode cL_act 312 = .ok (.iload_n 2, 1) := by decide +kernel
theorem dL_act_313 : decode cL_act 313 = .ok (.iconst 3, 1) := by decide +kernel
theorem dL_act_314 : decode cL_act 314 = .ok (.iand, 1) := by decide +kernel
theorem dL_act_315 : decode cL_act 315 = .ok (.ifCond .le 7, 3) := by decide +kernel
theorem dL_act_318 : decode cL_act 318 = .ok (.iconst 1, 1) := by decide +kernel
theorem dL_act_319 : decode cL_act 319 = .ok (.goto 4, 3) := by decide +kernel
theorem dL_act_322 : decode cL_act 322 = .ok (.iconst 0, 1) := by decide +kernel
theorem dL_act_323 : decode cL_act 323 = .ok (.invokevirtual 63, 3) := by decide +kernel
theorem dL_act_326 : decode cL_act 326 = .ok (.ireturn, 1) := by decide +kernel
theorem dL_act_327 : decode cL_act 327 = .ok (.aload_n 0, 1) := by decide +kernel
theorem dL_act_328 : decode cL_act 328 = .ok (.iload 5, 2) := by decide +kernel
theorem dL_act_330 : decode cL_act 330 = .ok (.iconst 1, 1) := by decide +kernel
theorem dL_act_331 : decode cL_act 331 = .ok (.iload_n 2, 1) := by decide +kernel
theorem dL_act_332 : decode cL_act 332 = .ok (.iconst 5, 1) := by decide +kernel
theorem dL_act_333 : decode cL_act 333 = .ok (.ishr, 1) := by decide +kernel
theorem dL_act_334 : decode cL_act 334 = .ok (.bipush 40, 2) := by decide +kernel
theorem dL_act_336 : decode cL_act 336 = .ok (.invokestatic 35, 3) := by decide +kernel
theorem dL_act_339 : decode cL_act 339 = .ok (.iadd, 1) := by decide +kernel
theorem dL_act_340 : decode cL_act 340 = .ok (.invokevirtual 67, 3) := by decide +kernel
theorem dL_act_343 : decode cL_act 343 = .ok (.istore 7, 2) := by decide +kernel
theorem dL_act_345 : decode cL_act 345 = .ok (.aload_n 3, 1) := by decide +kernel
theorem dL_act_346 : decode cL_act 346 = .ok (.bipush 8, 2) := by decide +kernel
theorem dL_act_348 : decode cL_act 348 = .ok (.iload 5, 2) := by decide +kernel
theorem dL_act_350 : decode cL_act 350 = .ok (.iadd, 1) := by decide +kernel
theorem dL_act_351 : decode cL_act 351 = .ok (.dup2, 1) := by decide +kernel
theorem dL_act_352 : decode cL_act 352 = .ok (.iaload, 1) := by decide +kernel
theorem dL_act_353 : decode cL_act 353 = .ok (.iload 7, 2) := by decide +kernel
theorem dL_act_355 : decode cL_act 355 = .ok (.ifCond .lt 16, 3) := by decide +kernel
theorem dL_act_358 : decode cL_act 358 = .ok (.iconst 1, 1) := by decide +kernel
theorem dL_act_359 : decode cL_act 359 = .ok (.iload_n 2, 1) := by decide +kernel
theorem dL_act_360 : decode cL_act 360 = .ok (.iconst 5, 1) := by decide +kernel
theorem dL_act_361 : decode cL_act 361 = .ok (.ishr, 1) := by decide +kernel
theorem dL_act_362 : decode cL_act 362 = .ok (.bipush 40, 2) := by decide +kernel
theorem dL_act_364 : decode cL_act 364 = .ok (.invokestatic 35, 3) := by decide +kernel
theorem dL_act_367 : decode cL_act 367 = .ok (.iadd, 1) := by decide +kernel
theorem dL_act_368 : decode cL_act 368 = .ok (.goto 4, 3) := by decide +kernel
theorem dL_act_371 : decode cL_act 371 = .ok (.iconst 0, 1) := by decide +kernel
theorem dL_act_372 : decode cL_act 372 = .ok (.iadd, 1) := by decide +kernel
theorem dL_act_373 : decode cL_act 373 = .ok (.iastore, 1) := by decide +kernel
theorem dL_act_374 : decode cL_act 374 = .ok (.iload 7, 2) := by decide +kernel
theorem dL_act_376 : decode cL_act 376 = .ok (.ireturn, 1) := by decide +kernel
theorem dL_act_377 : decode cL_act 377 = .ok (.iload_n 2, 1) := by decide +kernel
theorem dL_act_378 : decode cL_act 378 = .ok (.iconst 4, 1) := by decide +kernel
theorem dL_act_379 : decode cL_act 379 = .ok (.invokestatic 35, 3) := by decide +kernel
theorem dL_act_382 : decode cL_act 382 = .ok (.istore 11, 2) := by decide +kernel
theorem dL_act_384 : decode cL_act 384 = .ok (.aload_n 0, 1) := by decide +kernel
theorem dL_act_385 : decode cL_act 385 = .ok (.iload 11, 2) := by decide +kernel
theorem dL_act_387 : decode cL_act 387 = .ok (.iload 11, 2) := by decide +kernel
theorem dL_act_389 : decode cL_act 389 = .ok (.ifCond .ne 17, 3) := by decide +kernel
theorem dL_act_392 : decode cL_act 392 = .ok (.bipush 80, 2) := by decide +kernel
theorem dL_act_394 : decode cL_act 394 = .ok (.iload_n 2, 1) := by decide +kernel
theorem dL_act_395 : decode cL_act 395 = .ok (.iconst 5, 1) := by decide +kernel
theorem dL_act_396 : decode cL_act 396 = .ok (.ishr, 1) := by decide +kernel
theorem dL_act_397 : decode cL_act 397 = .ok (.bipush 50, 2) := by decide +kernel
theorem dL_act_399 : decode cL_act 399 = .ok (.invokestatic 35, 3) := by decide +kernel
theorem dL_act_402 : decode cL_act 402 = .ok (.iadd, 1) := by decide +kernel
theorem dL_act_403 : decode cL_act 403 = .ok (.goto 47, 3) := by decide +kernel
theorem dL_act_406 : decode cL_act 406 = .ok (.iload 11, 2) := by decide +kernel
theorem dL_act_408 : decode cL_act 408 = .ok (.iconst 1, 1) := by decide +kernel
theorem dL_act_409 : decode cL_act 409 = .ok (.if_icmp .ne 14, 3) := by decide +kernel
theorem dL_act_412 : decode cL_act 412 = .ok (.iload_n 2, 1) := by decide +kernel
theorem dL_act_413 : decode cL_act 413 = .ok (.iconst 5, 1) := by decide +kernel
theorem dL_act_414 : decode cL_act 414 = .ok (.ishr, 1) := by decide +kernel
theorem dL_act_415 : decode cL_act 415 = .ok (.bipush 41, 2) := by decide +kernel
theorem dL_act_417 : decode cL_act 417 = .ok (.invokestatic 35, 3) := by decide +kernel
theorem dL_act_420 : decode cL_act 420 = .ok (.goto 30, 3) := by decide +kernel
theorem dL_act_423 : decode cL_act 423 = .ok (.iload 11, 2) := by decide +kernel
theorem dL_act_425 : decode cL_act 425 = .ok (.iconst 2, 1) := by decide +kernel
theorem dL_act_426 : decode cL_act 426 = .ok (.if_icmp .ne 14, 3) := by decide +kernel
theorem dL_act_429 : decode cL_act 429 = .ok (.iload_n 2, 1) := by decide +kernel
theorem dL_act_430 : decode cL_act 430 = .ok (.iconst 5, 1) := by decide +kernel
theorem dL_act_431 : decode cL_act 431 = .ok (.ishr, 1) := by decide +kernel
theorem dL_act_432 : decode cL_act 432 = .ok (.bipush 12, 2) := by decide +kernel
theorem dL_act_434 : decode cL_act 434 = .ok (.invokestatic 35, 3) := by decide +kernel
theorem dL_act_437 : decode cL_act 437 = .ok (.goto 13, 3) := by decide +kernel
theorem dL_act_440 : decode cL_act 440 = .ok (.iconst 1, 1) := by decide +kernel
theorem dL_act_441 : decode cL_act 441 = .ok (.iload_n 2, 1) := by decide +kernel
theorem dL_act_442 : decode cL_act 442 = .ok (.iconst 5, 1) := by decide +kernel
theorem dL_act_443 : decode cL_act 443 = .ok (.ishr, 1) := by decide +kernel
theorem dL_act_444 : decode cL_act 444 = .ok (.bipush 40, 2) := by decide +kernel
theorem dL_act_446 : decode cL_act 446 = .ok (.invokestatic 35, 3) := by decide +kernel
theorem dL_act_449 : decode cL_act 449 = .ok (.iadd, 1) := by decide +kernel
theorem dL_act_450 : decode cL_act 450 = .ok (.invokevirtual 70, 3) := by decide +kernel
theorem dL_act_453 : decode cL_act 453 = .ok (.ireturn, 1) := by decide +kernel
theorem dL_act_454 : decode cL_act 454 = .ok (.aload_n 0, 1) := by decide +kernel
theorem dL_act_455 : decode cL_act 455 = .ok (.iload 4, 2) := by decide +kernel
theorem dL_act_457 : decode cL_act 457 = .ok (.bipush 20, 2) := by decide +kernel
theorem dL_act_459 : decode cL_act 459 = .ok (.iload_n 2, 1) := by decide +kernel
theorem dL_act_460 : decode cL_act 460 = .ok (.iconst 5, 1) := by decide +kernel
theorem dL_act_461 : decode cL_act 461 = .ok (.ishr, 1) := by decide +kernel
theorem dL_act_462 : decode cL_act 462 = .ok (.bipush 101, 2) := by decide +kernel
theorem dL_act_464 : decode cL_act 464 = .ok (.invokestatic 35, 3) := by decide +kernel
theorem dL_act_467 : decode cL_act 467 = .ok (.iadd, 1) := by decide +kernel
theorem dL_act_468 : decode cL_act 468 = .ok (.invokevirtual 73, 3) := by decide +kernel
theorem dL_act_471 : decode cL_act 471 = .ok (.ireturn, 1) := by decide +kernel
theorem dL_act_472 : decode cL_act 472 = .ok (.aload_n 0, 1) := by decide +kernel
theorem dL_act_473 : decode cL_act 473 = .ok (.iconst 1, 1) := by decide +kernel
theorem dL_act_474 : decode cL_act 474 = .ok (.iload_n 2, 1) := by decide +kernel
theorem dL_act_475 : decode cL_act 475 = .ok (.bipush 10, 2) := by decide +kernel
theorem dL_act_477 : decode cL_act 477 = .ok (.invokestatic 35, 3) := by decide +kernel
theorem dL_act_480 : decode cL_act 480 = .ok (.iadd, 1) := by decide +kernel
theorem dL_act_481 : decode cL_act 481 = .ok (.invokevirtual 76, 3) := by decide +kernel
theorem dL_act_484 : decode cL_act 484 = .ok (.ireturn, 1) := by decide +kernel
theorem dL_addsUp_0 : decode cL_addsUp 0 = .ok (.iconst 0, 1) := by decide +kernel
theorem dL_addsUp_1 : decode cL_addsUp 1 = .ok (.istore_n 2, 1) := by decide +kernel
theorem dL_addsUp_2 : decode cL_addsUp 2 = .ok (.iconst 0, 1) := by decide +kernel
theorem dL_addsUp_3 : decode cL_addsUp 3 = .ok (.istore_n 3, 1) := by decide +kernel
theorem dL_addsUp_4 : decode cL_addsUp 4 = .ok (.iconst 0, 1) := by decide +kernel
theorem dL_addsUp_5 : decode cL_addsUp 5 = .ok (.istore 4, 2) := by decide +kernel
theorem dL_addsUp_7 : decode cL_addsUp 7 = .ok (.iconst 0, 1) := by decide +kernel
theorem dL_addsUp_8 : decode cL_addsUp 8 = .ok (.istore 5, 2) := by decide +kernel
theorem dL_addsUp_10 : decode cL_addsUp 10 = .ok (.iconst 0, 1) := by decide +kernel
theorem dL_addsUp_11 : decode cL_addsUp 11 = .ok (.istore 6, 2) := by decide +kernel
theorem dL_addsUp_13 : decode cL_addsUp 13 = .ok (.iload 6, 2) := by decide +kernel
theorem dL_addsUp_15 : decode cL_addsUp 15 = .ok (.iconst 4, 1) := by decide +kernel
theorem dL_addsUp_16 : decode cL_addsUp 16 = .ok (.if_icmp .ge 139, 3) := by decide +kernel
theorem dL_addsUp_19 : decode cL_addsUp 19 = .ok (.aload_n 1, 1) := by decide +kernel
theorem dL_addsUp_20 : decode cL_addsUp 20 = .ok (.iload 6, 2) := by decide +kernel
theorem dL_addsUp_22 : decode cL_addsUp 22 = .ok (.iaload, 1) := by decide +kernel
theorem dL_addsUp_23 : decode cL_addsUp 23 = .ok (.aload_n 0, 1) := by decide +kernel
theorem dL_addsUp_24 : decode cL_addsUp 24 = .ok (.iload 6, 2) := by decide +kernel
theorem dL_addsUp_26 : decode cL_addsUp 26 = .ok (.iconst 0, 1) := by decide +kernel
theorem dL_addsUp_27 : decode cL_addsUp 27 = .ok (.invokevirtual 9, 3) := by decide +kernel
theorem dL_addsUp_30 : decode cL_addsUp 30 = .ok (.aload_n 0, 1) := by decide +kernel
theorem dL_addsUp_31 : decode cL_addsUp 31 = .ok (.iload 6, 2) := by decide +kernel
theorem dL_addsUp_33 : decode cL_addsUp 33 = .ok (.iconst 1, 1) := by decide +kernel
theorem dL_addsUp_34 : decode cL_addsUp 34 = .ok (.invokevirtual 9, 3) := by decide +kernel
theorem dL_addsUp_37 : decode cL_addsUp 37 = .ok (.iadd, 1) := by decide +kernel
theorem dL_addsUp_38 : decode cL_addsUp 38 = .ok (.aload_n 0, 1) := by decide +kernel
theorem dL_addsUp_39 : decode cL_addsUp 39 = .ok (.iload 6, 2) := by decide +kernel
theorem dL_addsUp_41 : decode cL_addsUp 41 = .ok (.iconst 2, 1) := by decide +kernel
theorem dL_addsUp_42 : decode cL_addsUp 42 = .ok (.invokevirtual 9, 3) := by decide +kernel
theorem dL_addsUp_45 : decode cL_addsUp 45 = .ok (.iadd, 1) := by decide +kernel
theorem dL_addsUp_46 : decode cL_addsUp 46 = .ok (.aload_n 0, 1) := by decide +kernel
theorem dL_addsUp_47 : decode cL_addsUp 47 = .ok (.iload 6, 2) := by decide +kernel
theorem dL_addsUp_49 : decode cL_addsUp 49 = .ok (.iconst 3, 1) := by decide +kernel
theorem dL_addsUp_50 : decode cL_addsUp 50 = .ok (.invokevirtual 9, 3) := by decide +kernel
theorem dL_addsUp_53 : decode cL_addsUp 53 = .ok (.iadd, 1) := by decide +kernel
theorem dL_addsUp_54 : decode cL_addsUp 54 = .ok (.aload_n 1, 1) := by decide +kernel
theorem dL_addsUp_55 : decode cL_addsUp 55 = .ok (.iconst 4, 1) := by decide +kernel
theorem dL_addsUp_56 : decode cL_addsUp 56 = .ok (.iload 6, 2) := by decide +kernel
theorem dL_addsUp_58 : decode cL_addsUp 58 = .ok (.iadd, 1) := by decide +kernel
theorem dL_addsUp_59 : decode cL_addsUp 59 = .ok (.iaload, 1) := by decide +kernel
theorem dL_addsUp_60 : decode cL_addsUp 60 = .ok (.iadd, 1) := by decide +kernel
theorem dL_addsUp_61 : decode cL_addsUp 61 = .ok (.aload_n 1, 1) := by decide +kernel
theorem dL_addsUp_62 : decode cL_addsUp 62 = .ok (.bipush 8, 2) := by decide +kernel
theorem dL_addsUp_64 : decode cL_addsUp 64 = .ok (.iload 6, 2) := by decide +kernel
theorem dL_addsUp_66 : decode cL_addsUp 66 = .ok (.iadd, 1) := by decide +kernel
theorem dL_addsUp_67 : decode cL_addsUp 67 = .ok (.iaload, 1) := by decide +kernel
theorem dL_addsUp_68 : decode cL_addsUp 68 = .ok (.iadd, 1) := by decide +kernel
theorem dL_addsUp_69 : decode cL_addsUp 69 = .ok (.if_icmp .ne 26, 3) := by decide +kernel
theorem dL_addsUp_72 : decode cL_addsUp 72 = .ok (.aload_n 0, 1) := by decide +kernel
theorem dL_addsUp_73 : decode cL_addsUp 73 = .ok (.iload 6, 2) := by decide +kernel
theorem dL_addsUp_75 : decode cL_addsUp 75 = .ok (.iconst 0, 1) := by decide +kernel
theorem dL_addsUp_76 : decode cL_addsUp 76 = .ok (.invokevirtual 9, 3) := by decide +kernel
theorem dL_addsUp_79 : decode cL_addsUp 79 = .ok (.ifCond .lt 16, 3) := by decide +kernel
theorem dL_addsUp_82 : decode cL_addsUp 82 = .ok (.aload_n 0, 1) := by decide +kernel
theorem dL_addsUp_83 : decode cL_addsUp 83 = .ok (.iload 6, 2) := by decide +kernel
theorem dL_addsUp_85 : decode cL_addsUp 85 = .ok (.iconst 0, 1) := by decide +kernel
theorem dL_addsUp_86 : decode cL_addsUp 86 = .ok (.invokevirtual 9, 3) := by decide +kernel
theorem dL_addsUp_89 : decode cL_addsUp 89 = .ok (.sipush 1000, 3) := by decide +kernel
theorem dL_addsUp_92 : decode cL_addsUp 92 = .ok (.if_icmp .le 5, 3) := by decide +kernel
theorem dL_addsUp_95 : decode cL_addsUp 95 = .ok (.iconst 0, 1) := by decide +kernel
theorem dL_addsUp_96 : decode cL_addsUp 96 = .ok (.ireturn, 1) := by decide +kernel
theorem dL_addsUp_97 : decode cL_addsUp 97 = .ok (.iload_n 2, 1) := by decide +kernel
theorem dL_addsUp_98 : decode cL_addsUp 98 = .ok (.aload_n 0, 1) := by decide +kernel
theorem dL_addsUp_99 : decode cL_addsUp 99 = .ok (.iload 6, 2) := by decide +kernel
theorem dL_addsUp_101 : decode cL_addsUp 101 = .ok (.iconst 3, 1) := by decide +kernel
theorem dL_addsUp_102 : decode cL_addsUp 102 = .ok (.invokevirtual 9, 3) := by decide +kernel
theorem dL_addsUp_105 : decode cL_addsUp 105 = .ok (.iadd, 1) := by decide +kernel
theorem dL_addsUp_106 : decode cL_addsUp 106 = .ok (.istore_n 2, 1) := by decide +kernel
theorem dL_addsUp_107 : decode cL_addsUp 107 = .ok (.iload_n 3, 1) := by decide +kernel
theorem dL_addsUp_108 : decode cL_addsUp 108 = .ok (.aload_n 0, 1) := by decide +kernel
theorem dL_addsUp_109 : decode cL_addsUp 109 = .ok (.iload 6, 2) := by decide +kernel
theorem dL_addsUp_111 : decode cL_addsUp 111 = .ok (.iconst 0, 1) := by decide +kernel
theorem dL_addsUp_112 : decode cL_addsUp 112 = .ok (.invokevirtual 9, 3) := by decide +kernel
theorem dL_addsUp_115 : decode cL_addsUp 115 = .ok (.aload_n 1, 1) := by decide +kernel
theorem dL_addsUp_116 : decode cL_addsUp 116 = .ok (.bipush 8, 2) := by decide +kernel
theorem dL_addsUp_118 : decode cL_addsUp 118 = .ok (.iload 6, 2) := by decide +kernel
theorem dL_addsUp_120 : decode cL_addsUp 120 = .ok (.iadd, 1) := by decide +kernel
theorem dL_addsUp_121 : decode cL_addsUp 121 = .ok (.iaload, 1) := by decide +kernel
theorem dL_addsUp_122 : decode cL_addsUp 122 = .ok (.iadd, 1) := by decide +kernel
theorem dL_addsUp_123 : decode cL_addsUp 123 = .ok (.iadd, 1) := by decide +kernel
theorem dL_addsUp_124 : decode cL_addsUp 124 = .ok (.istore_n 3, 1) := by decide +kernel
theorem dL_addsUp_125 : decode cL_addsUp 125 = .ok (.iload 4, 2) := by decide +kernel
theorem dL_addsUp_127 : decode cL_addsUp 127 = .ok (.aload_n 0, 1) := by decide +kernel
theorem dL_addsUp_128 : decode cL_addsUp 128 = .ok (.iload 6, 2) := by decide +kernel
theorem dL_addsUp_130 : decode cL_addsUp 130 = .ok (.iconst 4, 1) := by decide +kernel
theorem dL_addsUp_131 : decode cL_addsUp 131 = .ok (.invokevirtual 28, 3) := by decide +kernel
theorem dL_addsUp_134 : decode cL_addsUp 134 = .ok (.iadd, 1) := by decide +kernel
theorem dL_addsUp_135 : decode cL_addsUp 135 = .ok (.istore 4, 2) := by decide +kernel
theorem dL_addsUp_137 : decode cL_addsUp 137 = .ok (.iload 5, 2) := by decide +kernel
theorem dL_addsUp_139 : decode cL_addsUp 139 = .ok (.aload_n 0, 1) := by decide +kernel
theorem dL_addsUp_140 : decode cL_addsUp 140 = .ok (.iload 6, 2) := by decide +kernel
theorem dL_addsUp_142 : decode cL_addsUp 142 = .ok (.iconst 5, 1) := by decide +kernel
theorem dL_addsUp_143 : decode cL_addsUp 143 = .ok (.invokevirtual 28, 3) := by decide +kernel
theorem dL_addsUp_146 : decode cL_addsUp 146 = .ok (.iadd, 1) := by decide +kernel
theorem dL_addsUp_147 : decode cL_addsUp 147 = .ok (.istore 5, 2) := by decide +kernel
theorem dL_addsUp_149 : decode cL_addsUp 149 = .ok (.iinc 6 1, 3) := by decide +kernel
theorem dL_addsUp_152 : decode cL_addsUp 152 = .ok (.goto (-139), 3) := by decide +kernel
theorem dL_addsUp_155 : decode cL_addsUp 155 = .ok (.iload_n 2, 1) := by decide +kernel
theorem dL_addsUp_156 : decode cL_addsUp 156 = .ok (.aload_n 0, 1) := by decide +kernel
theorem dL_addsUp_157 : decode cL_addsUp 157 = .ok (.bipush 15, 2) := by decide +kernel
theorem dL_addsUp_159 : decode cL_addsUp 159 = .ok (.invokevirtual 22, 3) := by decide +kernel
theorem dL_addsUp_162 : decode cL_addsUp 162 = .ok (.aload_n 0, 1) := by decide +kernel
theorem dL_addsUp_163 : decode cL_addsUp 163 = .ok (.bipush 14, 2) := by decide +kernel
theorem dL_addsUp_165 : decode cL_addsUp 165 = .ok (.invokevirtual 22, 3) := by decide +kernel
theorem dL_addsUp_168 : decode cL_addsUp 168 = .ok (.iadd, 1) := by decide +kernel
theorem dL_addsUp_169 : decode cL_addsUp 169 = .ok (.aload_n 0, 1) := by decide +kernel
theorem dL_addsUp_170 : decode cL_addsUp 170 = .ok (.bipush 16, 2) := by decide +kernel
theorem dL_addsUp_172 : decode cL_addsUp 172 = .ok (.invokevirtual 22, 3) := by decide +kernel
theorem dL_addsUp_175 : decode cL_addsUp 175 = .ok (.iadd, 1) := by decide +kernel
theorem dL_addsUp_176 : decode cL_addsUp 176 = .ok (.if_icmp .ne 77, 3) := by decide +kernel
theorem dL_addsUp_179 : decode cL_addsUp 179 = .ok (.aload_n 0, 1) := by decide +kernel
theorem dL_addsUp_180 : decode cL_addsUp 180 = .ok (.bipush 14, 2) := by decide +kernel
theorem dL_addsUp_182 : decode cL_addsUp 182 = .ok (.invokevirtual 22, 3) := by decide +kernel
theorem dL_addsUp_185 : decode cL_addsUp 185 = .ok (.sipush 200, 3) := by decide +kernel
theorem dL_addsUp_188 : decode cL_addsUp 188 = .ok (.if_icmp .gt 65, 3) := by decide +kernel
theorem dL_addsUp_191 : decode cL_addsUp 191 = .ok (.aload_n 0, 1) := by decide +kernel
theorem dL_addsUp_192 : decode cL_addsUp 192 = .ok (.bipush 13, 2) := by decide +kernel
theorem dL_addsUp_194 : decode cL_addsUp 194 = .ok (.invokevirtual 22, 3) := by decide +kernel
theorem dL_addsUp_197 : decode cL_addsUp 197 = .ok (.iconst 1, 1) := by decide +kernel
theorem dL_addsUp_198 : decode cL_addsUp 198 = .ok (.if_icmp .eq 12, 3) := by decide +kernel
theorem dL_addsUp_201 : decode cL_addsUp 201 = .ok (.aload_n 0, 1) := by decide +kernel
theorem dL_addsUp_202 : decode cL_addsUp 202 = .ok (.bipush 14, 2) := by decide +kernel
theorem dL_addsUp_204 : decode cL_addsUp 204 = .ok (.invokevirtual 22, 3) := by decide +kernel
theorem dL_addsUp_207 : decode cL_addsUp 207 = .ok (.ifCond .ne 46, 3) := by decide +kernel
theorem dL_addsUp_210 : decode cL_addsUp 210 = .ok (.iload 4, 2) := by decide +kernel
theorem dL_addsUp_212 : decode cL_addsUp 212 = .ok (.iload_n 3, 1) := by decide +kernel
theorem dL_addsUp_213 : decode cL_addsUp 213 = .ok (.isub, 1) := by decide +kernel
theorem dL_addsUp_214 : decode cL_addsUp 214 = .ok (.aload_n 0, 1) := by decide +kernel
theorem dL_addsUp_215 : decode cL_addsUp 215 = .ok (.invokestatic 79, 3) := by decide +kernel
theorem dL_addsUp_218 : decode cL_addsUp 218 = .ok (.iload 5, 2) := by decide +kernel
theorem dL_addsUp_220 : decode cL_addsUp 220 = .ok (.isub, 1) := by decide +kernel
theorem dL_addsUp_221 : decode cL_addsUp 221 = .ok (.if_icmp .ne 32, 3) := by decide +kernel
theorem dL_addsUp_224 : decode cL_addsUp 224 = .ok (.iload 4, 2) := by decide +kernel
theorem dL_addsUp_226 : decode cL_addsUp 226 = .ok (.iload_n 3, 1) := by decide +kernel
theorem dL_addsUp_227 : decode cL_addsUp 227 = .ok (.if_icmp .lt 26, 3) := by decide +kernel
theorem dL_addsUp_230 : decode cL_addsUp 230 = .ok (.aload_n 0, 1) := by decide +kernel
theorem dL_addsUp_231 : decode cL_addsUp 231 = .ok (.bipush 10, 2) := by decide +kernel
theorem dL_addsUp_233 : decode cL_addsUp 233 = .ok (.invokevirtual 22, 3) := by decide +kernel
theorem dL_addsUp_236 : decode cL_addsUp 236 = .ok (.iconst 1, 1) := by decide +kernel
theorem dL_addsUp_237 : decode cL_addsUp 237 = .ok (.if_icmp .eq 12, 3) := by decide +kernel
theorem dL_addsUp_240 : decode cL_addsUp 240 = .ok (.aload_n 0, 1) := by decide +kernel
theorem dL_addsUp_241 : decode cL_addsUp 241 = .ok (.bipush 11, 2) := by decide +kernel
theorem dL_addsUp_243 : decode cL_addsUp 243 = .ok (.invokevirtual 22, 3) := by decide +kernel
theorem dL_addsUp_246 : decode cL_addsUp 246 = .ok (.ifCond .ne 7, 3) := by decide +kernel
theorem dL_addsUp_249 : decode cL_addsUp 249 = .ok (.iconst 1, 1) := by decide +kernel
theorem dL_addsUp_250 : decode cL_addsUp 250 = .ok (.goto 4, 3) := by decide +kernel
theorem dL_addsUp_253 : decode cL_addsUp 253 = .ok (.iconst 0, 1) := by decide +kernel
theorem dL_addsUp_254 : decode cL_addsUp 254 = .ok (.ireturn, 1) := by decide +kernel
theorem dL_isAhead_0 : decode cL_isAhead 0 = .ok (.aload_n 0, 1) := by decide +kernel
theorem dL_isAhead_1 : decode cL_isAhead 1 = .ok (.invokestatic 83, 3) := by decide +kernel
theorem dL_isAhead_4 : decode cL_isAhead 4 = .ok (.lstore_n 2, 1) := by decide +kernel
theorem dL_isAhead_5 : decode cL_isAhead 5 = .ok (.aload_n 0, 1) := by decide +kernel
theorem dL_isAhead_6 : decode cL_isAhead 6 = .ok (.iconst 0, 1) := by decide +kernel
theorem dL_isAhead_7 : decode cL_isAhead 7 = .ok (.invokevirtual 87, 3) := by decide +kernel
theorem dL_isAhead_10 : decode cL_isAhead 10 = .ok (.istore 4, 2) := by decide +kernel
theorem dL_isAhead_12 : decode cL_isAhead 12 = .ok (.aload_n 0, 1) := by decide +kernel
theorem dL_isAhead_13 : decode cL_isAhead 13 = .ok (.bipush 15, 2) := by decide +kernel
theorem dL_isAhead_15 : decode cL_isAhead 15 = .ok (.invokevirtual 22, 3) := by decide +kernel
theorem dL_isAhead_18 : decode cL_isAhead 18 = .ok (.istore 5, 2) := by decide +kernel
theorem dL_isAhead_20 : decode cL_isAhead 20 = .ok (.aload_n 0, 1) := by decide +kernel
theorem dL_isAhead_21 : decode cL_isAhead 21 = .ok (.invokestatic 79, 3) := by decide +kernel
theorem dL_isAhead_24 : decode cL_isAhead 24 = .ok (.istore 6, 2) := by decide +kernel
theorem dL_isAhead_26 : decode cL_isAhead 26 = .ok (.aload_n 0, 1) := by decide +kernel
theorem dL_isAhead_27 : decode cL_isAhead 27 = .ok (.bipush 17, 2) := by decide +kernel
theorem dL_isAhead_29 : decode cL_isAhead 29 = .ok (.invokevirtual 22, 3) := by decide +kernel
theorem dL_isAhead_32 : decode cL_isAhead 32 = .ok (.istore 7, 2) := by decide +kernel
theorem dL_isAhead_34 : decode cL_isAhead 34 = .ok (.aload_n 0, 1) := by decide +kernel
theorem dL_isAhead_35 : decode cL_isAhead 35 = .ok (.iload_n 1, 1) := by decide +kernel
theorem dL_isAhead_36 : decode cL_isAhead 36 = .ok (.iconst 0, 1) := by decide +kernel
theorem dL_isAhead_37 : decode cL_isAhead 37 = .ok (.invokevirtual 90, 3) := by decide +kernel
theorem dL_isAhead_40 : decode cL_isAhead 40 = .ok (.istore 8, 2) := by decide +kernel
theorem dL_isAhead_42 : decode cL_isAhead 42 = .ok (.aload_n 0, 1) := by decide +kernel
theorem dL_isAhead_43 : decode cL_isAhead 43 = .ok (.iload_n 1, 1) := by decide +kernel
theorem dL_isAhead_44 : decode cL_isAhead 44 = .ok (.iconst 1, 1) := by decide +kernel
theorem dL_isAhead_45 : decode cL_isAhead 45 = .ok (.invokevirtual 90, 3) := by decide +kernel
theorem dL_isAhead_48 : decode cL_isAhead 48 = .ok (.istore 9, 2) := by decide +kernel
theorem dL_isAhead_50 : decode cL_isAhead 50 = .ok (.aload_n 0, 1) := by decide +kernel
theorem dL_isAhead_51 : decode cL_isAhead 51 = .ok (.iload_n 1, 1) := by decide +kernel
theorem dL_isAhead_52 : decode cL_isAhead 52 = .ok (.iconst 2, 1) := by decide +kernel
theorem dL_isAhead_53 : decode cL_isAhead 53 = .ok (.invokevirtual 90, 3) := by decide +kernel
theorem dL_isAhead_56 : decode cL_isAhead 56 = .ok (.istore 10, 2) := by decide +kernel
theorem dL_isAhead_58 : decode cL_isAhead 58 = .ok (.aload_n 0, 1) := by decide +kernel
theorem dL_isAhead_59 : decode cL_isAhead 59 = .ok (.iload_n 1, 1) := by decide +kernel
theorem dL_isAhead_60 : decode cL_isAhead 60 = .ok (.iconst 3, 1) := by decide +kernel
theorem dL_isAhead_61 : decode cL_isAhead 61 = .ok (.invokevirtual 90, 3) := by decide +kernel
theorem dL_isAhead_64 : decode cL_isAhead 64 = .ok (.istore 11, 2) := by decide +kernel
theorem dL_isAhead_66 : decode cL_isAhead 66 = .ok (.iload 4, 2) := by decide +kernel
theorem dL_isAhead_68 : decode cL_isAhead 68 = .ok (.aload_n 0, 1) := by decide +kernel
theorem dL_isAhead_69 : decode cL_isAhead 69 = .ok (.bipush 6, 2) := by decide +kernel
theorem dL_isAhead_71 : decode cL_isAhead 71 = .ok (.invokevirtual 22, 3) := by decide +kernel
theorem dL_isAhead_74 : decode cL_isAhead 74 = .ok (.if_icmp .ne 76, 3) := by decide +kernel
theorem dL_isAhead_77 : decode cL_isAhead 77 = .ok (.aload_n 0, 1) := by decide +kernel
theorem dL_isAhead_78 : decode cL_isAhead 78 = .ok (.invokestatic 83, 3) := by decide +kernel
theorem dL_isAhead_81 : decode cL_isAhead 81 = .ok (.lload_n 2, 1) := by decide +kernel
theorem dL_isAhead_82 : decode cL_isAhead 82 = .ok (.lcmp, 1) := by decide +kernel
theorem dL_isAhead_83 : decode cL_isAhead 83 = .ok (.ifCond .ne 67, 3) := by decide +kernel
theorem dL_isAhead_86 : decode cL_isAhead 86 = .ok (.aload_n 0, 1) := by decide +kernel
theorem dL_isAhead_87 : decode cL_isAhead 87 = .ok (.iload_n 1, 1) := by decide +kernel
theorem dL_isAhead_88 : decode cL_isAhead 88 = .ok (.invokevirtual 76, 3) := by decide +kernel
theorem dL_isAhead_91 : decode cL_isAhead 91 = .ok (.iload 8, 2) := by decide +kernel
theorem dL_isAhead_93 : decode cL_isAhead 93 = .ok (.if_icmp .ne 57, 3) := by decide +kernel
theorem dL_isAhead_96 : decode cL_isAhead 96 = .ok (.aload_n 0, 1) := by decide +kernel
theorem dL_isAhead_97 : decode cL_isAhead 97 = .ok (.bipush 15, 2) := by decide +kernel
theorem dL_isAhead_99 : decode cL_isAhead 99 = .ok (.invokevirtual 22, 3) := by decide +kernel
theorem dL_isAhead_102 : decode cL_isAhead 102 = .ok (.iload 5, 2) := by decide +kernel
theorem dL_isAhead_104 : decode cL_isAhead 104 = .ok (.isub, 1) := by decide +kernel
theorem dL_isAhead_105 : decode cL_isAhead 105 = .ok (.iload 9, 2) := by decide +kernel
theorem dL_isAhead_107 : decode cL_isAhead 107 = .ok (.if_icmp .ne 43, 3) := by decide +kernel
theorem dL_isAhead_110 : decode cL_isAhead 110 = .ok (.aload_n 0, 1) := by decide +kernel
theorem dL_isAhead_111 : decode cL_isAhead 111 = .ok (.invokestatic 79, 3) := by decide +kernel
theorem dL_isAhead_114 : decode cL_isAhead 114 = .ok (.iload 6, 2) := by decide +kernel
theorem dL_isAhead_116 : decode cL_isAhead 116 = .ok (.isub, 1) := by decide +kernel
theorem dL_isAhead_117 : decode cL_isAhead 117 = .ok (.iload 10, 2) := by decide +kernel
theorem dL_isAhead_119 : decode cL_isAhead 119 = .ok (.if_icmp .ne 31, 3) := by decide +kernel
theorem dL_isAhead_122 : decode cL_isAhead 122 = .ok (.aload_n 0, 1) := by decide +kernel
theorem dL_isAhead_123 : decode cL_isAhead 123 = .ok (.bipush 17, 2) := by decide +kernel
theorem dL_isAhead_125 : decode cL_isAhead 125 = .ok (.invokevirtual 22, 3) := by decide +kernel
theorem dL_isAhead_128 : decode cL_isAhead 128 = .ok (.iload 7, 2) := by decide +kernel
theorem dL_isAhead_130 : decode cL_isAhead 130 = .ok (.isub, 1) := by decide +kernel
theorem dL_isAhead_131 : decode cL_isAhead 131 = .ok (.iload 11, 2) := by decide +kernel
theorem dL_isAhead_133 : decode cL_isAhead 133 = .ok (.if_icmp .ne 17, 3) := by decide +kernel
theorem dL_isAhead_136 : decode cL_isAhead 136 = .ok (.aload_n 0, 1) := by decide +kernel
theorem dL_isAhead_137 : decode cL_isAhead 137 = .ok (.iconst 0, 1) := by decide +kernel
theorem dL_isAhead_138 : decode cL_isAhead 138 = .ok (.invokevirtual 93, 3) := by decide +kernel
theorem dL_isAhead_141 : decode cL_isAhead 141 = .ok (.iload 4, 2) := by decide +kernel
theorem dL_isAhead_143 : decode cL_isAhead 143 = .ok (.if_icmp .ne 7, 3) := by decide +kernel
theorem dL_isAhead_146 : decode cL_isAhead 146 = .ok (.iconst 1, 1) := by decide +kernel
theorem dL_isAhead_147 : decode cL_isAhead 147 = .ok (.goto 4, 3) := by decide +kernel
theorem dL_isAhead_150 : decode cL_isAhead 150 = .ok (.iconst 0, 1) := by decide +kernel
theorem dL_isAhead_151 : decode cL_isAhead 151 = .ok (.istore 12, 2) := by decide +kernel
theorem dL_isAhead_153 : decode cL_isAhead 153 = .ok (.aload_n 0, 1) := by decide +kernel
theorem dL_isAhead_154 : decode cL_isAhead 154 = .ok (.invokevirtual 96, 3) := by decide +kernel
theorem dL_isAhead_157 : decode cL_isAhead 157 = .ok (.istore 13, 2) := by decide +kernel
theorem dL_isAhead_159 : decode cL_isAhead 159 = .ok (.aload_n 0, 1) := by decide +kernel
theorem dL_isAhead_160 : decode cL_isAhead 160 = .ok (.bipush 10, 2) := by decide +kernel
theorem dL_isAhead_162 : decode cL_isAhead 162 = .ok (.invokevirtual 22, 3) := by decide +kernel
theorem dL_isAhead_165 : decode cL_isAhead 165 = .ok (.ifCond .ne 25, 3) := by decide +kernel
theorem dL_isAhead_168 : decode cL_isAhead 168 = .ok (.iload 12, 2) := by decide +kernel
theorem dL_isAhead_170 : decode cL_isAhead 170 = .ok (.ifCond .eq 14, 3) := by decide +kernel
theorem dL_isAhead_173 : decode cL_isAhead 173 = .ok (.iload 13, 2) := by decide +kernel
theorem dL_isAhead_175 : decode cL_isAhead 175 = .ok (.ldc 99, 2) := by decide +kernel
theorem dL_isAhead_177 : decode cL_isAhead 177 = .ok (.if_icmp .ne 7, 3) := by decide +kernel
theorem dL_isAhead_180 : decode cL_isAhead 180 = .ok (.iconst 1, 1) := by decide +kernel
theorem dL_isAhead_181 : decode cL_isAhead 181 = .ok (.goto 4, 3) := by decide +kernel
theorem dL_isAhead_184 : decode cL_isAhead 184 = .ok (.iconst 0, 1) := by decide +kernel
theorem dL_isAhead_185 : decode cL_isAhead 185 = .ok (.istore 12, 2) := by decide +kernel
theorem dL_isAhead_187 : decode cL_isAhead 187 = .ok (.goto 103, 3) := by decide +kernel
theorem dL_isAhead_190 : decode cL_isAhead 190 = .ok (.iload 13, 2) := by decide +kernel
theorem dL_isAhead_192 : decode cL_isAhead 192 = .ok (.ifCond .le 74, 3) := by decide +kernel
theorem dL_isAhead_195 : decode cL_isAhead 195 = .ok (.iload 13, 2) := by decide +kernel
theorem dL_isAhead_197 : decode cL_isAhead 197 = .ok (.bipush 49, 2) := by decide +kernel
theorem dL_isAhead_199 : decode cL_isAhead 199 = .ok (.if_icmp .ge 67, 3) := by decide +kernel
theorem dL_isAhead_202 : decode cL_isAhead 202 = .ok (.iload 12, 2) := by decide +kernel
theorem dL_isAhead_204 : decode cL_isAhead 204 = .ok (.ifCond .eq 56, 3) := by decide +kernel
theorem dL_isAhead_207 : decode cL_isAhead 207 = .ok (.iload 13, 2) := by decide +kernel
theorem dL_isAhead_209 : decode cL_isAhead 209 = .ok (.iconst 1, 1) := by decide +kernel
theorem dL_isAhead_210 : decode cL_isAhead 210 = .ok (.if_icmp .eq 21, 3) := by decide +kernel
theorem dL_isAhead_213 : decode cL_isAhead 213 = .ok (.aload_n 0, 1) := by decide +kernel
theorem dL_isAhead_214 : decode cL_isAhead 214 = .ok (.iload 13, 2) := by decide +kernel
theorem dL_isAhead_216 : decode cL_isAhead 216 = .ok (.iconst 1, 1) := by decide +kernel
theorem dL_isAhead_217 : decode cL_isAhead 217 = .ok (.isub, 1) := by decide +kernel
theorem dL_isAhead_218 : decode cL_isAhead 218 = .ok (.invokevirtual 76, 3) := by decide +kernel
theorem dL_isAhead_221 : decode cL_isAhead 221 = .ok (.ifCond .lt 39, 3) := by decide +kernel
theorem dL_isAhead_224 : decode cL_isAhead 224 = .ok (.aload_n 0, 1) := by decide +kernel
theorem dL_isAhead_225 : decode cL_isAhead 225 = .ok (.invokestatic 100, 3) := by decide +kernel
theorem dL_isAhead_228 : decode cL_isAhead 228 = .ok (.ifCond .le 32, 3) := by decide +kernel
theorem dL_isAhead_231 : decode cL_isAhead 231 = .ok (.aload_n 0, 1) := by decide +kernel
theorem dL_isAhead_232 : decode cL_isAhead 232 = .ok (.iconst 1, 1) := by decide +kernel
theorem dL_isAhead_233 : decode cL_isAhead 233 = .ok (.invokevirtual 76, 3) := by decide +kernel
theorem dL_isAhead_236 : decode cL_isAhead 236 = .ok (.ifCond .lt 24, 3) := by decide +kernel
theorem dL_isAhead_239 : decode cL_isAhead 239 = .ok (.aload_n 0, 1) := by decide +kernel
theorem dL_isAhead_240 : decode cL_isAhead 240 = .ok (.invokestatic 100, 3) := by decide +kernel
theorem dL_isAhead_243 : decode cL_isAhead 243 = .ok (.ifCond .ne 17, 3) := by decide +kernel
theorem dL_isAhead_246 : decode cL_isAhead 246 = .ok (.aload_n 0, 1) := by decide +kernel
theorem dL_isAhead_247 : decode cL_isAhead 247 = .ok (.iconst 0, 1) := by decide +kernel
theorem dL_isAhead_248 : decode cL_isAhead 248 = .ok (.invokevirtual 93, 3) := by decide +kernel
theorem dL_isAhead_251 : decode cL_isAhead 251 = .ok (.iload 4, 2) := by decide +kernel
theorem dL_isAhead_253 : decode cL_isAhead 253 = .ok (.if_icmp .ne 7, 3) := by decide +kernel
theorem dL_isAhead_256 : decode cL_isAhead 256 = .ok (.iconst 1, 1) := by decide +kernel
theorem dL_isAhead_257 : decode cL_isAhead 257 = .ok (.goto 4, 3) := by decide +kernel
theorem dL_isAhead_260 : decode cL_isAhead 260 = .ok (.iconst 0, 1) := by decide +kernel
theorem dL_isAhead_261 : decode cL_isAhead 261 = .ok (.istore 12, 2) := by decide +kernel
theorem dL_isAhead_263 : decode cL_isAhead 263 = .ok (.goto 27, 3) := by decide +kernel
theorem dL_isAhead_266 : decode cL_isAhead 266 = .ok (.iload 12, 2) := by decide +kernel
theorem dL_isAhead_268 : decode cL_isAhead 268 = .ok (.ifCond .eq 19, 3) := by decide +kernel
theorem dL_isAhead_271 : decode cL_isAhead 271 = .ok (.iload 13, 2) := by decide +kernel
theorem dL_isAhead_273 : decode cL_isAhead 273 = .ok (.ifCond .ne 10, 3) := by decide +kernel
theorem dL_isAhead_276 : decode cL_isAhead 276 = .ok (.aload_n 0, 1) := by decide +kernel
theorem dL_isAhead_277 : decode cL_isAhead 277 = .ok (.invokestatic 100, 3) := by decide +kernel
theorem dL_isAhead_280 : decode cL_isAhead 280 = .ok (.ifCond .ne 7, 3) := by decide +kernel
theorem dL_isAhead_283 : decode cL_isAhead 283 = .ok (.iconst 1, 1) := by decide +kernel
theorem dL_isAhead_284 : decode cL_isAhead 284 = .ok (.goto 4, 3) := by decide +kernel
theorem dL_isAhead_287 : decode cL_isAhead 287 = .ok (.iconst 0, 1) := by decide +kernel
theorem dL_isAhead_288 : decode cL_isAhead 288 = .ok (.istore 12, 2) := by decide +kernel
theorem dL_isAhead_290 : decode cL_isAhead 290 = .ok (.iload 12, 2) := by decide +kernel
theorem dL_isAhead_292 : decode cL_isAhead 292 = .ok (.ifCond .eq 16, 3) := by decide +kernel
theorem dL_isAhead_295 : decode cL_isAhead 295 = .ok (.aload_n 0, 1) := by decide +kernel
theorem dL_isAhead_296 : decode cL_isAhead 296 = .ok (.invokestatic 83, 3) := by decide +kernel
theorem dL_isAhead_299 : decode cL_isAhead 299 = .ok (.lload_n 2, 1) := by decide +kernel
theorem dL_isAhead_300 : decode cL_isAhead 300 = .ok (.lcmp, 1) := by decide +kernel
theorem dL_isAhead_301 : decode cL_isAhead 301 = .ok (.ifCond .ne 7, 3) := by decide +kernel
theorem dL_isAhead_304 : decode cL_isAhead 304 = .ok (.iconst 1, 1) := by decide +kernel
theorem dL_isAhead_305 : decode cL_isAhead 305 = .ok (.goto 4, 3) := by decide +kernel
theorem dL_isAhead_308 : decode cL_isAhead 308 = .ok (.iconst 0, 1) := by decide +kernel
theorem dL_isAhead_309 : decode cL_isAhead 309 = .ok (.ireturn, 1) := by decide +kernel
theorem dL_isSafe_0 : decode cL_isSafe 0 = .ok (.aload_n 0, 1) := by decide +kernel
theorem dL_isSafe_1 : decode cL_isSafe 1 = .ok (.invokestatic 83, 3) := by decide +kernel
theorem dL_isSafe_4 : decode cL_isSafe 4 = .ok (.lstore_n 2, 1) := by decide +kernel
theorem dL_isSafe_5 : decode cL_isSafe 5 = .ok (.aload_n 0, 1) := by decide +kernel
theorem dL_isSafe_6 : decode cL_isSafe 6 = .ok (.iload_n 1, 1) := by decide +kernel
theorem dL_isSafe_7 : decode cL_isSafe 7 = .ok (.invokevirtual 103, 3) := by decide +kernel
theorem dL_isSafe_10 : decode cL_isSafe 10 = .ok (.istore 4, 2) := by decide +kernel
theorem dL_isSafe_12 : decode cL_isSafe 12 = .ok (.aload_n 0, 1) := by decide +kernel
theorem dL_isSafe_13 : decode cL_isSafe 13 = .ok (.iload_n 1, 1) := by decide +kernel
theorem dL_isSafe_14 : decode cL_isSafe 14 = .ok (.invokevirtual 106, 3) := by decide +kernel
theorem dL_isSafe_17 : decode cL_isSafe 17 = .ok (.istore 5, 2) := by decide +kernel
theorem dL_isSafe_19 : decode cL_isSafe 19 = .ok (.aload_n 0, 1) := by decide +kernel
theorem dL_isSafe_20 : decode cL_isSafe 20 = .ok (.iload_n 1, 1) := by decide +kernel
theorem dL_isSafe_21 : decode cL_isSafe 21 = .ok (.iconst 2, 1) := by decide +kernel
theorem dL_isSafe_22 : decode cL_isSafe 22 = .ok (.invokevirtual 28, 3) := by decide +kernel
theorem dL_isSafe_25 : decode cL_isSafe 25 = .ok (.ifCond .ge 23, 3) := by decide +kernel
theorem dL_isSafe_28 : decode cL_isSafe 28 = .ok (.iload 4, 2) := by decide +kernel
theorem dL_isSafe_30 : decode cL_isSafe 30 = .ok (.ldc 99, 2) := by decide +kernel
theorem dL_isSafe_32 : decode cL_isSafe 32 = .ok (.if_icmp .ne 14, 3) := by decide +kernel
theorem dL_isSafe_35 : decode cL_isSafe 35 = .ok (.iload 5, 2) := by decide +kernel
theorem dL_isSafe_37 : decode cL_isSafe 37 = .ok (.ldc 99, 2) := by decide +kernel
theorem dL_isSafe_39 : decode cL_isSafe 39 = .ok (.if_icmp .ne 7, 3) := by decide +kernel
theorem dL_isSafe_42 : decode cL_isSafe 42 = .ok (.iconst 1, 1) := by decide +kernel
theorem dL_isSafe_43 : decode cL_isSafe 43 = .ok (.goto 4, 3) := by decide +kernel
theorem dL_isSafe_46 : decode cL_isSafe 46 = .ok (.iconst 0, 1) := by decide +kernel
theorem dL_isSafe_47 : decode cL_isSafe 47 = .ok (.ireturn, 1) := by decide +kernel
theorem dL_isSafe_48 : decode cL_isSafe 48 = .ok (.aload_n 0, 1) := by decide +kernel
theorem dL_isSafe_49 : decode cL_isSafe 49 = .ok (.iconst 1, 1) := by decide +kernel
theorem dL_isSafe_50 : decode cL_isSafe 50 = .ok (.invokevirtual 87, 3) := by decide +kernel
theorem dL_isSafe_53 : decode cL_isSafe 53 = .ok (.istore 6, 2) := by decide +kernel
theorem dL_isSafe_55 : decode cL_isSafe 55 = .ok (.iload 4, 2) := by decide +kernel
theorem dL_isSafe_57 : decode cL_isSafe 57 = .ok (.ldc 109, 2) := by decide +kernel
theorem dL_isSafe_59 : decode cL_isSafe 59 = .ok (.if_icmp .eq 16, 3) := by decide +kernel
theorem dL_isSafe_62 : decode cL_isSafe 62 = .ok (.iload 4, 2) := by decide +kernel
theorem dL_isSafe_64 : decode cL_isSafe 64 = .ok (.ifCond .lt 15, 3) := by decide +kernel
theorem dL_isSafe_67 : decode cL_isSafe 67 = .ok (.iload 4, 2) := by decide +kernel
theorem dL_isSafe_69 : decode cL_isSafe 69 = .ok (.sipush 200, 3) := by decide +kernel
theorem dL_isSafe_72 : decode cL_isSafe 72 = .ok (.if_icmp .ge 7, 3) := by decide +kernel
theorem dL_isSafe_75 : decode cL_isSafe 75 = .ok (.iconst 1, 1) := by decide +kernel
theorem dL_isSafe_76 : decode cL_isSafe 76 = .ok (.goto 4, 3) := by decide +kernel
theorem dL_isSafe_79 : decode cL_isSafe 79 = .ok (.iconst 0, 1) := by decide +kernel
theorem dL_isSafe_80 : decode cL_isSafe 80 = .ok (.istore 7, 2) := by decide +kernel
theorem dL_isSafe_82 : decode cL_isSafe 82 = .ok (.iload 4, 2) := by decide +kernel
theorem dL_isSafe_84 : decode cL_isSafe 84 = .ok (.ifCond .lt 73, 3) := by decide +kernel
theorem dL_isSafe_87 : decode cL_isSafe 87 = .ok (.iload 4, 2) := by decide +kernel
theorem dL_isSafe_89 : decode cL_isSafe 89 = .ok (.bipush 48, 2) := by decide +kernel
theorem dL_isSafe_91 : decode cL_isSafe 91 = .ok (.if_icmp .ge 66, 3) := by decide +kernel
theorem dL_isSafe_94 : decode cL_isSafe 94 = .ok (.iload 7, 2) := by decide +kernel
theorem dL_isSafe_96 : decode cL_isSafe 96 = .ok (.ifCond .eq 58, 3) := by decide +kernel
theorem dL_isSafe_99 : decode cL_isSafe 99 = .ok (.iload 4, 2) := by decide +kernel
theorem dL_isSafe_101 : decode cL_isSafe 101 = .ok (.ifCond .eq 21, 3) := by decide +kernel
theorem dL_isSafe_104 : decode cL_isSafe 104 = .ok (.aload_n 0, 1) := by decide +kernel
theorem dL_isSafe_105 : decode cL_isSafe 105 = .ok (.iload 4, 2) := by decide +kernel
theorem dL_isSafe_107 : decode cL_isSafe 107 = .ok (.invokevirtual 76, 3) := by decide +kernel
theorem dL_isSafe_110 : decode cL_isSafe 110 = .ok (.ifCond .lt 44, 3) := by decide +kernel
theorem dL_isSafe_113 : decode cL_isSafe 113 = .ok (.aload_n 0, 1) := by decide +kernel
theorem dL_isSafe_114 : decode cL_isSafe 114 = .ok (.iload_n 1, 1) := by decide +kernel
theorem dL_isSafe_115 : decode cL_isSafe 115 = .ok (.iconst 3, 1) := by decide +kernel
theorem dL_isSafe_116 : decode cL_isSafe 116 = .ok (.invokevirtual 28, 3) := by decide +kernel
theorem dL_isSafe_119 : decode cL_isSafe 119 = .ok (.ifCond .ne 35, 3) := by decide +kernel
theorem dL_isSafe_122 : decode cL_isSafe 122 = .ok (.aload_n 0, 1) := by decide +kernel
theorem dL_isSafe_123 : decode cL_isSafe 123 = .ok (.iconst 1, 1) := by decide +kernel
theorem dL_isSafe_124 : decode cL_isSafe 124 = .ok (.invokevirtual 76, 3) := by decide +kernel
theorem dL_isSafe_127 : decode cL_isSafe 127 = .ok (.ifCond .lt 27, 3) := by decide +kernel
theorem dL_isSafe_130 : decode cL_isSafe 130 = .ok (.aload_n 0, 1) := by decide +kernel
theorem dL_isSafe_131 : decode cL_isSafe 131 = .ok (.iload_n 1, 1) := by decide +kernel
theorem dL_isSafe_132 : decode cL_isSafe 132 = .ok (.iconst 3, 1) := by decide +kernel
theorem dL_isSafe_133 : decode cL_isSafe 133 = .ok (.invokevirtual 28, 3) := by decide +kernel
theorem dL_isSafe_136 : decode cL_isSafe 136 = .ok (.iconst 1, 1) := by decide +kernel
theorem dL_isSafe_137 : decode cL_isSafe 137 = .ok (.if_icmp .ne 17, 3) := by decide +kernel
theorem dL_isSafe_140 : decode cL_isSafe 140 = .ok (.aload_n 0, 1) := by decide +kernel
theorem dL_isSafe_141 : decode cL_isSafe 141 = .ok (.iconst 1, 1) := by decide +kernel
theorem dL_isSafe_142 : decode cL_isSafe 142 = .ok (.invokevirtual 93, 3) := by decide +kernel
theorem dL_isSafe_145 : decode cL_isSafe 145 = .ok (.iload 6, 2) := by decide +kernel
theorem dL_isSafe_147 : decode cL_isSafe 147 = .ok (.if_icmp .ne 7, 3) := by decide +kernel
theorem dL_isSafe_150 : decode cL_isSafe 150 = .ok (.iconst 1, 1) := by decide +kernel
theorem dL_isSafe_151 : decode cL_isSafe 151 = .ok (.goto 4, 3) := by decide +kernel
theorem dL_isSafe_154 : decode cL_isSafe 154 = .ok (.iconst 0, 1) := by decide +kernel
theorem dL_isSafe_155 : decode cL_isSafe 155 = .ok (.istore 7, 2) := by decide +kernel
theorem dL_isSafe_157 : decode cL_isSafe 157 = .ok (.iload 5, 2) := by decide +kernel
theorem dL_isSafe_159 : decode cL_isSafe 159 = .ok (.bipush 20, 2) := by decide +kernel
theorem dL_isSafe_161 : decode cL_isSafe 161 = .ok (.if_icmp .le 47, 3) := by decide +kernel
theorem dL_isSafe_164 : decode cL_isSafe 164 = .ok (.iload 7, 2) := by decide +kernel
theorem dL_isSafe_166 : decode cL_isSafe 166 = .ok (.ifCond .eq 39, 3) := by decide +kernel
theorem dL_isSafe_169 : decode cL_isSafe 169 = .ok (.aload_n 0, 1) := by decide +kernel
theorem dL_isSafe_170 : decode cL_isSafe 170 = .ok (.iload_n 1, 1) := by decide +kernel
theorem dL_isSafe_171 : decode cL_isSafe 171 = .ok (.iload 5, 2) := by decide +kernel
theorem dL_isSafe_173 : decode cL_isSafe 173 = .ok (.iconst 1, 1) := by decide +kernel
theorem dL_isSafe_174 : decode cL_isSafe 174 = .ok (.isub, 1) := by decide +kernel
theorem dL_isSafe_175 : decode cL_isSafe 175 = .ok (.invokevirtual 73, 3) := by decide +kernel
theorem dL_isSafe_178 : decode cL_isSafe 178 = .ok (.bipush 20, 2) := by decide +kernel
theorem dL_isSafe_180 : decode cL_isSafe 180 = .ok (.if_icmp .lt 25, 3) := by decide +kernel
theorem dL_isSafe_183 : decode cL_isSafe 183 = .ok (.aload_n 0, 1) := by decide +kernel
theorem dL_isSafe_184 : decode cL_isSafe 184 = .ok (.iload_n 1, 1) := by decide +kernel
theorem dL_isSafe_185 : decode cL_isSafe 185 = .ok (.invokevirtual 103, 3) := by decide +kernel
theorem dL_isSafe_188 : decode cL_isSafe 188 = .ok (.ifCond .lt 17, 3) := by decide +kernel
theorem dL_isSafe_191 : decode cL_isSafe 191 = .ok (.aload_n 0, 1) := by decide +kernel
theorem dL_isSafe_192 : decode cL_isSafe 192 = .ok (.iconst 1, 1) := by decide +kernel
theorem dL_isSafe_193 : decode cL_isSafe 193 = .ok (.invokevirtual 93, 3) := by decide +kernel
theorem dL_isSafe_196 : decode cL_isSafe 196 = .ok (.iload 6, 2) := by decide +kernel
theorem dL_isSafe_198 : decode cL_isSafe 198 = .ok (.if_icmp .ne 7, 3) := by decide +kernel
theorem dL_isSafe_201 : decode cL_isSafe 201 = .ok (.iconst 1, 1) := by decide +kernel
theorem dL_isSafe_202 : decode cL_isSafe 202 = .ok (.goto 4, 3) := by decide +kernel
theorem dL_isSafe_205 : decode cL_isSafe 205 = .ok (.iconst 0, 1) := by decide +kernel
theorem dL_isSafe_206 : decode cL_isSafe 206 = .ok (.istore 7, 2) := by decide +kernel
theorem dL_isSafe_208 : decode cL_isSafe 208 = .ok (.iload 7, 2) := by decide +kernel
theorem dL_isSafe_210 : decode cL_isSafe 210 = .ok (.ifCond .eq 67, 3) := by decide +kernel
theorem dL_isSafe_213 : decode cL_isSafe 213 = .ok (.aload_n 0, 1) := by decide +kernel
theorem dL_isSafe_214 : decode cL_isSafe 214 = .ok (.iload_n 1, 1) := by decide +kernel
theorem dL_isSafe_215 : decode cL_isSafe 215 = .ok (.iload 5, 2) := by decide +kernel
theorem dL_isSafe_217 : decode cL_isSafe 217 = .ok (.ifCond .ge 8, 3) := by decide +kernel
theorem dL_isSafe_220 : decode cL_isSafe 220 = .ok (.bipush 120, 2) := by decide +kernel
theorem dL_isSafe_222 : decode cL_isSafe 222 = .ok (.goto 5, 3) := by decide +kernel
theorem dL_isSafe_225 : decode cL_isSafe 225 = .ok (.iload 5, 2) := by decide +kernel
theorem dL_isSafe_227 : decode cL_isSafe 227 = .ok (.invokevirtual 73, 3) := by decide +kernel
theorem dL_isSafe_230 : decode cL_isSafe 230 = .ok (.bipush 20, 2) := by decide +kernel
theorem dL_isSafe_232 : decode cL_isSafe 232 = .ok (.if_icmp .lt 45, 3) := by decide +kernel
theorem dL_isSafe_235 : decode cL_isSafe 235 = .ok (.aload_n 0, 1) := by decide +kernel
theorem dL_isSafe_236 : decode cL_isSafe 236 = .ok (.iload_n 1, 1) := by decide +kernel
theorem dL_isSafe_237 : decode cL_isSafe 237 = .ok (.invokevirtual 103, 3) := by decide +kernel
theorem dL_isSafe_240 : decode cL_isSafe 240 = .ok (.ldc 109, 2) := by decide +kernel
theorem dL_isSafe_242 : decode cL_isSafe 242 = .ok (.if_icmp .ne 7, 3) := by decide +kernel
theorem dL_isSafe_245 : decode cL_isSafe 245 = .ok (.iconst 1, 1) := by decide +kernel
theorem dL_isSafe_246 : decode cL_isSafe 246 = .ok (.goto 4, 3) := by decide +kernel
theorem dL_isSafe_249 : decode cL_isSafe 249 = .ok (.iconst 0, 1) := by decide +kernel
theorem dL_isSafe_250 : decode cL_isSafe 250 = .ok (.iload 5, 2) := by decide +kernel
theorem dL_isSafe_252 : decode cL_isSafe 252 = .ok (.ifCond .le 7, 3) := by decide +kernel
theorem dL_isSafe_255 : decode cL_isSafe 255 = .ok (.iconst 1, 1) := by decide +kernel
theorem dL_isSafe_256 : decode cL_isSafe 256 = .ok (.goto 4, 3) := by decide +kernel
theorem dL_isSafe_259 : decode cL_isSafe 259 = .ok (.iconst 0, 1) := by decide +kernel
theorem dL_isSafe_260 : decode cL_isSafe 260 = .ok (.if_icmp .ne 17, 3) := by decide +kernel
theorem dL_isSafe_263 : decode cL_isSafe 263 = .ok (.aload_n 0, 1) := by decide +kernel
theorem dL_isSafe_264 : decode cL_isSafe 264 = .ok (.iconst 1, 1) := by decide +kernel
theorem dL_isSafe_265 : decode cL_isSafe 265 = .ok (.invokevirtual 93, 3) := by decide +kernel
theorem dL_isSafe_268 : decode cL_isSafe 268 = .ok (.iload 6, 2) := by decide +kernel
theorem dL_isSafe_270 : decode cL_isSafe 270 = .ok (.if_icmp .ne 7, 3) := by decide +kernel
theorem dL_isSafe_273 : decode cL_isSafe 273 = .ok (.iconst 1, 1) := by decide +kernel
theorem dL_isSafe_274 : decode cL_isSafe 274 = .ok (.goto 4, 3) := by decide +kernel
theorem dL_isSafe_277 : decode cL_isSafe 277 = .ok (.iconst 0, 1) := by decide +kernel
theorem dL_isSafe_278 : decode cL_isSafe 278 = .ok (.istore 7, 2) := by decide +kernel
theorem dL_isSafe_280 : decode cL_isSafe 280 = .ok (.iload 7, 2) := by decide +kernel
theorem dL_isSafe_282 : decode cL_isSafe 282 = .ok (.ifCond .eq 52, 3) := by decide +kernel
theorem dL_isSafe_285 : decode cL_isSafe 285 = .ok (.iload 4, 2) := by decide +kernel
theorem dL_isSafe_287 : decode cL_isSafe 287 = .ok (.ldc 109, 2) := by decide +kernel
theorem dL_isSafe_289 : decode cL_isSafe 289 = .ok (.if_icmp .ne 7, 3) := by decide +kernel
theorem dL_isSafe_292 : decode cL_isSafe 292 = .ok (.iconst 1, 1) := by decide +kernel
theorem dL_isSafe_293 : decode cL_isSafe 293 = .ok (.goto 4, 3) := by decide +kernel
theorem dL_isSafe_296 : decode cL_isSafe 296 = .ok (.iconst 0, 1) := by decide +kernel
theorem dL_isSafe_297 : decode cL_isSafe 297 = .ok (.iload 5, 2) := by decide +kernel
theorem dL_isSafe_299 : decode cL_isSafe 299 = .ok (.ifCond .le 18, 3) := by decide +kernel
theorem dL_isSafe_302 : decode cL_isSafe 302 = .ok (.iload 5, 2) := by decide +kernel
theorem dL_isSafe_304 : decode cL_isSafe 304 = .ok (.aload_n 0, 1) := by decide +kernel
theorem dL_isSafe_305 : decode cL_isSafe 305 = .ok (.iload_n 1, 1) := by decide +kernel
theorem dL_isSafe_306 : decode cL_isSafe 306 = .ok (.iconst 0, 1) := by decide +kernel
theorem dL_isSafe_307 : decode cL_isSafe 307 = .ok (.invokevirtual 28, 3) := by decide +kernel
theorem dL_isSafe_310 : decode cL_isSafe 310 = .ok (.if_icmp .gt 7, 3) := by decide +kernel
theorem dL_isSafe_313 : decode cL_isSafe 313 = .ok (.iconst 1, 1) := by decide +kernel
theorem dL_isSafe_314 : decode cL_isSafe 314 = .ok (.goto 4, 3) := by decide +kernel
theorem dL_isSafe_317 : decode cL_isSafe 317 = .ok (.iconst 0, 1) := by decide +kernel
theorem dL_isSafe_318 : decode cL_isSafe 318 = .ok (.if_icmp .ne 16, 3) := by decide +kernel
theorem dL_isSafe_321 : decode cL_isSafe 321 = .ok (.aload_n 0, 1) := by decide +kernel
theorem dL_isSafe_322 : decode cL_isSafe 322 = .ok (.invokestatic 83, 3) := by decide +kernel
theorem dL_isSafe_325 : decode cL_isSafe 325 = .ok (.lload_n 2, 1) := by decide +kernel
theorem dL_isSafe_326 : decode cL_isSafe 326 = .ok (.lcmp, 1) := by decide +kernel
theorem dL_isSafe_327 : decode cL_isSafe 327 = .ok (.ifCond .ne 7, 3) := by decide +kernel
theorem dL_isSafe_330 : decode cL_isSafe 330 = .ok (.iconst 1, 1) := by decide +kernel
theorem dL_isSafe_331 : decode cL_isSafe 331 = .ok (.goto 4, 3) := by decide +kernel
theorem dL_isSafe_334 : decode cL_isSafe 334 = .ok (.iconst 0, 1) := by decide +kernel
theorem dL_isSafe_335 : decode cL_isSafe 335 = .ok (.ireturn, 1) := by decide +kernel
theorem dL_isFloating_0 : decode cL_isFloating 0 = .ok (.ldc 109, 2) := by decide +kernel
theorem dL_isFloating_2 : decode cL_isFloating 2 = .ok (.istore_n 1, 1) := by decide +kernel
theorem dL_isFloating_3 : decode cL_isFloating 3 = .ok (.bipush 12, 2) := by decide +kernel
theorem dL_isFloating_5 : decode cL_isFloating 5 = .ok (.istore_n 2, 1) := by decide +kernel
theorem dL_isFloating_6 : decode cL_isFloating 6 = .ok (.iload_n 2, 1) := by decide +kernel
theorem dL_isFloating_7 : decode cL_isFloating 7 = .ok (.ifCond .lt 57, 3) := by decide +kernel
theorem dL_isFloating_10 : decode cL_isFloating 10 = .ok (.aload_n 0, 1) := by decide +kernel
theorem dL_isFloating_11 : decode cL_isFloating 11 = .ok (.bipush 9, 2) := by decide +kernel
theorem dL_isFloating_13 : decode cL_isFloating 13 = .ok (.invokevirtual 22, 3) := by decide +kernel
theorem dL_isFloating_16 : decode cL_isFloating 16 = .ok (.ifCond .le 48, 3) := by decide +kernel
theorem dL_isFloating_19 : decode cL_isFloating 19 = .ok (.aload_n 0, 1) := by decide +kernel
theorem dL_isFloating_20 : decode cL_isFloating 20 = .ok (.iconst 0, 1) := by decide +kernel
theorem dL_isFloating_21 : decode cL_isFloating 21 = .ok (.invokevirtual 22, 3) := by decide +kernel
theorem dL_isFloating_24 : decode cL_isFloating 24 = .ok (.aload_n 0, 1) := by decide +kernel
theorem dL_isFloating_25 : decode cL_isFloating 25 = .ok (.aload_n 0, 1) := by decide +kernel
theorem dL_isFloating_26 : decode cL_isFloating 26 = .ok (.bipush 6, 2) := by decide +kernel
theorem dL_isFloating_28 : decode cL_isFloating 28 = .ok (.invokevirtual 22, 3) := by decide +kernel
theorem dL_isFloating_31 : decode cL_isFloating 31 = .ok (.iload_n 2, 1) := by decide +kernel
theorem dL_isFloating_32 : decode cL_isFloating 32 = .ok (.iadd, 1) := by decide +kernel
theorem dL_isFloating_33 : decode cL_isFloating 33 = .ok (.invokevirtual 110, 3) := by decide +kernel
theorem dL_isFloating_36 : decode cL_isFloating 36 = .ok (.iadd, 1) := by decide +kernel
theorem dL_isFloating_37 : decode cL_isFloating 37 = .ok (.aload_n 0, 1) := by decide +kernel
theorem dL_isFloating_38 : decode cL_isFloating 38 = .ok (.iconst 1, 1) := by decide +kernel
theorem dL_isFloating_39 : decode cL_isFloating 39 = .ok (.iconst 4, 1) := by decide +kernel
theorem dL_isFloating_40 : decode cL_isFloating 40 = .ok (.invokevirtual 15, 3) := by decide +kernel
theorem dL_isFloating_43 : decode cL_isFloating 43 = .ok (.aload_n 0, 1) := by decide +kernel
theorem dL_isFloating_44 : decode cL_isFloating 44 = .ok (.iconst 2, 1) := by decide +kernel
theorem dL_isFloating_45 : decode cL_isFloating 45 = .ok (.invokevirtual 22, 3) := by decide +kernel
theorem dL_isFloating_48 : decode cL_isFloating 48 = .ok (.iadd, 1) := by decide +kernel
theorem dL_isFloating_49 : decode cL_isFloating 49 = .ok (.if_icmp .lt 7, 3) := by decide +kernel
theorem dL_isFloating_52 : decode cL_isFloating 52 = .ok (.iload_n 2, 1) := by decide +kernel
theorem dL_isFloating_53 : decode cL_isFloating 53 = .ok (.goto 4, 3) := by decide +kernel
theorem dL_isFloating_56 : decode cL_isFloating 56 = .ok (.iload_n 1, 1) := by decide +kernel
theorem dL_isFloating_57 : decode cL_isFloating 57 = .ok (.istore_n 1, 1) := by decide +kernel
theorem dL_isFloating_58 : decode cL_isFloating 58 = .ok (.iinc 2 (-1), 3) := by decide +kernel
theorem dL_isFloating_61 : decode cL_isFloating 61 = .ok (.goto (-55), 3) := by decide +kernel
theorem dL_isFloating_64 : decode cL_isFloating 64 = .ok (.aload_n 0, 1) := by decide +kernel
theorem dL_isFloating_65 : decode cL_isFloating 65 = .ok (.invokevirtual 113, 3) := by decide +kernel
theorem dL_isFloating_68 : decode cL_isFloating 68 = .ok (.aload_n 0, 1) := by decide +kernel
theorem dL_isFloating_69 : decode cL_isFloating 69 = .ok (.bipush 9, 2) := by decide +kernel
theorem dL_isFloating_71 : decode cL_isFloating 71 = .ok (.invokevirtual 22, 3) := by decide +kernel
theorem dL_isFloating_74 : decode cL_isFloating 74 = .ok (.ifCond .ne 8, 3) := by decide +kernel
theorem dL_isFloating_77 : decode cL_isFloating 77 = .ok (.ldc 99, 2) := by decide +kernel
theorem dL_isFloating_79 : decode cL_isFloating 79 = .ok (.goto 4, 3) := by decide +kernel
theorem dL_isFloating_82 : decode cL_isFloating 82 = .ok (.iload_n 1, 1) := by decide +kernel
theorem dL_isFloating_83 : decode cL_isFloating 83 = .ok (.if_icmp .ne 52, 3) := by decide +kernel
theorem dL_isFloating_86 : decode cL_isFloating 86 = .ok (.aload_n 0, 1) := by decide +kernel
theorem dL_isFloating_87 : decode cL_isFloating 87 = .ok (.aload_n 0, 1) := by decide +kernel
theorem dL_isFloating_88 : decode cL_isFloating 88 = .ok (.bipush 6, 2) := by decide +kernel
theorem dL_isFloating_90 : decode cL_isFloating 90 = .ok (.invokevirtual 22, 3) := by decide +kernel
theorem dL_isFloating_93 : decode cL_isFloating 93 = .ok (.bipush 12, 2) := by decide +kernel
theorem dL_isFloating_95 : decode cL_isFloating 95 = .ok (.iadd, 1) := by decide +kernel
theorem dL_isFloating_96 : decode cL_isFloating 96 = .ok (.invokevirtual 110, 3) := by decide +kernel
theorem dL_isFloating_99 : decode cL_isFloating 99 = .ok (.aload_n 0, 1) := by decide +kernel
theorem dL_isFloating_100 : decode cL_isFloating 100 = .ok (.bipush 7, 2) := by decide +kernel
theorem dL_isFloating_102 : decode cL_isFloating 102 = .ok (.invokevirtual 22, 3) := by decide +kernel
theorem dL_isFloating_105 : decode cL_isFloating 105 = .ok (.if_icmp .ne 30, 3) := by decide +kernel
theorem dL_isFloating_108 : decode cL_isFloating 108 = .ok (.aload_n 0, 1) := by decide +kernel
theorem dL_isFloating_109 : decode cL_isFloating 109 = .ok (.aload_n 0, 1) := by decide +kernel
theorem dL_isFloating_110 : decode cL_isFloating 110 = .ok (.bipush 6, 2) := by decide +kernel
theorem dL_isFloating_112 : decode cL_isFloating 112 = .ok (.invokevirtual 22, 3) := by decide +kernel
theorem dL_isFloating_115 : decode cL_isFloating 115 = .ok (.bipush 6, 2) := by decide +kernel
theorem dL_isFloating_117 : decode cL_isFloating 117 = .ok (.iadd, 1) := by decide +kernel
theorem dL_isFloating_118 : decode cL_isFloating 118 = .ok (.invokevirtual 110, 3) := by decide +kernel
theorem dL_isFloating_121 : decode cL_isFloating 121 = .ok (.aload_n 0, 1) := by decide +kernel
theorem dL_isFloating_122 : decode cL_isFloating 122 = .ok (.bipush 7, 2) := by decide +kernel
theorem dL_isFloating_124 : decode cL_isFloating 124 = .ok (.invokevirtual 22, 3) := by decide +kernel
theorem dL_isFloating_127 : decode cL_isFloating 127 = .ok (.ineg, 1) := by decide +kernel
theorem dL_isFloating_128 : decode cL_isFloating 128 = .ok (.if_icmp .ne 7, 3) := by decide +kernel
theorem dL_isFloating_131 : decode cL_isFloating 131 = .ok (.iconst 1, 1) := by decide +kernel
theorem dL_isFloating_132 : decode cL_isFloating 132 = .ok (.goto 4, 3) := by decide +kernel
theorem dL_isFloating_135 : decode cL_isFloating 135 = .ok (.iconst 0, 1) := by decide +kernel
theorem dL_isFloating_136 : decode cL_isFloating 136 = .ok (.ireturn, 1) := by decide +kernel
theorem dL_law_0 : decode cL_law 0 = .ok (.new 10, 3) := by decide +kernel
theorem dL_law_3 : decode cL_law 3 = .ok (.dup, 1) := by decide +kernel
theorem dL_law_4 : decode cL_law 4 = .ok (.invokespecial 116, 3) := by decide +kernel
theorem dL_law_7 : decode cL_law 7 = .ok (.astore_n 1, 1) := by decide +kernel
theorem dL_law_8 : decode cL_law 8 = .ok (.bipush 12, 2) := by decide +kernel
theorem dL_law_10 : decode cL_law 10 = .ok (.newarray .int, 2) := by decide +kernel
theorem dL_law_12 : decode cL_law 12 = .ok (.astore_n 2, 1) := by decide +kernel
theorem dL_law_13 : decode cL_law 13 = .ok (.aload_n 1, 1) := by decide +kernel
theorem dL_law_14 : decode cL_law 14 = .ok (.iconst 0, 1) := by decide +kernel
theorem dL_law_15 : decode cL_law 15 = .ok (.invokevirtual 93, 3) := by decide +kernel
theorem dL_law_18 : decode cL_law 18 = .ok (.ldc 99, 2) := by decide +kernel
theorem dL_law_20 : decode cL_law 20 = .ok (.if_icmp .ne 12, 3) := by decide +kernel
theorem dL_law_23 : decode cL_law 23 = .ok (.aload_n 1, 1) := by decide +kernel
theorem dL_law_24 : decode cL_law 24 = .ok (.invokevirtual 117, 3) := by decide +kernel
theorem dL_law_27 : decode cL_law 27 = .ok (.ldc 99, 2) := by decide +kernel
theorem dL_law_29 : decode cL_law 29 = .ok (.if_icmp .eq 5, 3) := by decide +kernel
theorem dL_law_32 : decode cL_law 32 = .ok (.iconst 0, 1) := by decide +kernel
theorem dL_law_33 : decode cL_law 33 = .ok (.ireturn, 1) := by decide +kernel
theorem dL_law_34 : decode cL_law 34 = .ok (.iconst 0, 1) := by decide +kernel
theorem dL_law_35 : decode cL_law 35 = .ok (.istore_n 3, 1) := by decide +kernel
theorem dL_law_36 : decode cL_law 36 = .ok (.iload_n 3, 1) := by decide +kernel
theorem dL_law_37 : decode cL_law 37 = .ok (.bipush 40, 2) := by decide +kernel
theorem dL_law_39 : decode cL_law 39 = .ok (.if_icmp .ge 232, 3) := by decide +kernel
theorem dL_law_42 : decode cL_law 42 = .ok (.aload_n 0, 1) := by decide +kernel
theorem dL_law_43 : decode cL_law 43 = .ok (.iconst 2, 1) := by decide +kernel
theorem dL_law_44 : decode cL_law 44 = .ok (.iload_n 3, 1) := by decide +kernel
theorem dL_law_45 : decode cL_law 45 = .ok (.imul, 1) := by decide +kernel
theorem dL_law_46 : decode cL_law 46 = .ok (.invokestatic 120, 3) := by decide +kernel
theorem dL_law_49 : decode cL_law 49 = .ok (.istore 4, 2) := by decide +kernel
theorem dL_law_51 : decode cL_law 51 = .ok (.aload_n 0, 1) := by decide +kernel
theorem dL_law_52 : decode cL_law 52 = .ok (.iconst 2, 1) := by decide +kernel
theorem dL_law_53 : decode cL_law 53 = .ok (.iload_n 3, 1) := by decide +kernel
theorem dL_law_54 : decode cL_law 54 = .ok (.imul, 1) := by decide +kernel
theorem dL_law_55 : decode cL_law 55 = .ok (.iconst 1, 1) := by decide +kernel
theorem dL_law_56 : decode cL_law 56 = .ok (.iadd, 1) := by decide +kernel
theorem dL_law_57 : decode cL_law 57 = .ok (.invokestatic 120, 3) := by decide +kernel
theorem dL_law_60 : decode cL_law 60 = .ok (.istore 5, 2) := by decide +kernel
theorem dL_law_62 : decode cL_law 62 = .ok (.iload_n 3, 1) := by decide +kernel
theorem dL_law_63 : decode cL_law 63 = .ok (.iconst 5, 1) := by decide +kernel
theorem dL_law_64 : decode cL_law 64 = .ok (.irem, 1) := by decide +kernel
theorem dL_law_65 : decode cL_law 65 = .ok (.ifCond .ne 10, 3) := by decide +kernel
theorem dL_law_68 : decode cL_law 68 = .ok (.aload_n 1, 1) := by decide +kernel
theorem dL_law_69 : decode cL_law 69 = .ok (.invokestatic 83, 3) := by decide +kernel
theorem dL_law_72 : decode cL_law 72 = .ok (.goto 4, 3) := by decide +kernel
theorem dL_law_75 : decode cL_law 75 = .ok (.lconst 0, 1) := by decide +kernel
theorem dL_law_76 : decode cL_law 76 = .ok (.lstore 6, 2) := by decide +kernel
theorem dL_law_78 : decode cL_law 78 = .ok (.aload_n 1, 1) := by decide +kernel
theorem dL_law_79 : decode cL_law 79 = .ok (.iload_n 3, 1) := by decide +kernel
theorem dL_law_80 : decode cL_law 80 = .ok (.ifCond .ne 7, 3) := by decide +kernel
theorem dL_law_83 : decode cL_law 83 = .ok (.iconst 0, 1) := by decide +kernel
theorem dL_law_84 : decode cL_law 84 = .ok (.goto 14, 3) := by decide +kernel
theorem dL_law_87 : decode cL_law 87 = .ok (.iload_n 3, 1) := by decide +kernel
theorem dL_law_88 : decode cL_law 88 = .ok (.iconst 1, 1) := by decide +kernel
theorem dL_law_89 : decode cL_law 89 = .ok (.if_icmp .ne 7, 3) := by decide +kernel
theorem dL_law_92 : decode cL_law 92 = .ok (.iconst 2, 1) := by decide +kernel
theorem dL_law_93 : decode cL_law 93 = .ok (.goto 5, 3) := by decide +kernel
theorem dL_law_96 : decode cL_law 96 = .ok (.iload 4, 2) := by decide +kernel
theorem dL_law_98 : decode cL_law 98 = .ok (.iload 5, 2) := by decide +kernel
theorem dL_law_100 : decode cL_law 100 = .ok (.aload_n 2, 1) := by decide +kernel
theorem dL_law_101 : decode cL_law 101 = .ok (.invokestatic 124, 3) := by decide +kernel
theorem dL_law_104 : decode cL_law 104 = .ok (.istore 8, 2) := by decide +kernel
theorem dL_law_106 : decode cL_law 106 = .ok (.iload_n 3, 1) := by decide +kernel
theorem dL_law_107 : decode cL_law 107 = .ok (.iconst 5, 1) := by decide +kernel
theorem dL_law_108 : decode cL_law 108 = .ok (.irem, 1) := by decide +kernel
theorem dL_law_109 : decode cL_law 109 = .ok (.ifCond .ne 22, 3) := by decide +kernel
theorem dL_law_112 : decode cL_law 112 = .ok (.iload 8, 2) := by decide +kernel
theorem dL_law_114 : decode cL_law 114 = .ok (.ldc 128, 2) := by decide +kernel
theorem dL_law_116 : decode cL_law 116 = .ok (.if_icmp .ge 15, 3) := by decide +kernel
theorem dL_law_119 : decode cL_law 119 = .ok (.aload_n 1, 1) := by decide +kernel
theorem dL_law_120 : decode cL_law 120 = .ok (.invokestatic 83, 3) := by decide +kernel
theorem dL_law_123 : decode cL_law 123 = .ok (.lload 6, 2) := by decide +kernel
theorem dL_law_125 : decode cL_law 125 = .ok (.lcmp, 1) := by decide +kernel
theorem dL_law_126 : decode cL_law 126 = .ok (.ifCond .eq 5, 3) := by decide +kernel
theorem dL_law_129 : decode cL_law 129 = .ok (.iconst 0, 1) := by decide +kernel
theorem dL_law_130 : decode cL_law 130 = .ok (.ireturn, 1) := by decide +kernel
theorem dL_law_131 : decode cL_law 131 = .ok (.iload_n 3, 1) := by decide +kernel
theorem dL_law_132 : decode cL_law 132 = .ok (.iconst 5, 1) := by decide +kernel
theorem dL_law_133 : decode cL_law 133 = .ok (.irem, 1) := by decide +kernel
theorem dL_law_134 : decode cL_law 134 = .ok (.ifCond .ne 29, 3) := by decide +kernel
theorem dL_law_137 : decode cL_law 137 = .ok (.iload 8, 2) := by decide +kernel
theorem dL_law_139 : decode cL_law 139 = .ok (.ldc 128, 2) := by decide +kernel
theorem dL_law_141 : decode cL_law 141 = .ok (.if_icmp .le 22, 3) := by decide +kernel
theorem dL_law_144 : decode cL_law 144 = .ok (.aload_n 1, 1) := by decide +kernel
theorem dL_law_145 : decode cL_law 145 = .ok (.invokevirtual 117, 3) := by decide +kernel
theorem dL_law_148 : decode cL_law 148 = .ok (.ifCond .lt 13, 3) := by decide +kernel
theorem dL_law_151 : decode cL_law 151 = .ok (.aload_n 1, 1) := by decide +kernel
theorem dL_law_152 : decode cL_law 152 = .ok (.invokestatic 83, 3) := by decide +kernel
theorem dL_law_155 : decode cL_law 155 = .ok (.lload 6, 2) := by decide +kernel
theorem dL_law_157 : decode cL_law 157 = .ok (.lcmp, 1) := by decide +kernel
theorem dL_law_158 : decode cL_law 158 = .ok (.ifCond .eq 5, 3) := by decide +kernel
theorem dL_law_161 : decode cL_law 161 = .ok (.iconst 0, 1) := by decide +kernel
theorem dL_law_162 : decode cL_law 162 = .ok (.ireturn, 1) := by decide +kernel
theorem dL_law_163 : decode cL_law 163 = .ok (.iload_n 3, 1) := by decide +kernel
theorem dL_law_164 : decode cL_law 164 = .ok (.iconst 5, 1) := by decide +kernel
theorem dL_law_165 : decode cL_law 165 = .ok (.irem, 1) := by decide +kernel
theorem dL_law_166 : decode cL_law 166 = .ok (.ifCond .ne 33, 3) := by decide +kernel
theorem dL_law_169 : decode cL_law 169 = .ok (.iload 8, 2) := by decide +kernel
theorem dL_law_171 : decode cL_law 171 = .ok (.ldc 128, 2) := by decide +kernel
theorem dL_law_173 : decode cL_law 173 = .ok (.if_icmp .le 26, 3) := by decide +kernel
theorem dL_law_176 : decode cL_law 176 = .ok (.aload_n 1, 1) := by decide +kernel
theorem dL_law_177 : decode cL_law 177 = .ok (.iload_n 3, 1) := by decide +kernel
theorem dL_law_178 : decode cL_law 178 = .ok (.ifCond .ne 7, 3) := by decide +kernel
theorem dL_law_181 : decode cL_law 181 = .ok (.iconst 0, 1) := by decide +kernel
theorem dL_law_182 : decode cL_law 182 = .ok (.goto 5, 3) := by decide +kernel
theorem dL_law_185 : decode cL_law 185 = .ok (.iload 4, 2) := by decide +kernel
theorem dL_law_187 : decode cL_law 187 = .ok (.iload 5, 2) := by decide +kernel
theorem dL_law_189 : decode cL_law 189 = .ok (.invokestatic 129, 3) := by decide +kernel
theorem dL_law_192 : decode cL_law 192 = .ok (.iload 8, 2) := by decide +kernel
theorem dL_law_194 : decode cL_law 194 = .ok (.if_icmp .eq 5, 3) := by decide +kernel
theorem dL_law_197 : decode cL_law 197 = .ok (.iconst 0, 1) := by decide +kernel
theorem dL_law_198 : decode cL_law 198 = .ok (.ireturn, 1) := by decide +kernel
theorem dL_law_199 : decode cL_law 199 = .ok (.aload_n 1, 1) := by decide +kernel
theorem dL_law_200 : decode cL_law 200 = .ok (.aload_n 2, 1) := by decide +kernel
theorem dL_law_201 : decode cL_law 201 = .ok (.invokestatic 133, 3) := by decide +kernel
theorem dL_law_204 : decode cL_law 204 = .ok (.ifCond .eq 59, 3) := by decide +kernel
theorem dL_law_207 : decode cL_law 207 = .ok (.aload_n 1, 1) := by decide +kernel
theorem dL_law_208 : decode cL_law 208 = .ok (.invokestatic 137, 3) := by decide +kernel
theorem dL_law_211 : decode cL_law 211 = .ok (.ifCond .eq 52, 3) := by decide +kernel
theorem dL_law_214 : decode cL_law 214 = .ok (.iload_n 3, 1) := by decide +kernel
theorem dL_law_215 : decode cL_law 215 = .ok (.iconst 4, 1) := by decide +kernel
theorem dL_law_216 : decode cL_law 216 = .ok (.irem, 1) := by decide +kernel
theorem dL_law_217 : decode cL_law 217 = .ok (.iconst 3, 1) := by decide +kernel
theorem dL_law_218 : decode cL_law 218 = .ok (.if_icmp .ne 21, 3) := by decide +kernel
theorem dL_law_221 : decode cL_law 221 = .ok (.aload_n 1, 1) := by decide +kernel
theorem dL_law_222 : decode cL_law 222 = .ok (.iconst 1, 1) := by decide +kernel
theorem dL_law_223 : decode cL_law 223 = .ok (.iload 4, 2) := by decide +kernel
theorem dL_law_225 : decode cL_law 225 = .ok (.iconst 5, 1) := by decide +kernel
theorem dL_law_226 : decode cL_law 226 = .ok (.ishr, 1) := by decide +kernel
theorem dL_law_227 : decode cL_law 227 = .ok (.bipush 48, 2) := by decide +kernel
theorem dL_law_229 : decode cL_law 229 = .ok (.invokestatic 35, 3) := by decide +kernel
theorem dL_law_232 : decode cL_law 232 = .ok (.iadd, 1) := by decide +kernel
theorem dL_law_233 : decode cL_law 233 = .ok (.invokestatic 141, 3) := by decide +kernel
theorem dL_law_236 : decode cL_law 236 = .ok (.ifCond .eq 27, 3) := by decide +kernel
theorem dL_law_239 : decode cL_law 239 = .ok (.iload_n 3, 1) := by decide +kernel
theorem dL_law_240 : decode cL_law 240 = .ok (.bipush 6, 2) := by decide +kernel
theorem dL_law_242 : decode cL_law 242 = .ok (.irem, 1) := by decide +kernel
theorem dL_law_243 : decode cL_law 243 = .ok (.iconst 5, 1) := by decide +kernel
theorem dL_law_244 : decode cL_law 244 = .ok (.if_icmp .ne 21, 3) := by decide +kernel
theorem dL_law_247 : decode cL_law 247 = .ok (.aload_n 1, 1) := by decide +kernel
theorem dL_law_248 : decode cL_law 248 = .ok (.iload 4, 2) := by decide +kernel
theorem dL_law_250 : decode cL_law 250 = .ok (.bipush 8, 2) := by decide +kernel
theorem dL_law_252 : decode cL_law 252 = .ok (.ishr, 1) := by decide +kernel
theorem dL_law_253 : decode cL_law 253 = .ok (.iconst 3, 1) := by decide +kernel
theorem dL_law_254 : decode cL_law 254 = .ok (.invokestatic 35, 3) := by decide +kernel
theorem dL_law_257 : decode cL_law 257 = .ok (.invokestatic 145, 3) := by decide +kernel
theorem dL_law_260 : decode cL_law 260 = .ok (.ifCond .ne 5, 3) := by decide +kernel
theorem dL_law_263 : decode cL_law 263 = .ok (.iconst 0, 1) := by decide +kernel
theorem dL_law_264 : decode cL_law 264 = .ok (.ireturn, 1) := by decide +kernel
theorem dL_law_265 : decode cL_law 265 = .ok (.iinc 3 1, 3) := by decide +kernel
theorem dL_law_268 : decode cL_law 268 = .ok (.goto (-232), 3) := by decide +kernel
theorem dL_law_271 : decode cL_law 271 = .ok (.iconst 1, 1) := by decide +kernel
theorem dL_law_272 : decode cL_law 272 = .ok (.ireturn, 1) := by decide +kernel
theorem dL_redo_0 : decode cL_redo 0 = .ok (.aload_n 0, 1) := by decide +kernel
theorem dL_redo_1 : decode cL_redo 1 = .ok (.iload_n 1, 1) := by decide +kernel
theorem dL_redo_2 : decode cL_redo 2 = .ok (.iload_n 2, 1) := by decide +kernel
theorem dL_redo_3 : decode cL_redo 3 = .ok (.bipush 12, 2) := by decide +kernel
theorem dL_redo_5 : decode cL_redo 5 = .ok (.newarray .int, 2) := by decide +kernel
theorem dL_redo_7 : decode cL_redo 7 = .ok (.invokestatic 124, 3) := by decide +kernel
theorem dL_redo_10 : decode cL_redo 10 = .ok (.ireturn, 1) := by decide +kernel
