/-! ===== 62a.ldec: the law's rows ===== -/
theorem dL_cell_0 : decode cL_cell 0 = .ok (.iload_n 1, 1) := by decide +kernel
theorem dL_cell_1 : decode cL_cell 1 = .ok (.aload_n 0, 1) := by decide +kernel
theorem dL_cell_2 : decode cL_cell 2 = .ok (.arraylength, 1) := by decide +kernel
theorem dL_cell_3 : decode cL_cell 3 = .ok (.if_icmp .ge 9, 3) := by decide +kernel
theorem dL_cell_6 : decode cL_cell 6 = .ok (.aload_n 0, 1) := by decide +kernel
theorem dL_cell_7 : decode cL_cell 7 = .ok (.iload_n 1, 1) := by decide +kernel
theorem dL_cell_8 : decode cL_cell 8 = .ok (.iaload, 1) := by decide +kernel
theorem dL_cell_9 : decode cL_cell 9 = .ok (.goto 9, 3) := by decide +kernel
theorem dL_cell_12 : decode cL_cell 12 = .ok (.ldc 7, 2) := by decide +kernel
theorem dL_cell_14 : decode cL_cell 14 = .ok (.iload_n 1, 1) := by decide +kernel
theorem dL_cell_15 : decode cL_cell 15 = .ok (.iconst 1, 1) := by decide +kernel
theorem dL_cell_16 : decode cL_cell 16 = .ok (.iadd, 1) := by decide +kernel
theorem dL_cell_17 : decode cL_cell 17 = .ok (.imul, 1) := by decide +kernel
theorem dL_cell_18 : decode cL_cell 18 = .ok (.ireturn, 1) := by decide +kernel
theorem dL_low_0 : decode cL_low 0 = .ok (.iload_n 0, 1) := by decide +kernel
theorem dL_low_1 : decode cL_low 1 = .ok (.ldc 8, 2) := by decide +kernel
theorem dL_low_3 : decode cL_low 3 = .ok (.iand, 1) := by decide +kernel
theorem dL_low_4 : decode cL_low 4 = .ok (.iload_n 1, 1) := by decide +kernel
theorem dL_low_5 : decode cL_low 5 = .ok (.irem, 1) := by decide +kernel
theorem dL_low_6 : decode cL_low 6 = .ok (.ireturn, 1) := by decide +kernel
theorem dL_number_0 : decode cL_number 0 = .ok (.iload_n 1, 1) := by decide +kernel
theorem dL_number_1 : decode cL_number 1 = .ok (.bipush 9, 2) := by decide +kernel
theorem dL_number_3 : decode cL_number 3 = .ok (.if_icmp .le 17, 3) := by decide +kernel
theorem dL_number_6 : decode cL_number 6 = .ok (.aload_n 0, 1) := by decide +kernel
theorem dL_number_7 : decode cL_number 7 = .ok (.bipush 48, 2) := by decide +kernel
theorem dL_number_9 : decode cL_number 9 = .ok (.iload_n 1, 1) := by decide +kernel
theorem dL_number_10 : decode cL_number 10 = .ok (.bipush 10, 2) := by decide +kernel
theorem dL_number_12 : decode cL_number 12 = .ok (.idiv, 1) := by decide +kernel
theorem dL_number_13 : decode cL_number 13 = .ok (.iadd, 1) := by decide +kernel
theorem dL_number_14 : decode cL_number 14 = .ok (.invokevirtual 9, 3) := by decide +kernel
theorem dL_number_17 : decode cL_number 17 = .ok (.goto 4, 3) := by decide +kernel
theorem dL_number_20 : decode cL_number 20 = .ok (.iconst 0, 1) := by decide +kernel
theorem dL_number_21 : decode cL_number 21 = .ok (.istore_n 2, 1) := by decide +kernel
theorem dL_number_22 : decode cL_number 22 = .ok (.aload_n 0, 1) := by decide +kernel
theorem dL_number_23 : decode cL_number 23 = .ok (.bipush 48, 2) := by decide +kernel
theorem dL_number_25 : decode cL_number 25 = .ok (.iload_n 1, 1) := by decide +kernel
theorem dL_number_26 : decode cL_number 26 = .ok (.bipush 10, 2) := by decide +kernel
theorem dL_number_28 : decode cL_number 28 = .ok (.irem, 1) := by decide +kernel
theorem dL_number_29 : decode cL_number 29 = .ok (.iadd, 1) := by decide +kernel
theorem dL_number_30 : decode cL_number 30 = .ok (.invokevirtual 9, 3) := by decide +kernel
theorem dL_number_33 : decode cL_number 33 = .ok (.ireturn, 1) := by decide +kernel
theorem dL_recipe_0 : decode cL_recipe 0 = .ok (.aload_n 0, 1) := by decide +kernel
theorem dL_recipe_1 : decode cL_recipe 1 = .ok (.invokevirtual 15, 3) := by decide +kernel
theorem dL_recipe_4 : decode cL_recipe 4 = .ok (.istore_n 3, 1) := by decide +kernel
theorem dL_recipe_5 : decode cL_recipe 5 = .ok (.iload_n 1, 1) := by decide +kernel
theorem dL_recipe_6 : decode cL_recipe 6 = .ok (.bipush 12, 2) := by decide +kernel
theorem dL_recipe_8 : decode cL_recipe 8 = .ok (.invokestatic 19, 3) := by decide +kernel
theorem dL_recipe_11 : decode cL_recipe 11 = .ok (.istore 4, 2) := by decide +kernel
theorem dL_recipe_13 : decode cL_recipe 13 = .ok (.aload_n 0, 1) := by decide +kernel
theorem dL_recipe_14 : decode cL_recipe 14 = .ok (.bipush 97, 2) := by decide +kernel
theorem dL_recipe_16 : decode cL_recipe 16 = .ok (.iload 4, 2) := by decide +kernel
theorem dL_recipe_18 : decode cL_recipe 18 = .ok (.iadd, 1) := by decide +kernel
theorem dL_recipe_19 : decode cL_recipe 19 = .ok (.invokevirtual 9, 3) := by decide +kernel
theorem dL_recipe_22 : decode cL_recipe 22 = .ok (.istore_n 3, 1) := by decide +kernel
theorem dL_recipe_23 : decode cL_recipe 23 = .ok (.iload_n 1, 1) := by decide +kernel
theorem dL_recipe_24 : decode cL_recipe 24 = .ok (.iconst 4, 1) := by decide +kernel
theorem dL_recipe_25 : decode cL_recipe 25 = .ok (.ishr, 1) := by decide +kernel
theorem dL_recipe_26 : decode cL_recipe 26 = .ok (.iconst 2, 1) := by decide +kernel
theorem dL_recipe_27 : decode cL_recipe 27 = .ok (.invokestatic 19, 3) := by decide +kernel
theorem dL_recipe_30 : decode cL_recipe 30 = .ok (.ifCond .ne 20, 3) := by decide +kernel
theorem dL_recipe_33 : decode cL_recipe 33 = .ok (.aload_n 0, 1) := by decide +kernel
theorem dL_recipe_34 : decode cL_recipe 34 = .ok (.iconst 1, 1) := by decide +kernel
theorem dL_recipe_35 : decode cL_recipe 35 = .ok (.iload_n 1, 1) := by decide +kernel
theorem dL_recipe_36 : decode cL_recipe 36 = .ok (.iconst 5, 1) := by decide +kernel
theorem dL_recipe_37 : decode cL_recipe 37 = .ok (.ishr, 1) := by decide +kernel
theorem dL_recipe_38 : decode cL_recipe 38 = .ok (.bipush 6, 2) := by decide +kernel
theorem dL_recipe_40 : decode cL_recipe 40 = .ok (.invokestatic 19, 3) := by decide +kernel
theorem dL_recipe_43 : decode cL_recipe 43 = .ok (.iadd, 1) := by decide +kernel
theorem dL_recipe_44 : decode cL_recipe 44 = .ok (.invokestatic 25, 3) := by decide +kernel
theorem dL_recipe_47 : decode cL_recipe 47 = .ok (.goto 4, 3) := by decide +kernel
theorem dL_recipe_50 : decode cL_recipe 50 = .ok (.iload_n 3, 1) := by decide +kernel
theorem dL_recipe_51 : decode cL_recipe 51 = .ok (.istore_n 3, 1) := by decide +kernel
theorem dL_recipe_52 : decode cL_recipe 52 = .ok (.aload_n 0, 1) := by decide +kernel
theorem dL_recipe_53 : decode cL_recipe 53 = .ok (.bipush 61, 2) := by decide +kernel
theorem dL_recipe_55 : decode cL_recipe 55 = .ok (.invokevirtual 9, 3) := by decide +kernel
theorem dL_recipe_58 : decode cL_recipe 58 = .ok (.istore_n 3, 1) := by decide +kernel
theorem dL_recipe_59 : decode cL_recipe 59 = .ok (.iconst 1, 1) := by decide +kernel
theorem dL_recipe_60 : decode cL_recipe 60 = .ok (.iload_n 2, 1) := by decide +kernel
theorem dL_recipe_61 : decode cL_recipe 61 = .ok (.iconst 3, 1) := by decide +kernel
theorem dL_recipe_62 : decode cL_recipe 62 = .ok (.invokestatic 19, 3) := by decide +kernel
theorem dL_recipe_65 : decode cL_recipe 65 = .ok (.iadd, 1) := by decide +kernel
theorem dL_recipe_66 : decode cL_recipe 66 = .ok (.istore 5, 2) := by decide +kernel
theorem dL_recipe_68 : decode cL_recipe 68 = .ok (.iconst 0, 1) := by decide +kernel
theorem dL_recipe_69 : decode cL_recipe 69 = .ok (.istore 6, 2) := by decide +kernel
theorem dL_recipe_71 : decode cL_recipe 71 = .ok (.iload 6, 2) := by decide +kernel
theorem dL_recipe_73 : decode cL_recipe 73 = .ok (.iload 5, 2) := by decide +kernel
theorem dL_recipe_75 : decode cL_recipe 75 = .ok (.if_icmp .ge 117, 3) := by decide +kernel
theorem dL_recipe_78 : decode cL_recipe 78 = .ok (.iload 6, 2) := by decide +kernel
theorem dL_recipe_80 : decode cL_recipe 80 = .ok (.ifCond .le 12, 3) := by decide +kernel
theorem dL_recipe_83 : decode cL_recipe 83 = .ok (.aload_n 0, 1) := by decide +kernel
theorem dL_recipe_84 : decode cL_recipe 84 = .ok (.bipush 43, 2) := by decide +kernel
theorem dL_recipe_86 : decode cL_recipe 86 = .ok (.invokevirtual 9, 3) := by decide +kernel
theorem dL_recipe_89 : decode cL_recipe 89 = .ok (.goto 4, 3) := by decide +kernel
theorem dL_recipe_92 : decode cL_recipe 92 = .ok (.iload_n 3, 1) := by decide +kernel
theorem dL_recipe_93 : decode cL_recipe 93 = .ok (.istore_n 3, 1) := by decide +kernel
theorem dL_recipe_94 : decode cL_recipe 94 = .ok (.iload_n 2, 1) := by decide +kernel
theorem dL_recipe_95 : decode cL_recipe 95 = .ok (.iconst 2, 1) := by decide +kernel
theorem dL_recipe_96 : decode cL_recipe 96 = .ok (.iload 6, 2) := by decide +kernel
theorem dL_recipe_98 : decode cL_recipe 98 = .ok (.iadd, 1) := by decide +kernel
theorem dL_recipe_99 : decode cL_recipe 99 = .ok (.ishr, 1) := by decide +kernel
theorem dL_recipe_100 : decode cL_recipe 100 = .ok (.iconst 3, 1) := by decide +kernel
theorem dL_recipe_101 : decode cL_recipe 101 = .ok (.invokestatic 19, 3) := by decide +kernel
theorem dL_recipe_104 : decode cL_recipe 104 = .ok (.ifCond .le 24, 3) := by decide +kernel
theorem dL_recipe_107 : decode cL_recipe 107 = .ok (.aload_n 0, 1) := by decide +kernel
theorem dL_recipe_108 : decode cL_recipe 108 = .ok (.iconst 1, 1) := by decide +kernel
theorem dL_recipe_109 : decode cL_recipe 109 = .ok (.iload_n 2, 1) := by decide +kernel
theorem dL_recipe_110 : decode cL_recipe 110 = .ok (.iconst 5, 1) := by decide +kernel
theorem dL_recipe_111 : decode cL_recipe 111 = .ok (.iconst 2, 1) := by decide +kernel
theorem dL_recipe_112 : decode cL_recipe 112 = .ok (.iload 6, 2) := by decide +kernel
theorem dL_recipe_114 : decode cL_recipe 114 = .ok (.imul, 1) := by decide +kernel
theorem dL_recipe_115 : decode cL_recipe 115 = .ok (.iadd, 1) := by decide +kernel
theorem dL_recipe_116 : decode cL_recipe 116 = .ok (.ishr, 1) := by decide +kernel
theorem dL_recipe_117 : decode cL_recipe 117 = .ok (.iconst 5, 1) := by decide +kernel
theorem dL_recipe_118 : decode cL_recipe 118 = .ok (.invokestatic 19, 3) := by decide +kernel
theorem dL_recipe_121 : decode cL_recipe 121 = .ok (.iadd, 1) := by decide +kernel
theorem dL_recipe_122 : decode cL_recipe 122 = .ok (.invokestatic 25, 3) := by decide +kernel
theorem dL_recipe_125 : decode cL_recipe 125 = .ok (.goto 4, 3) := by decide +kernel
theorem dL_recipe_128 : decode cL_recipe 128 = .ok (.iload_n 3, 1) := by decide +kernel
theorem dL_recipe_129 : decode cL_recipe 129 = .ok (.istore_n 3, 1) := by decide +kernel
theorem dL_recipe_130 : decode cL_recipe 130 = .ok (.aload_n 0, 1) := by decide +kernel
theorem dL_recipe_131 : decode cL_recipe 131 = .ok (.bipush 97, 2) := by decide +kernel
theorem dL_recipe_133 : decode cL_recipe 133 = .ok (.iload_n 1, 1) := by decide +kernel
theorem dL_recipe_134 : decode cL_recipe 134 = .ok (.bipush 9, 2) := by decide +kernel
theorem dL_recipe_136 : decode cL_recipe 136 = .ok (.ishr, 1) := by decide +kernel
theorem dL_recipe_137 : decode cL_recipe 137 = .ok (.bipush 9, 2) := by decide +kernel
theorem dL_recipe_139 : decode cL_recipe 139 = .ok (.invokestatic 19, 3) := by decide +kernel
theorem dL_recipe_142 : decode cL_recipe 142 = .ok (.ifCond .ne 17, 3) := by decide +kernel
theorem dL_recipe_145 : decode cL_recipe 145 = .ok (.iload_n 2, 1) := by decide +kernel
theorem dL_recipe_146 : decode cL_recipe 146 = .ok (.iconst 3, 1) := by decide +kernel
theorem dL_recipe_147 : decode cL_recipe 147 = .ok (.iload 6, 2) := by decide +kernel
theorem dL_recipe_149 : decode cL_recipe 149 = .ok (.imul, 1) := by decide +kernel
theorem dL_recipe_150 : decode cL_recipe 150 = .ok (.ishr, 1) := by decide +kernel
theorem dL_recipe_151 : decode cL_recipe 151 = .ok (.bipush 20, 2) := by decide +kernel
theorem dL_recipe_153 : decode cL_recipe 153 = .ok (.invokestatic 19, 3) := by decide +kernel
theorem dL_recipe_156 : decode cL_recipe 156 = .ok (.goto 25, 3) := by decide +kernel
theorem dL_recipe_159 : decode cL_recipe 159 = .ok (.iload 4, 2) := by decide +kernel
theorem dL_recipe_161 : decode cL_recipe 161 = .ok (.iconst 1, 1) := by decide +kernel
theorem dL_recipe_162 : decode cL_recipe 162 = .ok (.iadd, 1) := by decide +kernel
theorem dL_recipe_163 : decode cL_recipe 163 = .ok (.iload_n 2, 1) := by decide +kernel
theorem dL_recipe_164 : decode cL_recipe 164 = .ok (.bipush 11, 2) := by decide +kernel
theorem dL_recipe_166 : decode cL_recipe 166 = .ok (.iconst 3, 1) := by decide +kernel
theorem dL_recipe_167 : decode cL_recipe 167 = .ok (.iload 6, 2) := by decide +kernel
theorem dL_recipe_169 : decode cL_recipe 169 = .ok (.imul, 1) := by decide +kernel
theorem dL_recipe_170 : decode cL_recipe 170 = .ok (.iadd, 1) := by decide +kernel
theorem dL_recipe_171 : decode cL_recipe 171 = .ok (.ishr, 1) := by decide +kernel
theorem dL_recipe_172 : decode cL_recipe 172 = .ok (.bipush 19, 2) := by decide +kernel
theorem dL_recipe_174 : decode cL_recipe 174 = .ok (.iload 4, 2) := by decide +kernel
theorem dL_recipe_176 : decode cL_recipe 176 = .ok (.isub, 1) := by decide +kernel
theorem dL_recipe_177 : decode cL_recipe 177 = .ok (.invokestatic 19, 3) := by decide +kernel
theorem dL_recipe_180 : decode cL_recipe 180 = .ok (.iadd, 1) := by decide +kernel
theorem dL_recipe_181 : decode cL_recipe 181 = .ok (.iadd, 1) := by decide +kernel
theorem dL_recipe_182 : decode cL_recipe 182 = .ok (.invokevirtual 9, 3) := by decide +kernel
theorem dL_recipe_185 : decode cL_recipe 185 = .ok (.istore_n 3, 1) := by decide +kernel
theorem dL_recipe_186 : decode cL_recipe 186 = .ok (.iinc 6 1, 3) := by decide +kernel
theorem dL_recipe_189 : decode cL_recipe 189 = .ok (.goto (-118), 3) := by decide +kernel
theorem dL_recipe_192 : decode cL_recipe 192 = .ok (.aload_n 0, 1) := by decide +kernel
theorem dL_recipe_193 : decode cL_recipe 193 = .ok (.invokevirtual 29, 3) := by decide +kernel
theorem dL_recipe_196 : decode cL_recipe 196 = .ok (.ireturn, 1) := by decide +kernel
theorem dL_change_0 : decode cL_change 0 = .ok (.iload_n 1, 1) := by decide +kernel
theorem dL_change_1 : decode cL_change 1 = .ok (.iconst 5, 1) := by decide +kernel
theorem dL_change_2 : decode cL_change 2 = .ok (.ishr, 1) := by decide +kernel
theorem dL_change_3 : decode cL_change 3 = .ok (.bipush 20, 2) := by decide +kernel
theorem dL_change_5 : decode cL_change 5 = .ok (.invokestatic 19, 3) := by decide +kernel
theorem dL_change_8 : decode cL_change 8 = .ok (.istore_n 3, 1) := by decide +kernel
theorem dL_change_9 : decode cL_change 9 = .ok (.iload_n 1, 1) := by decide +kernel
theorem dL_change_10 : decode cL_change 10 = .ok (.bipush 22, 2) := by decide +kernel
theorem dL_change_12 : decode cL_change 12 = .ok (.invokestatic 19, 3) := by decide +kernel
theorem dL_change_15 : decode cL_change 15 = .ok (.tableswitch 302 0 20 #[97, 97, 97, 97, 97, 104, 127, 127, 127, 146, 157, 157, 187, 187, 221, 221, 221, 242, 242, 263, 268], 97) := by decide +kernel
theorem dL_change_112 : decode cL_change 112 = .ok (.aload_n 0, 1) := by decide +kernel
theorem dL_change_113 : decode cL_change 113 = .ok (.iload_n 2, 1) := by decide +kernel
theorem dL_change_114 : decode cL_change 114 = .ok (.iload_n 1, 1) := by decide +kernel
theorem dL_change_115 : decode cL_change 115 = .ok (.invokestatic 32, 3) := by decide +kernel
theorem dL_change_118 : decode cL_change 118 = .ok (.ireturn, 1) := by decide +kernel
theorem dL_change_119 : decode cL_change 119 = .ok (.iload_n 2, 1) := by decide +kernel
theorem dL_change_120 : decode cL_change 120 = .ok (.iconst 3, 1) := by decide +kernel
theorem dL_change_121 : decode cL_change 121 = .ok (.invokestatic 19, 3) := by decide +kernel
theorem dL_change_124 : decode cL_change 124 = .ok (.ifCond .ne 11, 3) := by decide +kernel
theorem dL_change_127 : decode cL_change 127 = .ok (.aload_n 0, 1) := by decide +kernel
theorem dL_change_128 : decode cL_change 128 = .ok (.iload_n 3, 1) := by decide +kernel
theorem dL_change_129 : decode cL_change 129 = .ok (.invokevirtual 35, 3) := by decide +kernel
theorem dL_change_132 : decode cL_change 132 = .ok (.goto 9, 3) := by decide +kernel
theorem dL_change_135 : decode cL_change 135 = .ok (.aload_n 0, 1) := by decide +kernel
theorem dL_change_136 : decode cL_change 136 = .ok (.iload_n 2, 1) := by decide +kernel
theorem dL_change_137 : decode cL_change 137 = .ok (.iload_n 1, 1) := by decide +kernel
theorem dL_change_138 : decode cL_change 138 = .ok (.invokestatic 32, 3) := by decide +kernel
theorem dL_change_141 : decode cL_change 141 = .ok (.ireturn, 1) := by decide +kernel
theorem dL_change_142 : decode cL_change 142 = .ok (.aload_n 0, 1) := by decide +kernel
theorem dL_change_143 : decode cL_change 143 = .ok (.iload_n 2, 1) := by decide +kernel
theorem dL_change_144 : decode cL_change 144 = .ok (.bipush 12, 2) := by decide +kernel
theorem dL_change_146 : decode cL_change 146 = .ok (.invokestatic 19, 3) := by decide +kernel
theorem dL_change_149 : decode cL_change 149 = .ok (.iload_n 2, 1) := by decide +kernel
theorem dL_change_150 : decode cL_change 150 = .ok (.iconst 4, 1) := by decide +kernel
theorem dL_change_151 : decode cL_change 151 = .ok (.ishr, 1) := by decide +kernel
theorem dL_change_152 : decode cL_change 152 = .ok (.bipush 20, 2) := by decide +kernel
theorem dL_change_154 : decode cL_change 154 = .ok (.invokestatic 19, 3) := by decide +kernel
theorem dL_change_157 : decode cL_change 157 = .ok (.invokevirtual 38, 3) := by decide +kernel
theorem dL_change_160 : decode cL_change 160 = .ok (.ireturn, 1) := by decide +kernel
theorem dL_change_161 : decode cL_change 161 = .ok (.aload_n 0, 1) := by decide +kernel
theorem dL_change_162 : decode cL_change 162 = .ok (.iload_n 3, 1) := by decide +kernel
theorem dL_change_163 : decode cL_change 163 = .ok (.iload_n 2, 1) := by decide +kernel
theorem dL_change_164 : decode cL_change 164 = .ok (.iconst 3, 1) := by decide +kernel
theorem dL_change_165 : decode cL_change 165 = .ok (.invokestatic 19, 3) := by decide +kernel
theorem dL_change_168 : decode cL_change 168 = .ok (.invokevirtual 41, 3) := by decide +kernel
theorem dL_change_171 : decode cL_change 171 = .ok (.ireturn, 1) := by decide +kernel
theorem dL_change_172 : decode cL_change 172 = .ok (.aload_n 0, 1) := by decide +kernel
theorem dL_change_173 : decode cL_change 173 = .ok (.iload_n 3, 1) := by decide +kernel
theorem dL_change_174 : decode cL_change 174 = .ok (.iload_n 2, 1) := by decide +kernel
theorem dL_change_175 : decode cL_change 175 = .ok (.iconst 4, 1) := by decide +kernel
theorem dL_change_176 : decode cL_change 176 = .ok (.invokestatic 19, 3) := by decide +kernel
theorem dL_change_179 : decode cL_change 179 = .ok (.ifCond .ne 8, 3) := by decide +kernel
theorem dL_change_182 : decode cL_change 182 = .ok (.bipush (-9), 2) := by decide +kernel
theorem dL_change_184 : decode cL_change 184 = .ok (.goto 14, 3) := by decide +kernel
theorem dL_change_187 : decode cL_change 187 = .ok (.bipush 12, 2) := by decide +kernel
theorem dL_change_189 : decode cL_change 189 = .ok (.iload_n 2, 1) := by decide +kernel
theorem dL_change_190 : decode cL_change 190 = .ok (.iconst 2, 1) := by decide +kernel
theorem dL_change_191 : decode cL_change 191 = .ok (.ishr, 1) := by decide +kernel
theorem dL_change_192 : decode cL_change 192 = .ok (.bipush 8, 2) := by decide +kernel
theorem dL_change_194 : decode cL_change 194 = .ok (.invokestatic 19, 3) := by decide +kernel
theorem dL_change_197 : decode cL_change 197 = .ok (.iadd, 1) := by decide +kernel
theorem dL_change_198 : decode cL_change 198 = .ok (.invokevirtual 44, 3) := by decide +kernel
theorem dL_change_201 : decode cL_change 201 = .ok (.ireturn, 1) := by decide +kernel
theorem dL_change_202 : decode cL_change 202 = .ok (.aload_n 0, 1) := by decide +kernel
theorem dL_change_203 : decode cL_change 203 = .ok (.iload_n 3, 1) := by decide +kernel
theorem dL_change_204 : decode cL_change 204 = .ok (.iload_n 2, 1) := by decide +kernel
theorem dL_change_205 : decode cL_change 205 = .ok (.iconst 5, 1) := by decide +kernel
theorem dL_change_206 : decode cL_change 206 = .ok (.invokestatic 19, 3) := by decide +kernel
theorem dL_change_209 : decode cL_change 209 = .ok (.ifCond .ne 15, 3) := by decide +kernel
theorem dL_change_212 : decode cL_change 212 = .ok (.iload_n 2, 1) := by decide +kernel
theorem dL_change_213 : decode cL_change 213 = .ok (.iconst 3, 1) := by decide +kernel
theorem dL_change_214 : decode cL_change 214 = .ok (.ishr, 1) := by decide +kernel
theorem dL_change_215 : decode cL_change 215 = .ok (.bipush 60, 2) := by decide +kernel
theorem dL_change_217 : decode cL_change 217 = .ok (.invokestatic 19, 3) := by decide +kernel
theorem dL_change_220 : decode cL_change 220 = .ok (.ineg, 1) := by decide +kernel
theorem dL_change_221 : decode cL_change 221 = .ok (.goto 11, 3) := by decide +kernel
theorem dL_change_224 : decode cL_change 224 = .ok (.iload_n 2, 1) := by decide +kernel
theorem dL_change_225 : decode cL_change 225 = .ok (.iconst 3, 1) := by decide +kernel
theorem dL_change_226 : decode cL_change 226 = .ok (.ishr, 1) := by decide +kernel
theorem dL_change_227 : decode cL_change 227 = .ok (.bipush 60, 2) := by decide +kernel
theorem dL_change_229 : decode cL_change 229 = .ok (.invokestatic 19, 3) := by decide +kernel
theorem dL_change_232 : decode cL_change 232 = .ok (.invokevirtual 47, 3) := by decide +kernel
theorem dL_change_235 : decode cL_change 235 = .ok (.ireturn, 1) := by decide +kernel
theorem dL_change_236 : decode cL_change 236 = .ok (.aload_n 0, 1) := by decide +kernel
theorem dL_change_237 : decode cL_change 237 = .ok (.iload_n 2, 1) := by decide +kernel
theorem dL_change_238 : decode cL_change 238 = .ok (.bipush 10, 2) := by decide +kernel
theorem dL_change_240 : decode cL_change 240 = .ok (.invokestatic 19, 3) := by decide +kernel
theorem dL_change_243 : decode cL_change 243 = .ok (.iconst 1, 1) := by decide +kernel
theorem dL_change_244 : decode cL_change 244 = .ok (.iload_n 2, 1) := by decide +kernel
theorem dL_change_245 : decode cL_change 245 = .ok (.iconst 4, 1) := by decide +kernel
theorem dL_change_246 : decode cL_change 246 = .ok (.ishr, 1) := by decide +kernel
theorem dL_change_247 : decode cL_change 247 = .ok (.bipush 60, 2) := by decide +kernel
theorem dL_change_249 : decode cL_change 249 = .ok (.invokestatic 19, 3) := by decide +kernel
theorem dL_change_252 : decode cL_change 252 = .ok (.iadd, 1) := by decide +kernel
theorem dL_change_253 : decode cL_change 253 = .ok (.invokevirtual 50, 3) := by decide +kernel
theorem dL_change_256 : decode cL_change 256 = .ok (.ireturn, 1) := by decide +kernel
theorem dL_change_257 : decode cL_change 257 = .ok (.aload_n 0, 1) := by decide +kernel
theorem dL_change_258 : decode cL_change 258 = .ok (.iload_n 2, 1) := by decide +kernel
theorem dL_change_259 : decode cL_change 259 = .ok (.bipush 10, 2) := by decide +kernel
theorem dL_change_261 : decode cL_change 261 = .ok (.invokestatic 19, 3) := by decide +kernel
theorem dL_change_264 : decode cL_change 264 = .ok (.iconst 1, 1) := by decide +kernel
theorem dL_change_265 : decode cL_change 265 = .ok (.iload_n 2, 1) := by decide +kernel
theorem dL_change_266 : decode cL_change 266 = .ok (.iconst 4, 1) := by decide +kernel
theorem dL_change_267 : decode cL_change 267 = .ok (.ishr, 1) := by decide +kernel
theorem dL_change_268 : decode cL_change 268 = .ok (.bipush 9, 2) := by decide +kernel
theorem dL_change_270 : decode cL_change 270 = .ok (.invokestatic 19, 3) := by decide +kernel
theorem dL_change_273 : decode cL_change 273 = .ok (.iadd, 1) := by decide +kernel
theorem dL_change_274 : decode cL_change 274 = .ok (.invokevirtual 53, 3) := by decide +kernel
theorem dL_change_277 : decode cL_change 277 = .ok (.ireturn, 1) := by decide +kernel
theorem dL_change_278 : decode cL_change 278 = .ok (.aload_n 0, 1) := by decide +kernel
theorem dL_change_279 : decode cL_change 279 = .ok (.invokevirtual 56, 3) := by decide +kernel
theorem dL_change_282 : decode cL_change 282 = .ok (.ireturn, 1) := by decide +kernel
theorem dL_change_283 : decode cL_change 283 = .ok (.iload_n 2, 1) := by decide +kernel
theorem dL_change_284 : decode cL_change 284 = .ok (.iconst 2, 1) := by decide +kernel
theorem dL_change_285 : decode cL_change 285 = .ok (.invokestatic 19, 3) := by decide +kernel
theorem dL_change_288 : decode cL_change 288 = .ok (.ifCond .ne 17, 3) := by decide +kernel
theorem dL_change_291 : decode cL_change 291 = .ok (.aload_n 0, 1) := by decide +kernel
theorem dL_change_292 : decode cL_change 292 = .ok (.iload_n 2, 1) := by decide +kernel
theorem dL_change_293 : decode cL_change 293 = .ok (.iconst 1, 1) := by decide +kernel
theorem dL_change_294 : decode cL_change 294 = .ok (.ishr, 1) := by decide +kernel
theorem dL_change_295 : decode cL_change 295 = .ok (.iconst 2, 1) := by decide +kernel
theorem dL_change_296 : decode cL_change 296 = .ok (.invokestatic 19, 3) := by decide +kernel
theorem dL_change_299 : decode cL_change 299 = .ok (.invokevirtual 59, 3) := by decide +kernel
theorem dL_change_302 : decode cL_change 302 = .ok (.goto 14, 3) := by decide +kernel
theorem dL_change_305 : decode cL_change 305 = .ok (.aload_n 0, 1) := by decide +kernel
theorem dL_change_306 : decode cL_change 306 = .ok (.iload_n 2, 1) := by decide +kernel
theorem dL_change_307 : decode cL_change 307 = .ok (.iconst 1, 1) := by decide +kernel
theorem dL_change_308 : decode cL_change 308 = .ok (.ishr, 1) := by decide +kernel
theorem dL_change_309 : decode cL_change 309 = .ok (.iconst 2, 1) := by decide +kernel
theorem dL_change_310 : decode cL_change 310 = .ok (.invokestatic 19, 3) := by decide +kernel
theorem dL_change_313 : decode cL_change 313 = .ok (.invokevirtual 62, 3) := by decide +kernel
theorem dL_change_316 : decode cL_change 316 = .ok (.ireturn, 1) := by decide +kernel
theorem dL_change_317 : decode cL_change 317 = .ok (.aload_n 0, 1) := by decide +kernel
theorem dL_change_318 : decode cL_change 318 = .ok (.iload_n 3, 1) := by decide +kernel
theorem dL_change_319 : decode cL_change 319 = .ok (.iconst 1, 1) := by decide +kernel
theorem dL_change_320 : decode cL_change 320 = .ok (.iload_n 2, 1) := by decide +kernel
theorem dL_change_321 : decode cL_change 321 = .ok (.sipush 999, 3) := by decide +kernel
theorem dL_change_324 : decode cL_change 324 = .ok (.invokestatic 19, 3) := by decide +kernel
theorem dL_change_327 : decode cL_change 327 = .ok (.iadd, 1) := by decide +kernel
theorem dL_change_328 : decode cL_change 328 = .ok (.invokevirtual 50, 3) := by decide +kernel
theorem dL_change_331 : decode cL_change 331 = .ok (.ireturn, 1) := by decide +kernel
theorem dL_areAccounts_0 : decode cL_areAccounts 0 = .ok (.iconst 0, 1) := by decide +kernel
theorem dL_areAccounts_1 : decode cL_areAccounts 1 = .ok (.istore_n 1, 1) := by decide +kernel
theorem dL_areAccounts_2 : decode cL_areAccounts 2 = .ok (.iconst 0, 1) := by decide +kernel
theorem dL_areAccounts_3 : decode cL_areAccounts 3 = .ok (.istore_n 2, 1) := by decide +kernel
theorem dL_areAccounts_4 : decode cL_areAccounts 4 = .ok (.iconst 0, 1) := by decide +kernel
theorem dL_areAccounts_5 : decode cL_areAccounts 5 = .ok (.istore_n 3, 1) := by decide +kernel
theorem dL_areAccounts_6 : decode cL_areAccounts 6 = .ok (.iconst 0, 1) := by decide +kernel
theorem dL_areAccounts_7 : decode cL_areAccounts 7 = .ok (.istore 4, 2) := by decide +kernel
theorem dL_areAccounts_9 : decode cL_areAccounts 9 = .ok (.iconst 0, 1) := by decide +kernel
theorem dL_areAccounts_10 : decode cL_areAccounts 10 = .ok (.istore 5, 2) := by decide +kernel
theorem dL_areAccounts_12 : decode cL_areAccounts 12 = .ok (.iconst 0, 1) := by decide +kernel
theorem dL_areAccounts_13 : decode cL_areAccounts 13 = .ok (.istore 6, 2) := by decide +kernel
theorem dL_areAccounts_15 : decode cL_areAccounts 15 = .ok (.iconst 0, 1) := by decide +kernel
theorem dL_areAccounts_16 : decode cL_areAccounts 16 = .ok (.istore 7, 2) := by decide +kernel
theorem dL_areAccounts_18 : decode cL_areAccounts 18 = .ok (.iload 7, 2) := by decide +kernel
theorem dL_areAccounts_20 : decode cL_areAccounts 20 = .ok (.bipush 20, 2) := by decide +kernel
theorem dL_areAccounts_22 : decode cL_areAccounts 22 = .ok (.if_icmp .ge 283, 3) := by decide +kernel
theorem dL_areAccounts_25 : decode cL_areAccounts 25 = .ok (.aload_n 0, 1) := by decide +kernel
theorem dL_areAccounts_26 : decode cL_areAccounts 26 = .ok (.iload 7, 2) := by decide +kernel
theorem dL_areAccounts_28 : decode cL_areAccounts 28 = .ok (.iconst 0, 1) := by decide +kernel
theorem dL_areAccounts_29 : decode cL_areAccounts 29 = .ok (.invokevirtual 65, 3) := by decide +kernel
theorem dL_areAccounts_32 : decode cL_areAccounts 32 = .ok (.istore 8, 2) := by decide +kernel
theorem dL_areAccounts_34 : decode cL_areAccounts 34 = .ok (.aload_n 0, 1) := by decide +kernel
theorem dL_areAccounts_35 : decode cL_areAccounts 35 = .ok (.iload 7, 2) := by decide +kernel
theorem dL_areAccounts_37 : decode cL_areAccounts 37 = .ok (.iconst 2, 1) := by decide +kernel
theorem dL_areAccounts_38 : decode cL_areAccounts 38 = .ok (.invokevirtual 65, 3) := by decide +kernel
theorem dL_areAccounts_41 : decode cL_areAccounts 41 = .ok (.ifCond .le 7, 3) := by decide +kernel
theorem dL_areAccounts_44 : decode cL_areAccounts 44 = .ok (.iconst 1, 1) := by decide +kernel
theorem dL_areAccounts_45 : decode cL_areAccounts 45 = .ok (.goto 4, 3) := by decide +kernel
theorem dL_areAccounts_48 : decode cL_areAccounts 48 = .ok (.iconst 0, 1) := by decide +kernel
theorem dL_areAccounts_49 : decode cL_areAccounts 49 = .ok (.istore 9, 2) := by decide +kernel
theorem dL_areAccounts_51 : decode cL_areAccounts 51 = .ok (.iload_n 1, 1) := by decide +kernel
theorem dL_areAccounts_52 : decode cL_areAccounts 52 = .ok (.iload 8, 2) := by decide +kernel
theorem dL_areAccounts_54 : decode cL_areAccounts 54 = .ok (.iadd, 1) := by decide +kernel
theorem dL_areAccounts_55 : decode cL_areAccounts 55 = .ok (.istore_n 1, 1) := by decide +kernel
theorem dL_areAccounts_56 : decode cL_areAccounts 56 = .ok (.iload_n 2, 1) := by decide +kernel
theorem dL_areAccounts_57 : decode cL_areAccounts 57 = .ok (.aload_n 0, 1) := by decide +kernel
theorem dL_areAccounts_58 : decode cL_areAccounts 58 = .ok (.iload 7, 2) := by decide +kernel
theorem dL_areAccounts_60 : decode cL_areAccounts 60 = .ok (.bipush 6, 2) := by decide +kernel
theorem dL_areAccounts_62 : decode cL_areAccounts 62 = .ok (.invokevirtual 65, 3) := by decide +kernel
theorem dL_areAccounts_65 : decode cL_areAccounts 65 = .ok (.iadd, 1) := by decide +kernel
theorem dL_areAccounts_66 : decode cL_areAccounts 66 = .ok (.istore_n 2, 1) := by decide +kernel
theorem dL_areAccounts_67 : decode cL_areAccounts 67 = .ok (.iload_n 3, 1) := by decide +kernel
theorem dL_areAccounts_68 : decode cL_areAccounts 68 = .ok (.aload_n 0, 1) := by decide +kernel
theorem dL_areAccounts_69 : decode cL_areAccounts 69 = .ok (.iload 7, 2) := by decide +kernel
theorem dL_areAccounts_71 : decode cL_areAccounts 71 = .ok (.bipush 7, 2) := by decide +kernel
theorem dL_areAccounts_73 : decode cL_areAccounts 73 = .ok (.invokevirtual 65, 3) := by decide +kernel
theorem dL_areAccounts_76 : decode cL_areAccounts 76 = .ok (.iadd, 1) := by decide +kernel
theorem dL_areAccounts_77 : decode cL_areAccounts 77 = .ok (.istore_n 3, 1) := by decide +kernel
theorem dL_areAccounts_78 : decode cL_areAccounts 78 = .ok (.iload 9, 2) := by decide +kernel
theorem dL_areAccounts_80 : decode cL_areAccounts 80 = .ok (.ifCond .eq 10, 3) := by decide +kernel
theorem dL_areAccounts_83 : decode cL_areAccounts 83 = .ok (.iload 4, 2) := by decide +kernel
theorem dL_areAccounts_85 : decode cL_areAccounts 85 = .ok (.iconst 1, 1) := by decide +kernel
theorem dL_areAccounts_86 : decode cL_areAccounts 86 = .ok (.iadd, 1) := by decide +kernel
theorem dL_areAccounts_87 : decode cL_areAccounts 87 = .ok (.goto 5, 3) := by decide +kernel
theorem dL_areAccounts_90 : decode cL_areAccounts 90 = .ok (.iload 4, 2) := by decide +kernel
theorem dL_areAccounts_92 : decode cL_areAccounts 92 = .ok (.istore 4, 2) := by decide +kernel
theorem dL_areAccounts_94 : decode cL_areAccounts 94 = .ok (.iload 9, 2) := by decide +kernel
theorem dL_areAccounts_96 : decode cL_areAccounts 96 = .ok (.ifCond .eq 13, 3) := by decide +kernel
theorem dL_areAccounts_99 : decode cL_areAccounts 99 = .ok (.iload 5, 2) := by decide +kernel
theorem dL_areAccounts_101 : decode cL_areAccounts 101 = .ok (.iconst 1, 1) := by decide +kernel
