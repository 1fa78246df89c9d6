theorem dL_cell_0 : decode cL_cell 0 = .ok (.iload_n 1, 1) := by decide +kernel
theorem dL_cell_1 : decode cL_cell 1 = .ok (.aload_n 0, 1) := by decide +kernel
theorem dL_cell_2 : decode cL_cell 2 = .ok (.arraylength, 1) := by decide +kernel
theorem dL_cell_3 : decode cL_cell 3 = .ok (.if_icmp .ge 9, 3) := by decide +kernel
theorem dL_cell_6 : decode cL_cell 6 = .ok (.aload_n 0, 1) := by decide +kernel
theorem dL_cell_7 : decode cL_cell 7 = .ok (.iload_n 1, 1) := by decide +kernel
theorem dL_cell_8 : decode cL_cell 8 = .ok (.iaload, 1) := by decide +kernel
theorem dL_cell_9 : decode cL_cell 9 = .ok (.goto 9, 3) := by decide +kernel
theorem dL_cell_12 : decode cL_cell 12 = .ok (.ldc 7, 2) := by decide +kernel
theorem dL_cell_14 : decode cL_cell 14 = .ok (.iload_n 1, 1) := by decide +kernel
theorem dL_cell_15 : decode cL_cell 15 = .ok (.iconst 1, 1) := by decide +kernel
theorem dL_cell_16 : decode cL_cell 16 = .ok (.iadd, 1) := by decide +kernel
theorem dL_cell_17 : decode cL_cell 17 = .ok (.imul, 1) := by decide +kernel
theorem dL_cell_18 : decode cL_cell 18 = .ok (.ireturn, 1) := by decide +kernel
theorem dL_low_0 : decode cL_low 0 = .ok (.iload_n 0, 1) := by decide +kernel
theorem dL_low_1 : decode cL_low 1 = .ok (.ldc 8, 2) := by decide +kernel
theorem dL_low_3 : decode cL_low 3 = .ok (.iand, 1) := by decide +kernel
theorem dL_low_4 : decode cL_low 4 = .ok (.iload_n 1, 1) := by decide +kernel
theorem dL_low_5 : decode cL_low 5 = .ok (.irem, 1) := by decide +kernel
theorem dL_low_6 : decode cL_low 6 = .ok (.ireturn, 1) := by decide +kernel
theorem dL_change_0 : decode cL_change 0 = .ok (.aload_n 0, 1) := by decide +kernel
theorem dL_change_1 : decode cL_change 1 = .ok (.iconst 0, 1) := by decide +kernel
theorem dL_change_2 : decode cL_change 2 = .ok (.invokevirtual 9, 3) := by decide +kernel
theorem dL_change_5 : decode cL_change 5 = .ok (.istore_n 3, 1) := by decide +kernel
theorem dL_change_6 : decode cL_change 6 = .ok (.iload_n 1, 1) := by decide +kernel
theorem dL_change_7 : decode cL_change 7 = .ok (.bipush 18, 2) := by decide +kernel
theorem dL_change_9 : decode cL_change 9 = .ok (.invokestatic 15, 3) := by decide +kernel
theorem dL_change_12 : decode cL_change 12 = .ok (.tableswitch 255 0 11 #[64, 116, 134, 155, 168, 179, 190, 200, 200, 200, 216, 221], 64) := by decide +kernel
theorem dL_change_76 : decode cL_change 76 = .ok (.iload_n 2, 1) := by decide +kernel
theorem dL_change_77 : decode cL_change 77 = .ok (.iconst 3, 1) := by decide +kernel
theorem dL_change_78 : decode cL_change 78 = .ok (.invokestatic 15, 3) := by decide +kernel
theorem dL_change_81 : decode cL_change 81 = .ok (.ifCond .ne 28, 3) := by decide +kernel
theorem dL_change_84 : decode cL_change 84 = .ok (.aload_n 0, 1) := by decide +kernel
theorem dL_change_85 : decode cL_change 85 = .ok (.iconst 2, 1) := by decide +kernel
theorem dL_change_86 : decode cL_change 86 = .ok (.iload_n 2, 1) := by decide +kernel
theorem dL_change_87 : decode cL_change 87 = .ok (.iconst 2, 1) := by decide +kernel
theorem dL_change_88 : decode cL_change 88 = .ok (.ishr, 1) := by decide +kernel
theorem dL_change_89 : decode cL_change 89 = .ok (.bipush 11, 2) := by decide +kernel
theorem dL_change_91 : decode cL_change 91 = .ok (.invokestatic 15, 3) := by decide +kernel
theorem dL_change_94 : decode cL_change 94 = .ok (.iadd, 1) := by decide +kernel
theorem dL_change_95 : decode cL_change 95 = .ok (.iload_n 2, 1) := by decide +kernel
theorem dL_change_96 : decode cL_change 96 = .ok (.bipush 6, 2) := by decide +kernel
theorem dL_change_98 : decode cL_change 98 = .ok (.ishr, 1) := by decide +kernel
theorem dL_change_99 : decode cL_change 99 = .ok (.iconst 4, 1) := by decide +kernel
theorem dL_change_100 : decode cL_change 100 = .ok (.invokestatic 15, 3) := by decide +kernel
theorem dL_change_103 : decode cL_change 103 = .ok (.invokevirtual 21, 3) := by decide +kernel
theorem dL_change_106 : decode cL_change 106 = .ok (.goto 21, 3) := by decide +kernel
theorem dL_change_109 : decode cL_change 109 = .ok (.aload_n 0, 1) := by decide +kernel
theorem dL_change_110 : decode cL_change 110 = .ok (.iload_n 2, 1) := by decide +kernel
theorem dL_change_111 : decode cL_change 111 = .ok (.iload_n 3, 1) := by decide +kernel
theorem dL_change_112 : decode cL_change 112 = .ok (.invokestatic 15, 3) := by decide +kernel
theorem dL_change_115 : decode cL_change 115 = .ok (.iload_n 2, 1) := by decide +kernel
theorem dL_change_116 : decode cL_change 116 = .ok (.iconst 4, 1) := by decide +kernel
theorem dL_change_117 : decode cL_change 117 = .ok (.ishr, 1) := by decide +kernel
theorem dL_change_118 : decode cL_change 118 = .ok (.sipush 256, 3) := by decide +kernel
theorem dL_change_121 : decode cL_change 121 = .ok (.invokestatic 15, 3) := by decide +kernel
theorem dL_change_124 : decode cL_change 124 = .ok (.invokevirtual 24, 3) := by decide +kernel
theorem dL_change_127 : decode cL_change 127 = .ok (.ireturn, 1) := by decide +kernel
theorem dL_change_128 : decode cL_change 128 = .ok (.aload_n 0, 1) := by decide +kernel
theorem dL_change_129 : decode cL_change 129 = .ok (.iload_n 2, 1) := by decide +kernel
theorem dL_change_130 : decode cL_change 130 = .ok (.iconst 4, 1) := by decide +kernel
theorem dL_change_131 : decode cL_change 131 = .ok (.invokestatic 15, 3) := by decide +kernel
theorem dL_change_134 : decode cL_change 134 = .ok (.iload_n 2, 1) := by decide +kernel
theorem dL_change_135 : decode cL_change 135 = .ok (.iconst 2, 1) := by decide +kernel
theorem dL_change_136 : decode cL_change 136 = .ok (.ishr, 1) := by decide +kernel
theorem dL_change_137 : decode cL_change 137 = .ok (.bipush 100, 2) := by decide +kernel
theorem dL_change_139 : decode cL_change 139 = .ok (.invokestatic 15, 3) := by decide +kernel
theorem dL_change_142 : decode cL_change 142 = .ok (.invokevirtual 27, 3) := by decide +kernel
theorem dL_change_145 : decode cL_change 145 = .ok (.ireturn, 1) := by decide +kernel
theorem dL_change_146 : decode cL_change 146 = .ok (.aload_n 0, 1) := by decide +kernel
theorem dL_change_147 : decode cL_change 147 = .ok (.iconst 1, 1) := by decide +kernel
theorem dL_change_148 : decode cL_change 148 = .ok (.iload_n 2, 1) := by decide +kernel
theorem dL_change_149 : decode cL_change 149 = .ok (.bipush 6, 2) := by decide +kernel
theorem dL_change_151 : decode cL_change 151 = .ok (.invokestatic 15, 3) := by decide +kernel
theorem dL_change_154 : decode cL_change 154 = .ok (.iadd, 1) := by decide +kernel
theorem dL_change_155 : decode cL_change 155 = .ok (.iload_n 2, 1) := by decide +kernel
theorem dL_change_156 : decode cL_change 156 = .ok (.iconst 3, 1) := by decide +kernel
theorem dL_change_157 : decode cL_change 157 = .ok (.ishr, 1) := by decide +kernel
theorem dL_change_158 : decode cL_change 158 = .ok (.bipush 10, 2) := by decide +kernel
theorem dL_change_160 : decode cL_change 160 = .ok (.invokestatic 15, 3) := by decide +kernel
theorem dL_change_163 : decode cL_change 163 = .ok (.invokevirtual 30, 3) := by decide +kernel
theorem dL_change_166 : decode cL_change 166 = .ok (.ireturn, 1) := by decide +kernel
theorem dL_change_167 : decode cL_change 167 = .ok (.aload_n 0, 1) := by decide +kernel
theorem dL_change_168 : decode cL_change 168 = .ok (.iconst 0, 1) := by decide +kernel
theorem dL_change_169 : decode cL_change 169 = .ok (.iconst 1, 1) := by decide +kernel
theorem dL_change_170 : decode cL_change 170 = .ok (.iload_n 2, 1) := by decide +kernel
theorem dL_change_171 : decode cL_change 171 = .ok (.iconst 4, 1) := by decide +kernel
theorem dL_change_172 : decode cL_change 172 = .ok (.invokestatic 15, 3) := by decide +kernel
theorem dL_change_175 : decode cL_change 175 = .ok (.iadd, 1) := by decide +kernel
theorem dL_change_176 : decode cL_change 176 = .ok (.invokevirtual 33, 3) := by decide +kernel
theorem dL_change_179 : decode cL_change 179 = .ok (.ireturn, 1) := by decide +kernel
theorem dL_change_180 : decode cL_change 180 = .ok (.aload_n 0, 1) := by decide +kernel
theorem dL_change_181 : decode cL_change 181 = .ok (.iconst 1, 1) := by decide +kernel
theorem dL_change_182 : decode cL_change 182 = .ok (.iload_n 2, 1) := by decide +kernel
theorem dL_change_183 : decode cL_change 183 = .ok (.iconst 4, 1) := by decide +kernel
theorem dL_change_184 : decode cL_change 184 = .ok (.invokestatic 15, 3) := by decide +kernel
theorem dL_change_187 : decode cL_change 187 = .ok (.invokevirtual 33, 3) := by decide +kernel
theorem dL_change_190 : decode cL_change 190 = .ok (.ireturn, 1) := by decide +kernel
theorem dL_change_191 : decode cL_change 191 = .ok (.aload_n 0, 1) := by decide +kernel
theorem dL_change_192 : decode cL_change 192 = .ok (.iconst 2, 1) := by decide +kernel
theorem dL_change_193 : decode cL_change 193 = .ok (.iload_n 2, 1) := by decide +kernel
theorem dL_change_194 : decode cL_change 194 = .ok (.iconst 2, 1) := by decide +kernel
theorem dL_change_195 : decode cL_change 195 = .ok (.invokestatic 15, 3) := by decide +kernel
theorem dL_change_198 : decode cL_change 198 = .ok (.invokevirtual 33, 3) := by decide +kernel
theorem dL_change_201 : decode cL_change 201 = .ok (.ireturn, 1) := by decide +kernel
theorem dL_change_202 : decode cL_change 202 = .ok (.aload_n 0, 1) := by decide +kernel
theorem dL_change_203 : decode cL_change 203 = .ok (.iconst 3, 1) := by decide +kernel
theorem dL_change_204 : decode cL_change 204 = .ok (.iload_n 2, 1) := by decide +kernel
theorem dL_change_205 : decode cL_change 205 = .ok (.ldc 8, 2) := by decide +kernel
theorem dL_change_207 : decode cL_change 207 = .ok (.iand, 1) := by decide +kernel
theorem dL_change_208 : decode cL_change 208 = .ok (.invokevirtual 33, 3) := by decide +kernel
theorem dL_change_211 : decode cL_change 211 = .ok (.ireturn, 1) := by decide +kernel
theorem dL_change_212 : decode cL_change 212 = .ok (.aload_n 0, 1) := by decide +kernel
theorem dL_change_213 : decode cL_change 213 = .ok (.iconst 1, 1) := by decide +kernel
theorem dL_change_214 : decode cL_change 214 = .ok (.iload_n 2, 1) := by decide +kernel
theorem dL_change_215 : decode cL_change 215 = .ok (.iconst 1, 1) := by decide +kernel
theorem dL_change_216 : decode cL_change 216 = .ok (.iload_n 3, 1) := by decide +kernel
theorem dL_change_217 : decode cL_change 217 = .ok (.ishl, 1) := by decide +kernel
theorem dL_change_218 : decode cL_change 218 = .ok (.iconst 1, 1) := by decide +kernel
theorem dL_change_219 : decode cL_change 219 = .ok (.isub, 1) := by decide +kernel
theorem dL_change_220 : decode cL_change 220 = .ok (.invokestatic 15, 3) := by decide +kernel
theorem dL_change_223 : decode cL_change 223 = .ok (.iadd, 1) := by decide +kernel
theorem dL_change_224 : decode cL_change 224 = .ok (.invokevirtual 36, 3) := by decide +kernel
theorem dL_change_227 : decode cL_change 227 = .ok (.ireturn, 1) := by decide +kernel
theorem dL_change_228 : decode cL_change 228 = .ok (.aload_n 0, 1) := by decide +kernel
theorem dL_change_229 : decode cL_change 229 = .ok (.invokevirtual 39, 3) := by decide +kernel
theorem dL_change_232 : decode cL_change 232 = .ok (.ireturn, 1) := by decide +kernel
theorem dL_change_233 : decode cL_change 233 = .ok (.iload_n 2, 1) := by decide +kernel
theorem dL_change_234 : decode cL_change 234 = .ok (.iconst 2, 1) := by decide +kernel
theorem dL_change_235 : decode cL_change 235 = .ok (.invokestatic 15, 3) := by decide +kernel
theorem dL_change_238 : decode cL_change 238 = .ok (.ifCond .ne 17, 3) := by decide +kernel
theorem dL_change_241 : decode cL_change 241 = .ok (.aload_n 0, 1) := by decide +kernel
theorem dL_change_242 : decode cL_change 242 = .ok (.iload_n 2, 1) := by decide +kernel
theorem dL_change_243 : decode cL_change 243 = .ok (.iconst 1, 1) := by decide +kernel
theorem dL_change_244 : decode cL_change 244 = .ok (.ishr, 1) := by decide +kernel
theorem dL_change_245 : decode cL_change 245 = .ok (.iconst 2, 1) := by decide +kernel
theorem dL_change_246 : decode cL_change 246 = .ok (.invokestatic 15, 3) := by decide +kernel
theorem dL_change_249 : decode cL_change 249 = .ok (.invokevirtual 43, 3) := by decide +kernel
theorem dL_change_252 : decode cL_change 252 = .ok (.goto 14, 3) := by decide +kernel
theorem dL_change_255 : decode cL_change 255 = .ok (.aload_n 0, 1) := by decide +kernel
theorem dL_change_256 : decode cL_change 256 = .ok (.iload_n 2, 1) := by decide +kernel
theorem dL_change_257 : decode cL_change 257 = .ok (.iconst 1, 1) := by decide +kernel
theorem dL_change_258 : decode cL_change 258 = .ok (.ishr, 1) := by decide +kernel
theorem dL_change_259 : decode cL_change 259 = .ok (.iconst 2, 1) := by decide +kernel
theorem dL_change_260 : decode cL_change 260 = .ok (.invokestatic 15, 3) := by decide +kernel
theorem dL_change_263 : decode cL_change 263 = .ok (.invokevirtual 46, 3) := by decide +kernel
theorem dL_change_266 : decode cL_change 266 = .ok (.ireturn, 1) := by decide +kernel
theorem dL_change_267 : decode cL_change 267 = .ok (.aload_n 0, 1) := by decide +kernel
theorem dL_change_268 : decode cL_change 268 = .ok (.iconst 1, 1) := by decide +kernel
theorem dL_change_269 : decode cL_change 269 = .ok (.iload_n 2, 1) := by decide +kernel
theorem dL_change_270 : decode cL_change 270 = .ok (.iload_n 2, 1) := by decide +kernel
theorem dL_change_271 : decode cL_change 271 = .ok (.bipush 6, 2) := by decide +kernel
theorem dL_change_273 : decode cL_change 273 = .ok (.ishr, 1) := by decide +kernel
theorem dL_change_274 : decode cL_change 274 = .ok (.iconst 3, 1) := by decide +kernel
theorem dL_change_275 : decode cL_change 275 = .ok (.invokestatic 15, 3) := by decide +kernel
theorem dL_change_278 : decode cL_change 278 = .ok (.ifCond .ne 8, 3) := by decide +kernel
theorem dL_change_281 : decode cL_change 281 = .ok (.bipush 30, 2) := by decide +kernel
theorem dL_change_283 : decode cL_change 283 = .ok (.goto 5, 3) := by decide +kernel
theorem dL_change_286 : decode cL_change 286 = .ok (.bipush 6, 2) := by decide +kernel
theorem dL_change_288 : decode cL_change 288 = .ok (.invokestatic 15, 3) := by decide +kernel
theorem dL_change_291 : decode cL_change 291 = .ok (.iadd, 1) := by decide +kernel
theorem dL_change_292 : decode cL_change 292 = .ok (.invokevirtual 49, 3) := by decide +kernel
theorem dL_change_295 : decode cL_change 295 = .ok (.ireturn, 1) := by decide +kernel
theorem dL_size_0 : decode cL_size 0 = .ok (.iconst 0, 1) := by decide +kernel
theorem dL_size_1 : decode cL_size 1 = .ok (.istore_n 1, 1) := by decide +kernel
theorem dL_size_2 : decode cL_size 2 = .ok (.iconst 0, 1) := by decide +kernel
theorem dL_size_3 : decode cL_size 3 = .ok (.istore_n 2, 1) := by decide +kernel
theorem dL_size_4 : decode cL_size 4 = .ok (.iload_n 2, 1) := by decide +kernel
theorem dL_size_5 : decode cL_size 5 = .ok (.bipush 12, 2) := by decide +kernel
theorem dL_size_7 : decode cL_size 7 = .ok (.if_icmp .ge 17, 3) := by decide +kernel
theorem dL_size_10 : decode cL_size 10 = .ok (.iload_n 1, 1) := by decide +kernel
theorem dL_size_11 : decode cL_size 11 = .ok (.iload_n 0, 1) := by decide +kernel
theorem dL_size_12 : decode cL_size 12 = .ok (.iload_n 2, 1) := by decide +kernel
theorem dL_size_13 : decode cL_size 13 = .ok (.ishr, 1) := by decide +kernel
theorem dL_size_14 : decode cL_size 14 = .ok (.iconst 1, 1) := by decide +kernel
theorem dL_size_15 : decode cL_size 15 = .ok (.iand, 1) := by decide +kernel
theorem dL_size_16 : decode cL_size 16 = .ok (.iadd, 1) := by decide +kernel
theorem dL_size_17 : decode cL_size 17 = .ok (.istore_n 1, 1) := by decide +kernel
theorem dL_size_18 : decode cL_size 18 = .ok (.iinc 2 1, 3) := by decide +kernel
theorem dL_size_21 : decode cL_size 21 = .ok (.goto (-17), 3) := by decide +kernel
theorem dL_size_24 : decode cL_size 24 = .ok (.iload_n 1, 1) := by decide +kernel
theorem dL_size_25 : decode cL_size 25 = .ok (.ireturn, 1) := by decide +kernel
theorem dL_value_0 : decode cL_value 0 = .ok (.iconst 0, 1) := by decide +kernel
theorem dL_value_1 : decode cL_value 1 = .ok (.istore_n 2, 1) := by decide +kernel
theorem dL_value_2 : decode cL_value 2 = .ok (.iconst 0, 1) := by decide +kernel
theorem dL_value_3 : decode cL_value 3 = .ok (.istore_n 3, 1) := by decide +kernel
theorem dL_value_4 : decode cL_value 4 = .ok (.iload_n 3, 1) := by decide +kernel
theorem dL_value_5 : decode cL_value 5 = .ok (.aload_n 0, 1) := by decide +kernel
theorem dL_value_6 : decode cL_value 6 = .ok (.iconst 0, 1) := by decide +kernel
theorem dL_value_7 : decode cL_value 7 = .ok (.invokevirtual 9, 3) := by decide +kernel
theorem dL_value_10 : decode cL_value 10 = .ok (.if_icmp .ge 31, 3) := by decide +kernel
theorem dL_value_13 : decode cL_value 13 = .ok (.iload_n 1, 1) := by decide +kernel
theorem dL_value_14 : decode cL_value 14 = .ok (.iload_n 3, 1) := by decide +kernel
theorem dL_value_15 : decode cL_value 15 = .ok (.ishr, 1) := by decide +kernel
theorem dL_value_16 : decode cL_value 16 = .ok (.iconst 1, 1) := by decide +kernel
theorem dL_value_17 : decode cL_value 17 = .ok (.iand, 1) := by decide +kernel
theorem dL_value_18 : decode cL_value 18 = .ok (.iconst 1, 1) := by decide +kernel
theorem dL_value_19 : decode cL_value 19 = .ok (.if_icmp .ne 14, 3) := by decide +kernel
theorem dL_value_22 : decode cL_value 22 = .ok (.iload_n 2, 1) := by decide +kernel
theorem dL_value_23 : decode cL_value 23 = .ok (.aload_n 0, 1) := by decide +kernel
theorem dL_value_24 : decode cL_value 24 = .ok (.iload_n 3, 1) := by decide +kernel
theorem dL_value_25 : decode cL_value 25 = .ok (.iconst 0, 1) := by decide +kernel
theorem dL_value_26 : decode cL_value 26 = .ok (.invokevirtual 52, 3) := by decide +kernel
theorem dL_value_29 : decode cL_value 29 = .ok (.ixor, 1) := by decide +kernel
theorem dL_value_30 : decode cL_value 30 = .ok (.goto 4, 3) := by decide +kernel
theorem dL_value_33 : decode cL_value 33 = .ok (.iload_n 2, 1) := by decide +kernel
theorem dL_value_34 : decode cL_value 34 = .ok (.istore_n 2, 1) := by decide +kernel
theorem dL_value_35 : decode cL_value 35 = .ok (.iinc 3 1, 3) := by decide +kernel
theorem dL_value_38 : decode cL_value 38 = .ok (.goto (-34), 3) := by decide +kernel
theorem dL_value_41 : decode cL_value 41 = .ok (.iload_n 2, 1) := by decide +kernel
theorem dL_value_42 : decode cL_value 42 = .ok (.ireturn, 1) := by decide +kernel
theorem dL_isList_0 : decode cL_isList 0 = .ok (.aload_n 0, 1) := by decide +kernel
theorem dL_isList_1 : decode cL_isList 1 = .ok (.iload_n 1, 1) := by decide +kernel
theorem dL_isList_2 : decode cL_isList 2 = .ok (.iconst 0, 1) := by decide +kernel
theorem dL_isList_3 : decode cL_isList 3 = .ok (.invokevirtual 55, 3) := by decide +kernel
theorem dL_isList_6 : decode cL_isList 6 = .ok (.istore_n 2, 1) := by decide +kernel
theorem dL_isList_7 : decode cL_isList 7 = .ok (.aload_n 0, 1) := by decide +kernel
theorem dL_isList_8 : decode cL_isList 8 = .ok (.iload_n 1, 1) := by decide +kernel
theorem dL_isList_9 : decode cL_isList 9 = .ok (.iconst 1, 1) := by decide +kernel
theorem dL_isList_10 : decode cL_isList 10 = .ok (.invokevirtual 55, 3) := by decide +kernel
theorem dL_isList_13 : decode cL_isList 13 = .ok (.istore_n 3, 1) := by decide +kernel
theorem dL_isList_14 : decode cL_isList 14 = .ok (.iconst 0, 1) := by decide +kernel
theorem dL_isList_15 : decode cL_isList 15 = .ok (.istore 4, 2) := by decide +kernel
theorem dL_isList_17 : decode cL_isList 17 = .ok (.iload 4, 2) := by decide +kernel
theorem dL_isList_19 : decode cL_isList 19 = .ok (.iload_n 2, 1) := by decide +kernel
theorem dL_isList_20 : decode cL_isList 20 = .ok (.if_icmp .ge 82, 3) := by decide +kernel
theorem dL_isList_23 : decode cL_isList 23 = .ok (.aload_n 0, 1) := by decide +kernel
theorem dL_isList_24 : decode cL_isList 24 = .ok (.iload_n 1, 1) := by decide +kernel
theorem dL_isList_25 : decode cL_isList 25 = .ok (.iload 4, 2) := by decide +kernel
theorem dL_isList_27 : decode cL_isList 27 = .ok (.iconst 0, 1) := by decide +kernel
theorem dL_isList_28 : decode cL_isList 28 = .ok (.invokevirtual 58, 3) := by decide +kernel
theorem dL_isList_31 : decode cL_isList 31 = .ok (.istore 5, 2) := by decide +kernel
theorem dL_isList_33 : decode cL_isList 33 = .ok (.iload 5, 2) := by decide +kernel
theorem dL_isList_35 : decode cL_isList 35 = .ok (.iconst 1, 1) := by decide +kernel
theorem dL_isList_36 : decode cL_isList 36 = .ok (.if_icmp .lt 58, 3) := by decide +kernel
theorem dL_isList_39 : decode cL_isList 39 = .ok (.iload 5, 2) := by decide +kernel
theorem dL_isList_41 : decode cL_isList 41 = .ok (.iconst 1, 1) := by decide +kernel
theorem dL_isList_42 : decode cL_isList 42 = .ok (.aload_n 0, 1) := by decide +kernel
theorem dL_isList_43 : decode cL_isList 43 = .ok (.iconst 0, 1) := by decide +kernel
theorem dL_isList_44 : decode cL_isList 44 = .ok (.invokevirtual 9, 3) := by decide +kernel
theorem dL_isList_47 : decode cL_isList 47 = .ok (.ishl, 1) := by decide +kernel
theorem dL_isList_48 : decode cL_isList 48 = .ok (.if_icmp .ge 46, 3) := by decide +kernel
theorem dL_isList_51 : decode cL_isList 51 = .ok (.aload_n 0, 1) := by decide +kernel
theorem dL_isList_52 : decode cL_isList 52 = .ok (.iload_n 1, 1) := by decide +kernel
theorem dL_isList_53 : decode cL_isList 53 = .ok (.iload 4, 2) := by decide +kernel
theorem dL_isList_55 : decode cL_isList 55 = .ok (.iconst 1, 1) := by decide +kernel
theorem dL_isList_56 : decode cL_isList 56 = .ok (.invokevirtual 58, 3) := by decide +kernel
theorem dL_isList_59 : decode cL_isList 59 = .ok (.aload_n 0, 1) := by decide +kernel
theorem dL_isList_60 : decode cL_isList 60 = .ok (.iload 5, 2) := by decide +kernel
theorem dL_isList_62 : decode cL_isList 62 = .ok (.invokestatic 62, 3) := by decide +kernel
theorem dL_isList_65 : decode cL_isList 65 = .ok (.if_icmp .ne 29, 3) := by decide +kernel
theorem dL_isList_68 : decode cL_isList 68 = .ok (.aload_n 0, 1) := by decide +kernel
theorem dL_isList_69 : decode cL_isList 69 = .ok (.iload_n 1, 1) := by decide +kernel
theorem dL_isList_70 : decode cL_isList 70 = .ok (.iload 4, 2) := by decide +kernel
theorem dL_isList_72 : decode cL_isList 72 = .ok (.iconst 2, 1) := by decide +kernel
theorem dL_isList_73 : decode cL_isList 73 = .ok (.invokevirtual 58, 3) := by decide +kernel
theorem dL_isList_76 : decode cL_isList 76 = .ok (.iload 5, 2) := by decide +kernel
theorem dL_isList_78 : decode cL_isList 78 = .ok (.invokestatic 66, 3) := by decide +kernel
theorem dL_isList_81 : decode cL_isList 81 = .ok (.if_icmp .ne 13, 3) := by decide +kernel
theorem dL_isList_84 : decode cL_isList 84 = .ok (.aload_n 0, 1) := by decide +kernel
theorem dL_isList_85 : decode cL_isList 85 = .ok (.iload_n 1, 1) := by decide +kernel
theorem dL_isList_86 : decode cL_isList 86 = .ok (.iload 5, 2) := by decide +kernel
theorem dL_isList_88 : decode cL_isList 88 = .ok (.invokevirtual 69, 3) := by decide +kernel
theorem dL_isList_91 : decode cL_isList 91 = .ok (.ifCond .eq 5, 3) := by decide +kernel
theorem dL_isList_94 : decode cL_isList 94 = .ok (.iconst 0, 1) := by decide +kernel
theorem dL_isList_95 : decode cL_isList 95 = .ok (.ireturn, 1) := by decide +kernel
theorem dL_isList_96 : decode cL_isList 96 = .ok (.iinc 4 1, 3) := by decide +kernel
theorem dL_isList_99 : decode cL_isList 99 = .ok (.goto (-82), 3) := by decide +kernel
theorem dL_isList_102 : decode cL_isList 102 = .ok (.iload_n 1, 1) := by decide +kernel
theorem dL_isList_103 : decode cL_isList 103 = .ok (.aload_n 0, 1) := by decide +kernel
theorem dL_isList_104 : decode cL_isList 104 = .ok (.iconst 1, 1) := by decide +kernel
theorem dL_isList_105 : decode cL_isList 105 = .ok (.invokevirtual 9, 3) := by decide +kernel
theorem dL_isList_108 : decode cL_isList 108 = .ok (.iconst 1, 1) := by decide +kernel
theorem dL_isList_109 : decode cL_isList 109 = .ok (.iadd, 1) := by decide +kernel
theorem dL_isList_110 : decode cL_isList 110 = .ok (.if_icmp .ne 7, 3) := by decide +kernel
theorem dL_isList_113 : decode cL_isList 113 = .ok (.iconst 1, 1) := by decide +kernel
theorem dL_isList_114 : decode cL_isList 114 = .ok (.goto 4, 3) := by decide +kernel
theorem dL_isList_117 : decode cL_isList 117 = .ok (.iconst 0, 1) := by decide +kernel
theorem dL_isList_118 : decode cL_isList 118 = .ok (.istore 4, 2) := by decide +kernel
theorem dL_isList_120 : decode cL_isList 120 = .ok (.aload_n 0, 1) := by decide +kernel
theorem dL_isList_121 : decode cL_isList 121 = .ok (.iload_n 1, 1) := by decide +kernel
theorem dL_isList_122 : decode cL_isList 122 = .ok (.iload_n 2, 1) := by decide +kernel
theorem dL_isList_123 : decode cL_isList 123 = .ok (.iconst 0, 1) := by decide +kernel
theorem dL_isList_124 : decode cL_isList 124 = .ok (.invokevirtual 58, 3) := by decide +kernel
theorem dL_isList_127 : decode cL_isList 127 = .ok (.bipush (-9), 2) := by decide +kernel
theorem dL_isList_129 : decode cL_isList 129 = .ok (.if_icmp .ne 64, 3) := by decide +kernel
theorem dL_isList_132 : decode cL_isList 132 = .ok (.iload_n 3, 1) := by decide +kernel
theorem dL_isList_133 : decode cL_isList 133 = .ok (.iload_n 2, 1) := by decide +kernel
theorem dL_isList_134 : decode cL_isList 134 = .ok (.if_icmp .gt 59, 3) := by decide +kernel
theorem dL_isList_137 : decode cL_isList 137 = .ok (.iload_n 2, 1) := by decide +kernel
theorem dL_isList_138 : decode cL_isList 138 = .ok (.ifCond .ne 7, 3) := by decide +kernel
theorem dL_isList_141 : decode cL_isList 141 = .ok (.iconst 1, 1) := by decide +kernel
theorem dL_isList_142 : decode cL_isList 142 = .ok (.goto 4, 3) := by decide +kernel
theorem dL_isList_145 : decode cL_isList 145 = .ok (.iconst 0, 1) := by decide +kernel
theorem dL_isList_146 : decode cL_isList 146 = .ok (.iload_n 3, 1) := by decide +kernel
theorem dL_isList_147 : decode cL_isList 147 = .ok (.ifCond .ne 7, 3) := by decide +kernel
theorem dL_isList_150 : decode cL_isList 150 = .ok (.iconst 1, 1) := by decide +kernel
theorem dL_isList_151 : decode cL_isList 151 = .ok (.goto 4, 3) := by decide +kernel
theorem dL_isList_154 : decode cL_isList 154 = .ok (.iconst 0, 1) := by decide +kernel
theorem dL_isList_155 : decode cL_isList 155 = .ok (.if_icmp .ne 38, 3) := by decide +kernel
theorem dL_isList_158 : decode cL_isList 158 = .ok (.iload 4, 2) := by decide +kernel
theorem dL_isList_160 : decode cL_isList 160 = .ok (.ifCond .eq 20, 3) := by decide +kernel
theorem dL_isList_163 : decode cL_isList 163 = .ok (.iload_n 3, 1) := by decide +kernel
theorem dL_isList_164 : decode cL_isList 164 = .ok (.iload_n 2, 1) := by decide +kernel
theorem dL_isList_165 : decode cL_isList 165 = .ok (.if_icmp .ne 28, 3) := by decide +kernel
theorem dL_isList_168 : decode cL_isList 168 = .ok (.iload_n 2, 1) := by decide +kernel
theorem dL_isList_169 : decode cL_isList 169 = .ok (.aload_n 0, 1) := by decide +kernel
theorem dL_isList_170 : decode cL_isList 170 = .ok (.iconst 0, 1) := by decide +kernel
theorem dL_isList_171 : decode cL_isList 171 = .ok (.invokevirtual 9, 3) := by decide +kernel
theorem dL_isList_174 : decode cL_isList 174 = .ok (.if_icmp .gt 19, 3) := by decide +kernel
theorem dL_isList_177 : decode cL_isList 177 = .ok (.goto 12, 3) := by decide +kernel
theorem dL_isList_180 : decode cL_isList 180 = .ok (.iload_n 2, 1) := by decide +kernel
theorem dL_isList_181 : decode cL_isList 181 = .ok (.aload_n 0, 1) := by decide +kernel
theorem dL_isList_182 : decode cL_isList 182 = .ok (.iconst 3, 1) := by decide +kernel
theorem dL_isList_183 : decode cL_isList 183 = .ok (.invokevirtual 9, 3) := by decide +kernel
theorem dL_isList_186 : decode cL_isList 186 = .ok (.if_icmp .gt 7, 3) := by decide +kernel
theorem dL_isList_189 : decode cL_isList 189 = .ok (.iconst 1, 1) := by decide +kernel
theorem dL_isList_190 : decode cL_isList 190 = .ok (.goto 4, 3) := by decide +kernel
theorem dL_isList_193 : decode cL_isList 193 = .ok (.iconst 0, 1) := by decide +kernel
theorem dL_isList_194 : decode cL_isList 194 = .ok (.ireturn, 1) := by decide +kernel
theorem dL_isReceiver_0 : decode cL_isReceiver 0 = .ok (.iconst 0, 1) := by decide +kernel
theorem dL_isReceiver_1 : decode cL_isReceiver 1 = .ok (.istore_n 1, 1) := by decide +kernel
theorem dL_isReceiver_2 : decode cL_isReceiver 2 = .ok (.iconst 0, 1) := by decide +kernel
theorem dL_isReceiver_3 : decode cL_isReceiver 3 = .ok (.istore_n 2, 1) := by decide +kernel
theorem dL_isReceiver_4 : decode cL_isReceiver 4 = .ok (.iconst 0, 1) := by decide +kernel
theorem dL_isReceiver_5 : decode cL_isReceiver 5 = .ok (.istore_n 3, 1) := by decide +kernel
theorem dL_isReceiver_6 : decode cL_isReceiver 6 = .ok (.iconst 0, 1) := by decide +kernel
theorem dL_isReceiver_7 : decode cL_isReceiver 7 = .ok (.istore 4, 2) := by decide +kernel
theorem dL_isReceiver_9 : decode cL_isReceiver 9 = .ok (.iload 4, 2) := by decide +kernel
theorem dL_isReceiver_11 : decode cL_isReceiver 11 = .ok (.aload_n 0, 1) := by decide +kernel
theorem dL_isReceiver_12 : decode cL_isReceiver 12 = .ok (.iconst 0, 1) := by decide +kernel
theorem dL_isReceiver_13 : decode cL_isReceiver 13 = .ok (.invokevirtual 9, 3) := by decide +kernel
theorem dL_isReceiver_16 : decode cL_isReceiver 16 = .ok (.if_icmp .ge 237, 3) := by decide +kernel
theorem dL_isReceiver_19 : decode cL_isReceiver 19 = .ok (.aload_n 0, 1) := by decide +kernel
theorem dL_isReceiver_20 : decode cL_isReceiver 20 = .ok (.iload 4, 2) := by decide +kernel
theorem dL_isReceiver_22 : decode cL_isReceiver 22 = .ok (.iconst 1, 1) := by decide +kernel
theorem dL_isReceiver_23 : decode cL_isReceiver 23 = .ok (.invokevirtual 52, 3) := by decide +kernel
theorem dL_isReceiver_26 : decode cL_isReceiver 26 = .ok (.istore 5, 2) := by decide +kernel
theorem dL_isReceiver_28 : decode cL_isReceiver 28 = .ok (.aload_n 0, 1) := by decide +kernel
theorem dL_isReceiver_29 : decode cL_isReceiver 29 = .ok (.iload 4, 2) := by decide +kernel
theorem dL_isReceiver_31 : decode cL_isReceiver 31 = .ok (.iconst 2, 1) := by decide +kernel
theorem dL_isReceiver_32 : decode cL_isReceiver 32 = .ok (.invokevirtual 52, 3) := by decide +kernel
theorem dL_isReceiver_35 : decode cL_isReceiver 35 = .ok (.istore 6, 2) := by decide +kernel
theorem dL_isReceiver_37 : decode cL_isReceiver 37 = .ok (.iload 5, 2) := by decide +kernel
theorem dL_isReceiver_39 : decode cL_isReceiver 39 = .ok (.bipush (-9), 2) := by decide +kernel
theorem dL_isReceiver_41 : decode cL_isReceiver 41 = .ok (.if_icmp .eq 9, 3) := by decide +kernel
theorem dL_isReceiver_44 : decode cL_isReceiver 44 = .ok (.iload_n 1, 1) := by decide +kernel
theorem dL_isReceiver_45 : decode cL_isReceiver 45 = .ok (.iconst 1, 1) := by decide +kernel
theorem dL_isReceiver_46 : decode cL_isReceiver 46 = .ok (.iadd, 1) := by decide +kernel
theorem dL_isReceiver_47 : decode cL_isReceiver 47 = .ok (.goto 4, 3) := by decide +kernel
theorem dL_isReceiver_50 : decode cL_isReceiver 50 = .ok (.iload_n 1, 1) := by decide +kernel
theorem dL_isReceiver_51 : decode cL_isReceiver 51 = .ok (.istore_n 1, 1) := by decide +kernel
theorem dL_isReceiver_52 : decode cL_isReceiver 52 = .ok (.iload 6, 2) := by decide +kernel
theorem dL_isReceiver_54 : decode cL_isReceiver 54 = .ok (.bipush (-9), 2) := by decide +kernel
theorem dL_isReceiver_56 : decode cL_isReceiver 56 = .ok (.if_icmp .eq 9, 3) := by decide +kernel
theorem dL_isReceiver_59 : decode cL_isReceiver 59 = .ok (.iload_n 2, 1) := by decide +kernel
theorem dL_isReceiver_60 : decode cL_isReceiver 60 = .ok (.iconst 1, 1) := by decide +kernel
theorem dL_isReceiver_61 : decode cL_isReceiver 61 = .ok (.iadd, 1) := by decide +kernel
theorem dL_isReceiver_62 : decode cL_isReceiver 62 = .ok (.goto 4, 3) := by decide +kernel
theorem dL_isReceiver_65 : decode cL_isReceiver 65 = .ok (.iload_n 2, 1) := by decide +kernel
theorem dL_isReceiver_66 : decode cL_isReceiver 66 = .ok (.istore_n 2, 1) := by decide +kernel
theorem dL_isReceiver_67 : decode cL_isReceiver 67 = .ok (.iload 5, 2) := by decide +kernel
theorem dL_isReceiver_69 : decode cL_isReceiver 69 = .ok (.bipush (-9), 2) := by decide +kernel
theorem dL_isReceiver_71 : decode cL_isReceiver 71 = .ok (.if_icmp .eq 12, 3) := by decide +kernel
theorem dL_isReceiver_74 : decode cL_isReceiver 74 = .ok (.iload_n 3, 1) := by decide +kernel
theorem dL_isReceiver_75 : decode cL_isReceiver 75 = .ok (.iconst 1, 1) := by decide +kernel
theorem dL_isReceiver_76 : decode cL_isReceiver 76 = .ok (.iload 4, 2) := by decide +kernel
theorem dL_isReceiver_78 : decode cL_isReceiver 78 = .ok (.ishl, 1) := by decide +kernel
theorem dL_isReceiver_79 : decode cL_isReceiver 79 = .ok (.ior, 1) := by decide +kernel
theorem dL_isReceiver_80 : decode cL_isReceiver 80 = .ok (.goto 4, 3) := by decide +kernel
theorem dL_isReceiver_83 : decode cL_isReceiver 83 = .ok (.iload_n 3, 1) := by decide +kernel
theorem dL_isReceiver_84 : decode cL_isReceiver 84 = .ok (.istore_n 3, 1) := by decide +kernel
theorem dL_isReceiver_85 : decode cL_isReceiver 85 = .ok (.iload 5, 2) := by decide +kernel
theorem dL_isReceiver_87 : decode cL_isReceiver 87 = .ok (.bipush (-9), 2) := by decide +kernel
theorem dL_isReceiver_89 : decode cL_isReceiver 89 = .ok (.if_icmp .eq 22, 3) := by decide +kernel
theorem dL_isReceiver_92 : decode cL_isReceiver 92 = .ok (.iload 5, 2) := by decide +kernel
theorem dL_isReceiver_94 : decode cL_isReceiver 94 = .ok (.aload_n 0, 1) := by decide +kernel
theorem dL_isReceiver_95 : decode cL_isReceiver 95 = .ok (.iload 4, 2) := by decide +kernel
theorem dL_isReceiver_97 : decode cL_isReceiver 97 = .ok (.iconst 0, 1) := by decide +kernel
theorem dL_isReceiver_98 : decode cL_isReceiver 98 = .ok (.invokevirtual 52, 3) := by decide +kernel
theorem dL_isReceiver_101 : decode cL_isReceiver 101 = .ok (.if_icmp .ne 33, 3) := by decide +kernel
theorem dL_isReceiver_104 : decode cL_isReceiver 104 = .ok (.iload 6, 2) := by decide +kernel
theorem dL_isReceiver_106 : decode cL_isReceiver 106 = .ok (.iload 5, 2) := by decide +kernel
theorem dL_isReceiver_108 : decode cL_isReceiver 108 = .ok (.if_icmp .ne 26, 3) := by decide +kernel
theorem dL_isReceiver_111 : decode cL_isReceiver 111 = .ok (.iload 6, 2) := by decide +kernel
theorem dL_isReceiver_113 : decode cL_isReceiver 113 = .ok (.bipush (-9), 2) := by decide +kernel
theorem dL_isReceiver_115 : decode cL_isReceiver 115 = .ok (.if_icmp .eq 15, 3) := by decide +kernel
theorem dL_isReceiver_118 : decode cL_isReceiver 118 = .ok (.iload 6, 2) := by decide +kernel
theorem dL_isReceiver_120 : decode cL_isReceiver 120 = .ok (.aload_n 0, 1) := by decide +kernel
theorem dL_isReceiver_121 : decode cL_isReceiver 121 = .ok (.iload 4, 2) := by decide +kernel
theorem dL_isReceiver_123 : decode cL_isReceiver 123 = .ok (.iconst 0, 1) := by decide +kernel
theorem dL_isReceiver_124 : decode cL_isReceiver 124 = .ok (.invokevirtual 52, 3) := by decide +kernel
theorem dL_isReceiver_127 : decode cL_isReceiver 127 = .ok (.if_icmp .ne 7, 3) := by decide +kernel
theorem dL_isReceiver_130 : decode cL_isReceiver 130 = .ok (.iconst 1, 1) := by decide +kernel
theorem dL_isReceiver_131 : decode cL_isReceiver 131 = .ok (.goto 4, 3) := by decide +kernel
theorem dL_isReceiver_134 : decode cL_isReceiver 134 = .ok (.iconst 0, 1) := by decide +kernel
theorem dL_isReceiver_135 : decode cL_isReceiver 135 = .ok (.istore 7, 2) := by decide +kernel
theorem dL_isReceiver_137 : decode cL_isReceiver 137 = .ok (.iload 7, 2) := by decide +kernel
theorem dL_isReceiver_139 : decode cL_isReceiver 139 = .ok (.ifCond .eq 106, 3) := by decide +kernel
theorem dL_isReceiver_142 : decode cL_isReceiver 142 = .ok (.iload 5, 2) := by decide +kernel
theorem dL_isReceiver_144 : decode cL_isReceiver 144 = .ok (.bipush (-9), 2) := by decide +kernel
theorem dL_isReceiver_146 : decode cL_isReceiver 146 = .ok (.if_icmp .ne 7, 3) := by decide +kernel
theorem dL_isReceiver_149 : decode cL_isReceiver 149 = .ok (.iconst 1, 1) := by decide +kernel
theorem dL_isReceiver_150 : decode cL_isReceiver 150 = .ok (.goto 4, 3) := by decide +kernel
theorem dL_isReceiver_153 : decode cL_isReceiver 153 = .ok (.iconst 0, 1) := by decide +kernel
theorem dL_isReceiver_154 : decode cL_isReceiver 154 = .ok (.aload_n 0, 1) := by decide +kernel
theorem dL_isReceiver_155 : decode cL_isReceiver 155 = .ok (.iload 4, 2) := by decide +kernel
theorem dL_isReceiver_157 : decode cL_isReceiver 157 = .ok (.iconst 3, 1) := by decide +kernel
theorem dL_isReceiver_158 : decode cL_isReceiver 158 = .ok (.invokevirtual 52, 3) := by decide +kernel
theorem dL_isReceiver_161 : decode cL_isReceiver 161 = .ok (.bipush (-9), 2) := by decide +kernel
theorem dL_isReceiver_163 : decode cL_isReceiver 163 = .ok (.if_icmp .ne 7, 3) := by decide +kernel
theorem dL_isReceiver_166 : decode cL_isReceiver 166 = .ok (.iconst 1, 1) := by decide +kernel
theorem dL_isReceiver_167 : decode cL_isReceiver 167 = .ok (.goto 4, 3) := by decide +kernel
theorem dL_isReceiver_170 : decode cL_isReceiver 170 = .ok (.iconst 0, 1) := by decide +kernel
theorem dL_isReceiver_171 : decode cL_isReceiver 171 = .ok (.if_icmp .ne 74, 3) := by decide +kernel
theorem dL_isReceiver_174 : decode cL_isReceiver 174 = .ok (.iload 6, 2) := by decide +kernel
theorem dL_isReceiver_176 : decode cL_isReceiver 176 = .ok (.bipush (-9), 2) := by decide +kernel
theorem dL_isReceiver_178 : decode cL_isReceiver 178 = .ok (.if_icmp .ne 7, 3) := by decide +kernel
theorem dL_isReceiver_181 : decode cL_isReceiver 181 = .ok (.iconst 1, 1) := by decide +kernel
theorem dL_isReceiver_182 : decode cL_isReceiver 182 = .ok (.goto 4, 3) := by decide +kernel
theorem dL_isReceiver_185 : decode cL_isReceiver 185 = .ok (.iconst 0, 1) := by decide +kernel
theorem dL_isReceiver_186 : decode cL_isReceiver 186 = .ok (.aload_n 0, 1) := by decide +kernel
theorem dL_isReceiver_187 : decode cL_isReceiver 187 = .ok (.iload 4, 2) := by decide +kernel
theorem dL_isReceiver_189 : decode cL_isReceiver 189 = .ok (.iconst 4, 1) := by decide +kernel
theorem dL_isReceiver_190 : decode cL_isReceiver 190 = .ok (.invokevirtual 52, 3) := by decide +kernel
theorem dL_isReceiver_193 : decode cL_isReceiver 193 = .ok (.bipush (-9), 2) := by decide +kernel
theorem dL_isReceiver_195 : decode cL_isReceiver 195 = .ok (.if_icmp .ne 7, 3) := by decide +kernel
theorem dL_isReceiver_198 : decode cL_isReceiver 198 = .ok (.iconst 1, 1) := by decide +kernel
theorem dL_isReceiver_199 : decode cL_isReceiver 199 = .ok (.goto 4, 3) := by decide +kernel
theorem dL_isReceiver_202 : decode cL_isReceiver 202 = .ok (.iconst 0, 1) := by decide +kernel
theorem dL_isReceiver_203 : decode cL_isReceiver 203 = .ok (.if_icmp .ne 42, 3) := by decide +kernel
theorem dL_isReceiver_206 : decode cL_isReceiver 206 = .ok (.iload 5, 2) := by decide +kernel
theorem dL_isReceiver_208 : decode cL_isReceiver 208 = .ok (.bipush (-9), 2) := by decide +kernel
theorem dL_isReceiver_210 : decode cL_isReceiver 210 = .ok (.if_icmp .eq 20, 3) := by decide +kernel
theorem dL_isReceiver_213 : decode cL_isReceiver 213 = .ok (.aload_n 0, 1) := by decide +kernel
theorem dL_isReceiver_214 : decode cL_isReceiver 214 = .ok (.iload 4, 2) := by decide +kernel
theorem dL_isReceiver_216 : decode cL_isReceiver 216 = .ok (.iconst 3, 1) := by decide +kernel
theorem dL_isReceiver_217 : decode cL_isReceiver 217 = .ok (.invokevirtual 52, 3) := by decide +kernel
theorem dL_isReceiver_220 : decode cL_isReceiver 220 = .ok (.aload_n 0, 1) := by decide +kernel
theorem dL_isReceiver_221 : decode cL_isReceiver 221 = .ok (.iload 4, 2) := by decide +kernel
theorem dL_isReceiver_223 : decode cL_isReceiver 223 = .ok (.iconst 4, 1) := by decide +kernel
theorem dL_isReceiver_224 : decode cL_isReceiver 224 = .ok (.invokevirtual 52, 3) := by decide +kernel
theorem dL_isReceiver_227 : decode cL_isReceiver 227 = .ok (.if_icmp .lt 18, 3) := by decide +kernel
theorem dL_isReceiver_230 : decode cL_isReceiver 230 = .ok (.aload_n 0, 1) := by decide +kernel
theorem dL_isReceiver_231 : decode cL_isReceiver 231 = .ok (.iload 4, 2) := by decide +kernel
theorem dL_isReceiver_233 : decode cL_isReceiver 233 = .ok (.iconst 3, 1) := by decide +kernel
theorem dL_isReceiver_234 : decode cL_isReceiver 234 = .ok (.invokevirtual 52, 3) := by decide +kernel
theorem dL_isReceiver_237 : decode cL_isReceiver 237 = .ok (.aload_n 0, 1) := by decide +kernel
theorem dL_isReceiver_238 : decode cL_isReceiver 238 = .ok (.iconst 2, 1) := by decide +kernel
theorem dL_isReceiver_239 : decode cL_isReceiver 239 = .ok (.invokevirtual 9, 3) := by decide +kernel
theorem dL_isReceiver_242 : decode cL_isReceiver 242 = .ok (.if_icmp .le 5, 3) := by decide +kernel
theorem dL_isReceiver_245 : decode cL_isReceiver 245 = .ok (.iconst 0, 1) := by decide +kernel
theorem dL_isReceiver_246 : decode cL_isReceiver 246 = .ok (.ireturn, 1) := by decide +kernel
theorem dL_isReceiver_247 : decode cL_isReceiver 247 = .ok (.iinc 4 1, 3) := by decide +kernel
theorem dL_isReceiver_250 : decode cL_isReceiver 250 = .ok (.goto (-241), 3) := by decide +kernel
theorem dL_isReceiver_253 : decode cL_isReceiver 253 = .ok (.aload_n 0, 1) := by decide +kernel
theorem dL_isReceiver_254 : decode cL_isReceiver 254 = .ok (.bipush 13, 2) := by decide +kernel
theorem dL_isReceiver_256 : decode cL_isReceiver 256 = .ok (.invokevirtual 9, 3) := by decide +kernel
theorem dL_isReceiver_259 : decode cL_isReceiver 259 = .ok (.istore 4, 2) := by decide +kernel
theorem dL_isReceiver_261 : decode cL_isReceiver 261 = .ok (.iconst 0, 1) := by decide +kernel
theorem dL_isReceiver_262 : decode cL_isReceiver 262 = .ok (.istore 5, 2) := by decide +kernel
theorem dL_isReceiver_264 : decode cL_isReceiver 264 = .ok (.iload 5, 2) := by decide +kernel
theorem dL_isReceiver_266 : decode cL_isReceiver 266 = .ok (.iload 4, 2) := by decide +kernel
theorem dL_isReceiver_268 : decode cL_isReceiver 268 = .ok (.if_icmp .ge 67, 3) := by decide +kernel
theorem dL_isReceiver_271 : decode cL_isReceiver 271 = .ok (.aload_n 0, 1) := by decide +kernel
theorem dL_isReceiver_272 : decode cL_isReceiver 272 = .ok (.iload 5, 2) := by decide +kernel
theorem dL_isReceiver_274 : decode cL_isReceiver 274 = .ok (.iconst 0, 1) := by decide +kernel
theorem dL_isReceiver_275 : decode cL_isReceiver 275 = .ok (.invokevirtual 72, 3) := by decide +kernel
theorem dL_isReceiver_278 : decode cL_isReceiver 278 = .ok (.istore 6, 2) := by decide +kernel
theorem dL_isReceiver_280 : decode cL_isReceiver 280 = .ok (.iload 6, 2) := by decide +kernel
theorem dL_isReceiver_282 : decode cL_isReceiver 282 = .ok (.iload_n 3, 1) := by decide +kernel
theorem dL_isReceiver_283 : decode cL_isReceiver 283 = .ok (.iand, 1) := by decide +kernel
theorem dL_isReceiver_284 : decode cL_isReceiver 284 = .ok (.ifCond .ne 43, 3) := by decide +kernel
theorem dL_isReceiver_287 : decode cL_isReceiver 287 = .ok (.iload 6, 2) := by decide +kernel
theorem dL_isReceiver_289 : decode cL_isReceiver 289 = .ok (.invokestatic 66, 3) := by decide +kernel
theorem dL_isReceiver_292 : decode cL_isReceiver 292 = .ok (.iconst 2, 1) := by decide +kernel
theorem dL_isReceiver_293 : decode cL_isReceiver 293 = .ok (.if_icmp .lt 34, 3) := by decide +kernel
theorem dL_isReceiver_296 : decode cL_isReceiver 296 = .ok (.aload_n 0, 1) := by decide +kernel
theorem dL_isReceiver_297 : decode cL_isReceiver 297 = .ok (.iload 5, 2) := by decide +kernel
theorem dL_isReceiver_299 : decode cL_isReceiver 299 = .ok (.iconst 1, 1) := by decide +kernel
theorem dL_isReceiver_300 : decode cL_isReceiver 300 = .ok (.invokevirtual 72, 3) := by decide +kernel
theorem dL_isReceiver_303 : decode cL_isReceiver 303 = .ok (.aload_n 0, 1) := by decide +kernel
theorem dL_isReceiver_304 : decode cL_isReceiver 304 = .ok (.iload 6, 2) := by decide +kernel
theorem dL_isReceiver_306 : decode cL_isReceiver 306 = .ok (.invokestatic 62, 3) := by decide +kernel
theorem dL_isReceiver_309 : decode cL_isReceiver 309 = .ok (.if_icmp .ne 18, 3) := by decide +kernel
theorem dL_isReceiver_312 : decode cL_isReceiver 312 = .ok (.aload_n 0, 1) := by decide +kernel
theorem dL_isReceiver_313 : decode cL_isReceiver 313 = .ok (.iload 5, 2) := by decide +kernel
theorem dL_isReceiver_315 : decode cL_isReceiver 315 = .ok (.iconst 2, 1) := by decide +kernel
theorem dL_isReceiver_316 : decode cL_isReceiver 316 = .ok (.invokevirtual 72, 3) := by decide +kernel
theorem dL_isReceiver_319 : decode cL_isReceiver 319 = .ok (.iload 6, 2) := by decide +kernel
theorem dL_isReceiver_321 : decode cL_isReceiver 321 = .ok (.invokestatic 66, 3) := by decide +kernel
theorem dL_isReceiver_324 : decode cL_isReceiver 324 = .ok (.if_icmp .eq 5, 3) := by decide +kernel
theorem dL_isReceiver_327 : decode cL_isReceiver 327 = .ok (.iconst 0, 1) := by decide +kernel
theorem dL_isReceiver_328 : decode cL_isReceiver 328 = .ok (.ireturn, 1) := by decide +kernel
theorem dL_isReceiver_329 : decode cL_isReceiver 329 = .ok (.iinc 5 1, 3) := by decide +kernel
theorem dL_isReceiver_332 : decode cL_isReceiver 332 = .ok (.goto (-68), 3) := by decide +kernel
theorem dL_isReceiver_335 : decode cL_isReceiver 335 = .ok (.aload_n 0, 1) := by decide +kernel
theorem dL_isReceiver_336 : decode cL_isReceiver 336 = .ok (.bipush 12, 2) := by decide +kernel
theorem dL_isReceiver_338 : decode cL_isReceiver 338 = .ok (.invokevirtual 9, 3) := by decide +kernel
theorem dL_isReceiver_341 : decode cL_isReceiver 341 = .ok (.iload_n 1, 1) := by decide +kernel
theorem dL_isReceiver_342 : decode cL_isReceiver 342 = .ok (.if_icmp .ne 69, 3) := by decide +kernel
theorem dL_isReceiver_345 : decode cL_isReceiver 345 = .ok (.aload_n 0, 1) := by decide +kernel
theorem dL_isReceiver_346 : decode cL_isReceiver 346 = .ok (.bipush 14, 2) := by decide +kernel
theorem dL_isReceiver_348 : decode cL_isReceiver 348 = .ok (.invokevirtual 9, 3) := by decide +kernel
theorem dL_isReceiver_351 : decode cL_isReceiver 351 = .ok (.iload_n 2, 1) := by decide +kernel
theorem dL_isReceiver_352 : decode cL_isReceiver 352 = .ok (.if_icmp .ne 59, 3) := by decide +kernel
theorem dL_isReceiver_355 : decode cL_isReceiver 355 = .ok (.aload_n 0, 1) := by decide +kernel
theorem dL_isReceiver_356 : decode cL_isReceiver 356 = .ok (.bipush 9, 2) := by decide +kernel
theorem dL_isReceiver_358 : decode cL_isReceiver 358 = .ok (.invokevirtual 9, 3) := by decide +kernel
theorem dL_isReceiver_361 : decode cL_isReceiver 361 = .ok (.aload_n 0, 1) := by decide +kernel
theorem dL_isReceiver_362 : decode cL_isReceiver 362 = .ok (.bipush 10, 2) := by decide +kernel
theorem dL_isReceiver_364 : decode cL_isReceiver 364 = .ok (.invokevirtual 9, 3) := by decide +kernel
theorem dL_isReceiver_367 : decode cL_isReceiver 367 = .ok (.aload_n 0, 1) := by decide +kernel
theorem dL_isReceiver_368 : decode cL_isReceiver 368 = .ok (.bipush 11, 2) := by decide +kernel
theorem dL_isReceiver_370 : decode cL_isReceiver 370 = .ok (.invokevirtual 9, 3) := by decide +kernel
theorem dL_isReceiver_373 : decode cL_isReceiver 373 = .ok (.iadd, 1) := by decide +kernel
theorem dL_isReceiver_374 : decode cL_isReceiver 374 = .ok (.if_icmp .ne 37, 3) := by decide +kernel
theorem dL_isReceiver_377 : decode cL_isReceiver 377 = .ok (.iload 4, 2) := by decide +kernel
theorem dL_isReceiver_379 : decode cL_isReceiver 379 = .ok (.bipush 20, 2) := by decide +kernel
theorem dL_isReceiver_381 : decode cL_isReceiver 381 = .ok (.if_icmp .gt 30, 3) := by decide +kernel
theorem dL_isReceiver_384 : decode cL_isReceiver 384 = .ok (.iload 4, 2) := by decide +kernel
theorem dL_isReceiver_386 : decode cL_isReceiver 386 = .ok (.aload_n 0, 1) := by decide +kernel
theorem dL_isReceiver_387 : decode cL_isReceiver 387 = .ok (.bipush 15, 2) := by decide +kernel
theorem dL_isReceiver_389 : decode cL_isReceiver 389 = .ok (.invokevirtual 9, 3) := by decide +kernel
theorem dL_isReceiver_392 : decode cL_isReceiver 392 = .ok (.if_icmp .gt 19, 3) := by decide +kernel
theorem dL_isReceiver_395 : decode cL_isReceiver 395 = .ok (.aload_n 0, 1) := by decide +kernel
theorem dL_isReceiver_396 : decode cL_isReceiver 396 = .ok (.iload 4, 2) := by decide +kernel
theorem dL_isReceiver_398 : decode cL_isReceiver 398 = .ok (.iconst 0, 1) := by decide +kernel
theorem dL_isReceiver_399 : decode cL_isReceiver 399 = .ok (.invokevirtual 72, 3) := by decide +kernel
theorem dL_isReceiver_402 : decode cL_isReceiver 402 = .ok (.bipush (-9), 2) := by decide +kernel
theorem dL_isReceiver_404 : decode cL_isReceiver 404 = .ok (.if_icmp .ne 7, 3) := by decide +kernel
theorem dL_isReceiver_407 : decode cL_isReceiver 407 = .ok (.iconst 1, 1) := by decide +kernel
theorem dL_isReceiver_408 : decode cL_isReceiver 408 = .ok (.goto 4, 3) := by decide +kernel
theorem dL_isReceiver_411 : decode cL_isReceiver 411 = .ok (.iconst 0, 1) := by decide +kernel
theorem dL_isReceiver_412 : decode cL_isReceiver 412 = .ok (.istore 5, 2) := by decide +kernel
theorem dL_isReceiver_414 : decode cL_isReceiver 414 = .ok (.iload 5, 2) := by decide +kernel
theorem dL_isReceiver_416 : decode cL_isReceiver 416 = .ok (.ifCond .eq 87, 3) := by decide +kernel
theorem dL_isReceiver_419 : decode cL_isReceiver 419 = .ok (.aload_n 0, 1) := by decide +kernel
theorem dL_isReceiver_420 : decode cL_isReceiver 420 = .ok (.bipush 11, 2) := by decide +kernel
theorem dL_isReceiver_422 : decode cL_isReceiver 422 = .ok (.invokevirtual 9, 3) := by decide +kernel
theorem dL_isReceiver_425 : decode cL_isReceiver 425 = .ok (.aload_n 0, 1) := by decide +kernel
theorem dL_isReceiver_426 : decode cL_isReceiver 426 = .ok (.iconst 0, 1) := by decide +kernel
theorem dL_isReceiver_427 : decode cL_isReceiver 427 = .ok (.invokevirtual 9, 3) := by decide +kernel
theorem dL_isReceiver_430 : decode cL_isReceiver 430 = .ok (.if_icmp .ne 7, 3) := by decide +kernel
theorem dL_isReceiver_433 : decode cL_isReceiver 433 = .ok (.iconst 1, 1) := by decide +kernel
theorem dL_isReceiver_434 : decode cL_isReceiver 434 = .ok (.goto 4, 3) := by decide +kernel
theorem dL_isReceiver_437 : decode cL_isReceiver 437 = .ok (.iconst 0, 1) := by decide +kernel
theorem dL_isReceiver_438 : decode cL_isReceiver 438 = .ok (.iload_n 2, 1) := by decide +kernel
theorem dL_isReceiver_439 : decode cL_isReceiver 439 = .ok (.aload_n 0, 1) := by decide +kernel
theorem dL_isReceiver_440 : decode cL_isReceiver 440 = .ok (.iconst 0, 1) := by decide +kernel
theorem dL_isReceiver_441 : decode cL_isReceiver 441 = .ok (.invokevirtual 9, 3) := by decide +kernel
theorem dL_isReceiver_444 : decode cL_isReceiver 444 = .ok (.if_icmp .ne 7, 3) := by decide +kernel
theorem dL_isReceiver_447 : decode cL_isReceiver 447 = .ok (.iconst 1, 1) := by decide +kernel
theorem dL_isReceiver_448 : decode cL_isReceiver 448 = .ok (.goto 4, 3) := by decide +kernel
theorem dL_isReceiver_451 : decode cL_isReceiver 451 = .ok (.iconst 0, 1) := by decide +kernel
theorem dL_isReceiver_452 : decode cL_isReceiver 452 = .ok (.if_icmp .ne 51, 3) := by decide +kernel
theorem dL_isReceiver_455 : decode cL_isReceiver 455 = .ok (.iload_n 1, 1) := by decide +kernel
theorem dL_isReceiver_456 : decode cL_isReceiver 456 = .ok (.iload_n 2, 1) := by decide +kernel
theorem dL_isReceiver_457 : decode cL_isReceiver 457 = .ok (.if_icmp .gt 46, 3) := by decide +kernel
theorem dL_isReceiver_460 : decode cL_isReceiver 460 = .ok (.aload_n 0, 1) := by decide +kernel
theorem dL_isReceiver_461 : decode cL_isReceiver 461 = .ok (.bipush 8, 2) := by decide +kernel
theorem dL_isReceiver_463 : decode cL_isReceiver 463 = .ok (.invokevirtual 9, 3) := by decide +kernel
theorem dL_isReceiver_466 : decode cL_isReceiver 466 = .ok (.ifCond .lt 37, 3) := by decide +kernel
theorem dL_isReceiver_469 : decode cL_isReceiver 469 = .ok (.aload_n 0, 1) := by decide +kernel
theorem dL_isReceiver_470 : decode cL_isReceiver 470 = .ok (.bipush 11, 2) := by decide +kernel
theorem dL_isReceiver_472 : decode cL_isReceiver 472 = .ok (.invokevirtual 9, 3) := by decide +kernel
theorem dL_isReceiver_475 : decode cL_isReceiver 475 = .ok (.ifCond .ne 15, 3) := by decide +kernel
theorem dL_isReceiver_478 : decode cL_isReceiver 478 = .ok (.aload_n 0, 1) := by decide +kernel
theorem dL_isReceiver_479 : decode cL_isReceiver 479 = .ok (.invokevirtual 75, 3) := by decide +kernel
theorem dL_isReceiver_482 : decode cL_isReceiver 482 = .ok (.fconst 0, 1) := by decide +kernel
theorem dL_isReceiver_483 : decode cL_isReceiver 483 = .ok (.fcmp .l, 1) := by decide +kernel
theorem dL_isReceiver_484 : decode cL_isReceiver 484 = .ok (.ifCond .ne 19, 3) := by decide +kernel
theorem dL_isReceiver_487 : decode cL_isReceiver 487 = .ok (.goto 12, 3) := by decide +kernel
theorem dL_isReceiver_490 : decode cL_isReceiver 490 = .ok (.aload_n 0, 1) := by decide +kernel
theorem dL_isReceiver_491 : decode cL_isReceiver 491 = .ok (.invokevirtual 75, 3) := by decide +kernel
theorem dL_isReceiver_494 : decode cL_isReceiver 494 = .ok (.fconst 1, 1) := by decide +kernel
theorem dL_isReceiver_495 : decode cL_isReceiver 495 = .ok (.fcmp .l, 1) := by decide +kernel
theorem dL_isReceiver_496 : decode cL_isReceiver 496 = .ok (.ifCond .lt 7, 3) := by decide +kernel
theorem dL_isReceiver_499 : decode cL_isReceiver 499 = .ok (.iconst 1, 1) := by decide +kernel
theorem dL_isReceiver_500 : decode cL_isReceiver 500 = .ok (.goto 4, 3) := by decide +kernel
theorem dL_isReceiver_503 : decode cL_isReceiver 503 = .ok (.iconst 0, 1) := by decide +kernel
theorem dL_isReceiver_504 : decode cL_isReceiver 504 = .ok (.ireturn, 1) := by decide +kernel
theorem dL_isForetold_0 : decode cL_isForetold 0 = .ok (.aload_n 0, 1) := by decide +kernel
theorem dL_isForetold_1 : decode cL_isForetold 1 = .ok (.iload_n 1, 1) := by decide +kernel
theorem dL_isForetold_2 : decode cL_isForetold 2 = .ok (.invokevirtual 79, 3) := by decide +kernel
theorem dL_isForetold_5 : decode cL_isForetold 5 = .ok (.istore_n 2, 1) := by decide +kernel
theorem dL_isForetold_6 : decode cL_isForetold 6 = .ok (.iload_n 1, 1) := by decide +kernel
theorem dL_isForetold_7 : decode cL_isForetold 7 = .ok (.ifCond .ne 8, 3) := by decide +kernel
theorem dL_isForetold_10 : decode cL_isForetold 10 = .ok (.bipush 12, 2) := by decide +kernel
theorem dL_isForetold_12 : decode cL_isForetold 12 = .ok (.goto 5, 3) := by decide +kernel
theorem dL_isForetold_15 : decode cL_isForetold 15 = .ok (.bipush 11, 2) := by decide +kernel
theorem dL_isForetold_17 : decode cL_isForetold 17 = .ok (.istore_n 3, 1) := by decide +kernel
theorem dL_isForetold_18 : decode cL_isForetold 18 = .ok (.iload_n 2, 1) := by decide +kernel
theorem dL_isForetold_19 : decode cL_isForetold 19 = .ok (.ifCond .lt 9, 3) := by decide +kernel
theorem dL_isForetold_22 : decode cL_isForetold 22 = .ok (.iload_n 2, 1) := by decide +kernel
theorem dL_isForetold_23 : decode cL_isForetold 23 = .ok (.bipush 100, 2) := by decide +kernel
theorem dL_isForetold_25 : decode cL_isForetold 25 = .ok (.if_icmp .le 22, 3) := by decide +kernel
theorem dL_isForetold_28 : decode cL_isForetold 28 = .ok (.iload_n 2, 1) := by decide +kernel
theorem dL_isForetold_29 : decode cL_isForetold 29 = .ok (.bipush (-9), 2) := by decide +kernel
theorem dL_isForetold_31 : decode cL_isForetold 31 = .ok (.if_icmp .eq 10, 3) := by decide +kernel
theorem dL_isForetold_34 : decode cL_isForetold 34 = .ok (.iload_n 2, 1) := by decide +kernel
theorem dL_isForetold_35 : decode cL_isForetold 35 = .ok (.sipush 300, 3) := by decide +kernel
theorem dL_isForetold_38 : decode cL_isForetold 38 = .ok (.if_icmp .gt 7, 3) := by decide +kernel
theorem dL_isForetold_41 : decode cL_isForetold 41 = .ok (.iconst 1, 1) := by decide +kernel
theorem dL_isForetold_42 : decode cL_isForetold 42 = .ok (.goto 4, 3) := by decide +kernel
theorem dL_isForetold_45 : decode cL_isForetold 45 = .ok (.iconst 0, 1) := by decide +kernel
theorem dL_isForetold_46 : decode cL_isForetold 46 = .ok (.ireturn, 1) := by decide +kernel
theorem dL_isForetold_47 : decode cL_isForetold 47 = .ok (.iload_n 2, 1) := by decide +kernel
theorem dL_isForetold_48 : decode cL_isForetold 48 = .ok (.ifCond .ne 22, 3) := by decide +kernel
theorem dL_isForetold_51 : decode cL_isForetold 51 = .ok (.aload_n 0, 1) := by decide +kernel
theorem dL_isForetold_52 : decode cL_isForetold 52 = .ok (.iload_n 3, 1) := by decide +kernel
theorem dL_isForetold_53 : decode cL_isForetold 53 = .ok (.invokevirtual 9, 3) := by decide +kernel
theorem dL_isForetold_56 : decode cL_isForetold 56 = .ok (.aload_n 0, 1) := by decide +kernel
theorem dL_isForetold_57 : decode cL_isForetold 57 = .ok (.iconst 0, 1) := by decide +kernel
theorem dL_isForetold_58 : decode cL_isForetold 58 = .ok (.invokevirtual 9, 3) := by decide +kernel
theorem dL_isForetold_61 : decode cL_isForetold 61 = .ok (.if_icmp .ne 7, 3) := by decide +kernel
theorem dL_isForetold_64 : decode cL_isForetold 64 = .ok (.iconst 1, 1) := by decide +kernel
theorem dL_isForetold_65 : decode cL_isForetold 65 = .ok (.goto 4, 3) := by decide +kernel
theorem dL_isForetold_68 : decode cL_isForetold 68 = .ok (.iconst 0, 1) := by decide +kernel
theorem dL_isForetold_69 : decode cL_isForetold 69 = .ok (.ireturn, 1) := by decide +kernel
theorem dL_isForetold_70 : decode cL_isForetold 70 = .ok (.iconst 1, 1) := by decide +kernel
theorem dL_isForetold_71 : decode cL_isForetold 71 = .ok (.istore 4, 2) := by decide +kernel
theorem dL_isForetold_73 : decode cL_isForetold 73 = .ok (.iload_n 2, 1) := by decide +kernel
theorem dL_isForetold_74 : decode cL_isForetold 74 = .ok (.iconst 1, 1) := by decide +kernel
theorem dL_isForetold_75 : decode cL_isForetold 75 = .ok (.if_icmp .le 39, 3) := by decide +kernel
theorem dL_isForetold_78 : decode cL_isForetold 78 = .ok (.aload_n 0, 1) := by decide +kernel
theorem dL_isForetold_79 : decode cL_isForetold 79 = .ok (.iload_n 2, 1) := by decide +kernel
theorem dL_isForetold_80 : decode cL_isForetold 80 = .ok (.iconst 1, 1) := by decide +kernel
theorem dL_isForetold_81 : decode cL_isForetold 81 = .ok (.isub, 1) := by decide +kernel
theorem dL_isForetold_82 : decode cL_isForetold 82 = .ok (.invokevirtual 49, 3) := by decide +kernel
theorem dL_isForetold_85 : decode cL_isForetold 85 = .ok (.istore 5, 2) := by decide +kernel
theorem dL_isForetold_87 : decode cL_isForetold 87 = .ok (.aload_n 0, 1) := by decide +kernel
theorem dL_isForetold_88 : decode cL_isForetold 88 = .ok (.iload_n 3, 1) := by decide +kernel
theorem dL_isForetold_89 : decode cL_isForetold 89 = .ok (.invokevirtual 9, 3) := by decide +kernel
theorem dL_isForetold_92 : decode cL_isForetold 92 = .ok (.aload_n 0, 1) := by decide +kernel
theorem dL_isForetold_93 : decode cL_isForetold 93 = .ok (.iconst 0, 1) := by decide +kernel
theorem dL_isForetold_94 : decode cL_isForetold 94 = .ok (.invokevirtual 9, 3) := by decide +kernel
theorem dL_isForetold_97 : decode cL_isForetold 97 = .ok (.if_icmp .ge 14, 3) := by decide +kernel
theorem dL_isForetold_100 : decode cL_isForetold 100 = .ok (.aload_n 0, 1) := by decide +kernel
theorem dL_isForetold_101 : decode cL_isForetold 101 = .ok (.invokevirtual 39, 3) := by decide +kernel
theorem dL_isForetold_104 : decode cL_isForetold 104 = .ok (.ifCond .lt 7, 3) := by decide +kernel
theorem dL_isForetold_107 : decode cL_isForetold 107 = .ok (.iconst 1, 1) := by decide +kernel
theorem dL_isForetold_108 : decode cL_isForetold 108 = .ok (.goto 4, 3) := by decide +kernel
theorem dL_isForetold_111 : decode cL_isForetold 111 = .ok (.iconst 0, 1) := by decide +kernel
theorem dL_isForetold_112 : decode cL_isForetold 112 = .ok (.istore 4, 2) := by decide +kernel
theorem dL_isForetold_114 : decode cL_isForetold 114 = .ok (.aload_n 0, 1) := by decide +kernel
theorem dL_isForetold_115 : decode cL_isForetold 115 = .ok (.iload_n 2, 1) := by decide +kernel
theorem dL_isForetold_116 : decode cL_isForetold 116 = .ok (.invokevirtual 49, 3) := by decide +kernel
theorem dL_isForetold_119 : decode cL_isForetold 119 = .ok (.istore 5, 2) := by decide +kernel
theorem dL_isForetold_121 : decode cL_isForetold 121 = .ok (.iload 4, 2) := by decide +kernel
theorem dL_isForetold_123 : decode cL_isForetold 123 = .ok (.ifCond .eq 37, 3) := by decide +kernel
theorem dL_isForetold_126 : decode cL_isForetold 126 = .ok (.aload_n 0, 1) := by decide +kernel
theorem dL_isForetold_127 : decode cL_isForetold 127 = .ok (.iload_n 3, 1) := by decide +kernel
theorem dL_isForetold_128 : decode cL_isForetold 128 = .ok (.invokevirtual 9, 3) := by decide +kernel
theorem dL_isForetold_131 : decode cL_isForetold 131 = .ok (.aload_n 0, 1) := by decide +kernel
theorem dL_isForetold_132 : decode cL_isForetold 132 = .ok (.iconst 0, 1) := by decide +kernel
theorem dL_isForetold_133 : decode cL_isForetold 133 = .ok (.invokevirtual 9, 3) := by decide +kernel
theorem dL_isForetold_136 : decode cL_isForetold 136 = .ok (.if_icmp .ne 24, 3) := by decide +kernel
theorem dL_isForetold_139 : decode cL_isForetold 139 = .ok (.aload_n 0, 1) := by decide +kernel
theorem dL_isForetold_140 : decode cL_isForetold 140 = .ok (.invokevirtual 39, 3) := by decide +kernel
theorem dL_isForetold_143 : decode cL_isForetold 143 = .ok (.ifCond .lt 17, 3) := by decide +kernel
theorem dL_isForetold_146 : decode cL_isForetold 146 = .ok (.iload 5, 2) := by decide +kernel
theorem dL_isForetold_148 : decode cL_isForetold 148 = .ok (.aload_n 0, 1) := by decide +kernel
theorem dL_isForetold_149 : decode cL_isForetold 149 = .ok (.iconst 0, 1) := by decide +kernel
theorem dL_isForetold_150 : decode cL_isForetold 150 = .ok (.invokevirtual 9, 3) := by decide +kernel
theorem dL_isForetold_153 : decode cL_isForetold 153 = .ok (.if_icmp .gt 7, 3) := by decide +kernel
theorem dL_isForetold_156 : decode cL_isForetold 156 = .ok (.iconst 1, 1) := by decide +kernel
theorem dL_isForetold_157 : decode cL_isForetold 157 = .ok (.goto 4, 3) := by decide +kernel
theorem dL_isForetold_160 : decode cL_isForetold 160 = .ok (.iconst 0, 1) := by decide +kernel
theorem dL_isForetold_161 : decode cL_isForetold 161 = .ok (.ireturn, 1) := by decide +kernel
theorem dL_areAlike_0 : decode cL_areAlike 0 = .ok (.iconst 1, 1) := by decide +kernel
theorem dL_areAlike_1 : decode cL_areAlike 1 = .ok (.istore_n 2, 1) := by decide +kernel
theorem dL_areAlike_2 : decode cL_areAlike 2 = .ok (.iconst 0, 1) := by decide +kernel
theorem dL_areAlike_3 : decode cL_areAlike 3 = .ok (.istore_n 3, 1) := by decide +kernel
theorem dL_areAlike_4 : decode cL_areAlike 4 = .ok (.iload_n 3, 1) := by decide +kernel
theorem dL_areAlike_5 : decode cL_areAlike 5 = .ok (.bipush 16, 2) := by decide +kernel
theorem dL_areAlike_7 : decode cL_areAlike 7 = .ok (.if_icmp .ge 32, 3) := by decide +kernel
theorem dL_areAlike_10 : decode cL_areAlike 10 = .ok (.iload_n 2, 1) := by decide +kernel
theorem dL_areAlike_11 : decode cL_areAlike 11 = .ok (.ifCond .eq 20, 3) := by decide +kernel
theorem dL_areAlike_14 : decode cL_areAlike 14 = .ok (.aload_n 0, 1) := by decide +kernel
theorem dL_areAlike_15 : decode cL_areAlike 15 = .ok (.iload_n 3, 1) := by decide +kernel
theorem dL_areAlike_16 : decode cL_areAlike 16 = .ok (.invokevirtual 9, 3) := by decide +kernel
theorem dL_areAlike_19 : decode cL_areAlike 19 = .ok (.aload_n 1, 1) := by decide +kernel
theorem dL_areAlike_20 : decode cL_areAlike 20 = .ok (.iload_n 3, 1) := by decide +kernel
theorem dL_areAlike_21 : decode cL_areAlike 21 = .ok (.invokevirtual 9, 3) := by decide +kernel
theorem dL_areAlike_24 : decode cL_areAlike 24 = .ok (.if_icmp .ne 7, 3) := by decide +kernel
theorem dL_areAlike_27 : decode cL_areAlike 27 = .ok (.iconst 1, 1) := by decide +kernel
theorem dL_areAlike_28 : decode cL_areAlike 28 = .ok (.goto 4, 3) := by decide +kernel
theorem dL_areAlike_31 : decode cL_areAlike 31 = .ok (.iconst 0, 1) := by decide +kernel
theorem dL_areAlike_32 : decode cL_areAlike 32 = .ok (.istore_n 2, 1) := by decide +kernel
theorem dL_areAlike_33 : decode cL_areAlike 33 = .ok (.iinc 3 1, 3) := by decide +kernel
theorem dL_areAlike_36 : decode cL_areAlike 36 = .ok (.goto (-32), 3) := by decide +kernel
theorem dL_areAlike_39 : decode cL_areAlike 39 = .ok (.iconst 1, 1) := by decide +kernel
theorem dL_areAlike_40 : decode cL_areAlike 40 = .ok (.istore_n 3, 1) := by decide +kernel
theorem dL_areAlike_41 : decode cL_areAlike 41 = .ok (.iload_n 3, 1) := by decide +kernel
theorem dL_areAlike_42 : decode cL_areAlike 42 = .ok (.aload_n 0, 1) := by decide +kernel
theorem dL_areAlike_43 : decode cL_areAlike 43 = .ok (.iconst 1, 1) := by decide +kernel
theorem dL_areAlike_44 : decode cL_areAlike 44 = .ok (.invokevirtual 9, 3) := by decide +kernel
theorem dL_areAlike_47 : decode cL_areAlike 47 = .ok (.iconst 1, 1) := by decide +kernel
theorem dL_areAlike_48 : decode cL_areAlike 48 = .ok (.iadd, 1) := by decide +kernel
theorem dL_areAlike_49 : decode cL_areAlike 49 = .ok (.if_icmp .gt 58, 3) := by decide +kernel
theorem dL_areAlike_52 : decode cL_areAlike 52 = .ok (.iconst 0, 1) := by decide +kernel
theorem dL_areAlike_53 : decode cL_areAlike 53 = .ok (.istore 4, 2) := by decide +kernel
theorem dL_areAlike_55 : decode cL_areAlike 55 = .ok (.iload 4, 2) := by decide +kernel
theorem dL_areAlike_57 : decode cL_areAlike 57 = .ok (.aload_n 0, 1) := by decide +kernel
theorem dL_areAlike_58 : decode cL_areAlike 58 = .ok (.iload_n 3, 1) := by decide +kernel
theorem dL_areAlike_59 : decode cL_areAlike 59 = .ok (.iconst 0, 1) := by decide +kernel
theorem dL_areAlike_60 : decode cL_areAlike 60 = .ok (.invokevirtual 55, 3) := by decide +kernel
theorem dL_areAlike_63 : decode cL_areAlike 63 = .ok (.if_icmp .ge 38, 3) := by decide +kernel
theorem dL_areAlike_66 : decode cL_areAlike 66 = .ok (.iload_n 2, 1) := by decide +kernel
theorem dL_areAlike_67 : decode cL_areAlike 67 = .ok (.ifCond .eq 26, 3) := by decide +kernel
theorem dL_areAlike_70 : decode cL_areAlike 70 = .ok (.aload_n 0, 1) := by decide +kernel
theorem dL_areAlike_71 : decode cL_areAlike 71 = .ok (.iload_n 3, 1) := by decide +kernel
theorem dL_areAlike_72 : decode cL_areAlike 72 = .ok (.iload 4, 2) := by decide +kernel
theorem dL_areAlike_74 : decode cL_areAlike 74 = .ok (.iconst 0, 1) := by decide +kernel
theorem dL_areAlike_75 : decode cL_areAlike 75 = .ok (.invokevirtual 58, 3) := by decide +kernel
theorem dL_areAlike_78 : decode cL_areAlike 78 = .ok (.aload_n 1, 1) := by decide +kernel
theorem dL_areAlike_79 : decode cL_areAlike 79 = .ok (.iload_n 3, 1) := by decide +kernel
theorem dL_areAlike_80 : decode cL_areAlike 80 = .ok (.iload 4, 2) := by decide +kernel
theorem dL_areAlike_82 : decode cL_areAlike 82 = .ok (.iconst 0, 1) := by decide +kernel
theorem dL_areAlike_83 : decode cL_areAlike 83 = .ok (.invokevirtual 58, 3) := by decide +kernel
theorem dL_areAlike_86 : decode cL_areAlike 86 = .ok (.if_icmp .ne 7, 3) := by decide +kernel
theorem dL_areAlike_89 : decode cL_areAlike 89 = .ok (.iconst 1, 1) := by decide +kernel
theorem dL_areAlike_90 : decode cL_areAlike 90 = .ok (.goto 4, 3) := by decide +kernel
theorem dL_areAlike_93 : decode cL_areAlike 93 = .ok (.iconst 0, 1) := by decide +kernel
theorem dL_areAlike_94 : decode cL_areAlike 94 = .ok (.istore_n 2, 1) := by decide +kernel
theorem dL_areAlike_95 : decode cL_areAlike 95 = .ok (.iinc 4 1, 3) := by decide +kernel
theorem dL_areAlike_98 : decode cL_areAlike 98 = .ok (.goto (-43), 3) := by decide +kernel
theorem dL_areAlike_101 : decode cL_areAlike 101 = .ok (.iinc 3 1, 3) := by decide +kernel
theorem dL_areAlike_104 : decode cL_areAlike 104 = .ok (.goto (-63), 3) := by decide +kernel
theorem dL_areAlike_107 : decode cL_areAlike 107 = .ok (.iload_n 2, 1) := by decide +kernel
theorem dL_areAlike_108 : decode cL_areAlike 108 = .ok (.ireturn, 1) := by decide +kernel
theorem dL_law_0 : decode cL_law 0 = .ok (.new 10, 3) := by decide +kernel
theorem dL_law_3 : decode cL_law 3 = .ok (.dup, 1) := by decide +kernel
theorem dL_law_4 : decode cL_law 4 = .ok (.invokespecial 82, 3) := by decide +kernel
theorem dL_law_7 : decode cL_law 7 = .ok (.astore_n 1, 1) := by decide +kernel
theorem dL_law_8 : decode cL_law 8 = .ok (.new 10, 3) := by decide +kernel
theorem dL_law_11 : decode cL_law 11 = .ok (.dup, 1) := by decide +kernel
theorem dL_law_12 : decode cL_law 12 = .ok (.invokespecial 82, 3) := by decide +kernel
theorem dL_law_15 : decode cL_law 15 = .ok (.astore_n 2, 1) := by decide +kernel
theorem dL_law_16 : decode cL_law 16 = .ok (.iconst 0, 1) := by decide +kernel
theorem dL_law_17 : decode cL_law 17 = .ok (.istore_n 3, 1) := by decide +kernel
theorem dL_law_18 : decode cL_law 18 = .ok (.iload_n 3, 1) := by decide +kernel
theorem dL_law_19 : decode cL_law 19 = .ok (.bipush 24, 2) := by decide +kernel
theorem dL_law_21 : decode cL_law 21 = .ok (.if_icmp .ge 125, 3) := by decide +kernel
theorem dL_law_24 : decode cL_law 24 = .ok (.aload_n 0, 1) := by decide +kernel
theorem dL_law_25 : decode cL_law 25 = .ok (.iconst 2, 1) := by decide +kernel
theorem dL_law_26 : decode cL_law 26 = .ok (.iload_n 3, 1) := by decide +kernel
theorem dL_law_27 : decode cL_law 27 = .ok (.imul, 1) := by decide +kernel
theorem dL_law_28 : decode cL_law 28 = .ok (.invokestatic 83, 3) := by decide +kernel
theorem dL_law_31 : decode cL_law 31 = .ok (.istore 4, 2) := by decide +kernel
theorem dL_law_33 : decode cL_law 33 = .ok (.aload_n 0, 1) := by decide +kernel
theorem dL_law_34 : decode cL_law 34 = .ok (.iconst 2, 1) := by decide +kernel
theorem dL_law_35 : decode cL_law 35 = .ok (.iload_n 3, 1) := by decide +kernel
theorem dL_law_36 : decode cL_law 36 = .ok (.imul, 1) := by decide +kernel
theorem dL_law_37 : decode cL_law 37 = .ok (.iconst 1, 1) := by decide +kernel
theorem dL_law_38 : decode cL_law 38 = .ok (.iadd, 1) := by decide +kernel
theorem dL_law_39 : decode cL_law 39 = .ok (.invokestatic 83, 3) := by decide +kernel
theorem dL_law_42 : decode cL_law 42 = .ok (.istore 5, 2) := by decide +kernel
theorem dL_law_44 : decode cL_law 44 = .ok (.iload 4, 2) := by decide +kernel
theorem dL_law_46 : decode cL_law 46 = .ok (.bipush 18, 2) := by decide +kernel
theorem dL_law_48 : decode cL_law 48 = .ok (.invokestatic 15, 3) := by decide +kernel
theorem dL_law_51 : decode cL_law 51 = .ok (.bipush 10, 2) := by decide +kernel
theorem dL_law_53 : decode cL_law 53 = .ok (.if_icmp .eq 22, 3) := by decide +kernel
theorem dL_law_56 : decode cL_law 56 = .ok (.aload_n 1, 1) := by decide +kernel
theorem dL_law_57 : decode cL_law 57 = .ok (.iload 4, 2) := by decide +kernel
theorem dL_law_59 : decode cL_law 59 = .ok (.iload 5, 2) := by decide +kernel
theorem dL_law_61 : decode cL_law 61 = .ok (.invokestatic 87, 3) := by decide +kernel
theorem dL_law_64 : decode cL_law 64 = .ok (.aload_n 2, 1) := by decide +kernel
theorem dL_law_65 : decode cL_law 65 = .ok (.iload 4, 2) := by decide +kernel
theorem dL_law_67 : decode cL_law 67 = .ok (.iload 5, 2) := by decide +kernel
theorem dL_law_69 : decode cL_law 69 = .ok (.invokestatic 87, 3) := by decide +kernel
theorem dL_law_72 : decode cL_law 72 = .ok (.if_icmp .ne 10, 3) := by decide +kernel
theorem dL_law_75 : decode cL_law 75 = .ok (.aload_n 1, 1) := by decide +kernel
theorem dL_law_76 : decode cL_law 76 = .ok (.invokestatic 91, 3) := by decide +kernel
theorem dL_law_79 : decode cL_law 79 = .ok (.ifCond .ne 5, 3) := by decide +kernel
theorem dL_law_82 : decode cL_law 82 = .ok (.iconst 0, 1) := by decide +kernel
theorem dL_law_83 : decode cL_law 83 = .ok (.ireturn, 1) := by decide +kernel
theorem dL_law_84 : decode cL_law 84 = .ok (.iconst 1, 1) := by decide +kernel
theorem dL_law_85 : decode cL_law 85 = .ok (.istore 6, 2) := by decide +kernel
theorem dL_law_87 : decode cL_law 87 = .ok (.iload 6, 2) := by decide +kernel
theorem dL_law_89 : decode cL_law 89 = .ok (.aload_n 1, 1) := by decide +kernel
theorem dL_law_90 : decode cL_law 90 = .ok (.iconst 1, 1) := by decide +kernel
theorem dL_law_91 : decode cL_law 91 = .ok (.invokevirtual 9, 3) := by decide +kernel
theorem dL_law_94 : decode cL_law 94 = .ok (.iconst 1, 1) := by decide +kernel
theorem dL_law_95 : decode cL_law 95 = .ok (.iadd, 1) := by decide +kernel
theorem dL_law_96 : decode cL_law 96 = .ok (.if_icmp .gt 20, 3) := by decide +kernel
theorem dL_law_99 : decode cL_law 99 = .ok (.aload_n 1, 1) := by decide +kernel
theorem dL_law_100 : decode cL_law 100 = .ok (.iload 6, 2) := by decide +kernel
theorem dL_law_102 : decode cL_law 102 = .ok (.invokestatic 95, 3) := by decide +kernel
theorem dL_law_105 : decode cL_law 105 = .ok (.ifCond .ne 5, 3) := by decide +kernel
theorem dL_law_108 : decode cL_law 108 = .ok (.iconst 0, 1) := by decide +kernel
theorem dL_law_109 : decode cL_law 109 = .ok (.ireturn, 1) := by decide +kernel
theorem dL_law_110 : decode cL_law 110 = .ok (.iinc 6 1, 3) := by decide +kernel
theorem dL_law_113 : decode cL_law 113 = .ok (.goto (-26), 3) := by decide +kernel
theorem dL_law_116 : decode cL_law 116 = .ok (.iload_n 3, 1) := by decide +kernel
theorem dL_law_117 : decode cL_law 117 = .ok (.bipush 8, 2) := by decide +kernel
theorem dL_law_119 : decode cL_law 119 = .ok (.irem, 1) := by decide +kernel
theorem dL_law_120 : decode cL_law 120 = .ok (.bipush 7, 2) := by decide +kernel
theorem dL_law_122 : decode cL_law 122 = .ok (.if_icmp .ne 18, 3) := by decide +kernel
theorem dL_law_125 : decode cL_law 125 = .ok (.aload_n 1, 1) := by decide +kernel
theorem dL_law_126 : decode cL_law 126 = .ok (.iload 5, 2) := by decide +kernel
theorem dL_law_128 : decode cL_law 128 = .ok (.iconst 2, 1) := by decide +kernel
theorem dL_law_129 : decode cL_law 129 = .ok (.invokestatic 15, 3) := by decide +kernel
theorem dL_law_132 : decode cL_law 132 = .ok (.invokestatic 99, 3) := by decide +kernel
theorem dL_law_135 : decode cL_law 135 = .ok (.ifCond .ne 5, 3) := by decide +kernel
theorem dL_law_138 : decode cL_law 138 = .ok (.iconst 0, 1) := by decide +kernel
theorem dL_law_139 : decode cL_law 139 = .ok (.ireturn, 1) := by decide +kernel
theorem dL_law_140 : decode cL_law 140 = .ok (.iinc 3 1, 3) := by decide +kernel
theorem dL_law_143 : decode cL_law 143 = .ok (.goto (-125), 3) := by decide +kernel
theorem dL_law_146 : decode cL_law 146 = .ok (.aload_n 1, 1) := by decide +kernel
theorem dL_law_147 : decode cL_law 147 = .ok (.aload_n 2, 1) := by decide +kernel
theorem dL_law_148 : decode cL_law 148 = .ok (.invokestatic 102, 3) := by decide +kernel
theorem dL_law_151 : decode cL_law 151 = .ok (.ireturn, 1) := by decide +kernel
