/-! ===== printed by wip/p23/links.py: each instruction, decoded ===== -/
theorem D_Law_cell_0 : decode m_Law_cell.2.1 0 = .ok (.iload_n 1, 1) := by decide +kernel
theorem D_Law_cell_1 : decode m_Law_cell.2.1 1 = .ok (.aload_n 0, 1) := by decide +kernel
theorem D_Law_cell_2 : decode m_Law_cell.2.1 2 = .ok (.arraylength, 1) := by decide +kernel
theorem D_Law_cell_3 : decode m_Law_cell.2.1 3 = .ok (.if_icmp .ge 9, 3) := by decide +kernel
theorem D_Law_cell_6 : decode m_Law_cell.2.1 6 = .ok (.aload_n 0, 1) := by decide +kernel
theorem D_Law_cell_7 : decode m_Law_cell.2.1 7 = .ok (.iload_n 1, 1) := by decide +kernel
theorem D_Law_cell_8 : decode m_Law_cell.2.1 8 = .ok (.iaload, 1) := by decide +kernel
theorem D_Law_cell_9 : decode m_Law_cell.2.1 9 = .ok (.goto 10, 3) := by decide +kernel
theorem D_Law_cell_12 : decode m_Law_cell.2.1 12 = .ok (.ldc 7, 2) := by decide +kernel
theorem D_Law_cell_14 : decode m_Law_cell.2.1 14 = .ok (.iload_n 1, 1) := by decide +kernel
theorem D_Law_cell_15 : decode m_Law_cell.2.1 15 = .ok (.imul, 1) := by decide +kernel
theorem D_Law_cell_16 : decode m_Law_cell.2.1 16 = .ok (.ldc 8, 2) := by decide +kernel
theorem D_Law_cell_18 : decode m_Law_cell.2.1 18 = .ok (.iadd, 1) := by decide +kernel
theorem D_Law_cell_19 : decode m_Law_cell.2.1 19 = .ok (.ireturn, 1) := by decide +kernel
theorem D_Law_low_0 : decode m_Law_low.2.1 0 = .ok (.iload_n 0, 1) := by decide +kernel
theorem D_Law_low_1 : decode m_Law_low.2.1 1 = .ok (.ldc 9, 2) := by decide +kernel
theorem D_Law_low_3 : decode m_Law_low.2.1 3 = .ok (.iand, 1) := by decide +kernel
theorem D_Law_low_4 : decode m_Law_low.2.1 4 = .ok (.iload_n 1, 1) := by decide +kernel
theorem D_Law_low_5 : decode m_Law_low.2.1 5 = .ok (.irem, 1) := by decide +kernel
theorem D_Law_low_6 : decode m_Law_low.2.1 6 = .ok (.ireturn, 1) := by decide +kernel
theorem D_Law_build_0 : decode m_Law_build.2.1 0 = .ok (.aload_n 1, 1) := by decide +kernel
theorem D_Law_build_1 : decode m_Law_build.2.1 1 = .ok (.iconst 0, 1) := by decide +kernel
theorem D_Law_build_2 : decode m_Law_build.2.1 2 = .ok (.invokestatic 10, 3) := by decide +kernel
theorem D_Law_build_5 : decode m_Law_build.2.1 5 = .ok (.istore_n 2, 1) := by decide +kernel
theorem D_Law_build_6 : decode m_Law_build.2.1 6 = .ok (.iconst 2, 1) := by decide +kernel
theorem D_Law_build_7 : decode m_Law_build.2.1 7 = .ok (.iload_n 2, 1) := by decide +kernel
theorem D_Law_build_8 : decode m_Law_build.2.1 8 = .ok (.iconst 5, 1) := by decide +kernel
theorem D_Law_build_9 : decode m_Law_build.2.1 9 = .ok (.invokestatic 16, 3) := by decide +kernel
theorem D_Law_build_12 : decode m_Law_build.2.1 12 = .ok (.iadd, 1) := by decide +kernel
theorem D_Law_build_13 : decode m_Law_build.2.1 13 = .ok (.istore_n 3, 1) := by decide +kernel
theorem D_Law_build_14 : decode m_Law_build.2.1 14 = .ok (.iconst 2, 1) := by decide +kernel
theorem D_Law_build_15 : decode m_Law_build.2.1 15 = .ok (.iload_n 2, 1) := by decide +kernel
theorem D_Law_build_16 : decode m_Law_build.2.1 16 = .ok (.iconst 3, 1) := by decide +kernel
theorem D_Law_build_17 : decode m_Law_build.2.1 17 = .ok (.ishr, 1) := by decide +kernel
theorem D_Law_build_18 : decode m_Law_build.2.1 18 = .ok (.iconst 5, 1) := by decide +kernel
theorem D_Law_build_19 : decode m_Law_build.2.1 19 = .ok (.invokestatic 16, 3) := by decide +kernel
theorem D_Law_build_22 : decode m_Law_build.2.1 22 = .ok (.iadd, 1) := by decide +kernel
theorem D_Law_build_23 : decode m_Law_build.2.1 23 = .ok (.istore 4, 2) := by decide +kernel
theorem D_Law_build_25 : decode m_Law_build.2.1 25 = .ok (.iload_n 2, 1) := by decide +kernel
theorem D_Law_build_26 : decode m_Law_build.2.1 26 = .ok (.bipush 6, 2) := by decide +kernel
theorem D_Law_build_28 : decode m_Law_build.2.1 28 = .ok (.ishr, 1) := by decide +kernel
theorem D_Law_build_29 : decode m_Law_build.2.1 29 = .ok (.iconst 4, 1) := by decide +kernel
theorem D_Law_build_30 : decode m_Law_build.2.1 30 = .ok (.invokestatic 16, 3) := by decide +kernel
theorem D_Law_build_33 : decode m_Law_build.2.1 33 = .ok (.istore 5, 2) := by decide +kernel
theorem D_Law_build_35 : decode m_Law_build.2.1 35 = .ok (.iload 5, 2) := by decide +kernel
theorem D_Law_build_37 : decode m_Law_build.2.1 37 = .ok (.ifCond .ne 7, 3) := by decide +kernel
theorem D_Law_build_40 : decode m_Law_build.2.1 40 = .ok (.iconst 5, 1) := by decide +kernel
theorem D_Law_build_41 : decode m_Law_build.2.1 41 = .ok (.goto 27, 3) := by decide +kernel
theorem D_Law_build_44 : decode m_Law_build.2.1 44 = .ok (.iload 5, 2) := by decide +kernel
theorem D_Law_build_46 : decode m_Law_build.2.1 46 = .ok (.iconst 1, 1) := by decide +kernel
theorem D_Law_build_47 : decode m_Law_build.2.1 47 = .ok (.if_icmp .ne 8, 3) := by decide +kernel
theorem D_Law_build_50 : decode m_Law_build.2.1 50 = .ok (.bipush 7, 2) := by decide +kernel
theorem D_Law_build_52 : decode m_Law_build.2.1 52 = .ok (.goto 16, 3) := by decide +kernel
theorem D_Law_build_55 : decode m_Law_build.2.1 55 = .ok (.iload 5, 2) := by decide +kernel
theorem D_Law_build_57 : decode m_Law_build.2.1 57 = .ok (.iconst 2, 1) := by decide +kernel
theorem D_Law_build_58 : decode m_Law_build.2.1 58 = .ok (.if_icmp .ne 8, 3) := by decide +kernel
theorem D_Law_build_61 : decode m_Law_build.2.1 61 = .ok (.bipush 11, 2) := by decide +kernel
theorem D_Law_build_63 : decode m_Law_build.2.1 63 = .ok (.goto 5, 3) := by decide +kernel
theorem D_Law_build_66 : decode m_Law_build.2.1 66 = .ok (.bipush 13, 2) := by decide +kernel
theorem D_Law_build_68 : decode m_Law_build.2.1 68 = .ok (.istore 6, 2) := by decide +kernel
theorem D_Law_build_70 : decode m_Law_build.2.1 70 = .ok (.aload_n 0, 1) := by decide +kernel
theorem D_Law_build_71 : decode m_Law_build.2.1 71 = .ok (.iload_n 3, 1) := by decide +kernel
theorem D_Law_build_72 : decode m_Law_build.2.1 72 = .ok (.iload 4, 2) := by decide +kernel
theorem D_Law_build_74 : decode m_Law_build.2.1 74 = .ok (.iload 6, 2) := by decide +kernel
theorem D_Law_build_76 : decode m_Law_build.2.1 76 = .ok (.invokevirtual 20, 3) := by decide +kernel
theorem D_Law_build_79 : decode m_Law_build.2.1 79 = .ok (.ifCond .ne 57, 3) := by decide +kernel
theorem D_Law_build_82 : decode m_Law_build.2.1 82 = .ok (.aload_n 0, 1) := by decide +kernel
theorem D_Law_build_83 : decode m_Law_build.2.1 83 = .ok (.iconst 0, 1) := by decide +kernel
theorem D_Law_build_84 : decode m_Law_build.2.1 84 = .ok (.invokevirtual 26, 3) := by decide +kernel
theorem D_Law_build_87 : decode m_Law_build.2.1 87 = .ok (.iload_n 3, 1) := by decide +kernel
theorem D_Law_build_88 : decode m_Law_build.2.1 88 = .ok (.if_icmp .ne 48, 3) := by decide +kernel
theorem D_Law_build_91 : decode m_Law_build.2.1 91 = .ok (.aload_n 0, 1) := by decide +kernel
theorem D_Law_build_92 : decode m_Law_build.2.1 92 = .ok (.iconst 1, 1) := by decide +kernel
theorem D_Law_build_93 : decode m_Law_build.2.1 93 = .ok (.invokevirtual 26, 3) := by decide +kernel
theorem D_Law_build_96 : decode m_Law_build.2.1 96 = .ok (.iload 4, 2) := by decide +kernel
theorem D_Law_build_98 : decode m_Law_build.2.1 98 = .ok (.if_icmp .ne 38, 3) := by decide +kernel
theorem D_Law_build_101 : decode m_Law_build.2.1 101 = .ok (.aload_n 0, 1) := by decide +kernel
theorem D_Law_build_102 : decode m_Law_build.2.1 102 = .ok (.iconst 2, 1) := by decide +kernel
theorem D_Law_build_103 : decode m_Law_build.2.1 103 = .ok (.invokevirtual 26, 3) := by decide +kernel
theorem D_Law_build_106 : decode m_Law_build.2.1 106 = .ok (.iload 6, 2) := by decide +kernel
theorem D_Law_build_108 : decode m_Law_build.2.1 108 = .ok (.if_icmp .ne 28, 3) := by decide +kernel
theorem D_Law_build_111 : decode m_Law_build.2.1 111 = .ok (.aload_n 0, 1) := by decide +kernel
theorem D_Law_build_112 : decode m_Law_build.2.1 112 = .ok (.iconst 4, 1) := by decide +kernel
theorem D_Law_build_113 : decode m_Law_build.2.1 113 = .ok (.invokevirtual 26, 3) := by decide +kernel
theorem D_Law_build_116 : decode m_Law_build.2.1 116 = .ok (.iload_n 3, 1) := by decide +kernel
theorem D_Law_build_117 : decode m_Law_build.2.1 117 = .ok (.iload 4, 2) := by decide +kernel
theorem D_Law_build_119 : decode m_Law_build.2.1 119 = .ok (.iadd, 1) := by decide +kernel
theorem D_Law_build_120 : decode m_Law_build.2.1 120 = .ok (.if_icmp .ne 16, 3) := by decide +kernel
theorem D_Law_build_123 : decode m_Law_build.2.1 123 = .ok (.aload_n 0, 1) := by decide +kernel
theorem D_Law_build_124 : decode m_Law_build.2.1 124 = .ok (.bipush 6, 2) := by decide +kernel
theorem D_Law_build_126 : decode m_Law_build.2.1 126 = .ok (.invokevirtual 26, 3) := by decide +kernel
theorem D_Law_build_129 : decode m_Law_build.2.1 129 = .ok (.ifCond .ne 7, 3) := by decide +kernel
theorem D_Law_build_132 : decode m_Law_build.2.1 132 = .ok (.iconst 1, 1) := by decide +kernel
theorem D_Law_build_133 : decode m_Law_build.2.1 133 = .ok (.goto 4, 3) := by decide +kernel
theorem D_Law_build_136 : decode m_Law_build.2.1 136 = .ok (.iconst 0, 1) := by decide +kernel
theorem D_Law_build_137 : decode m_Law_build.2.1 137 = .ok (.istore 7, 2) := by decide +kernel
theorem D_Law_build_139 : decode m_Law_build.2.1 139 = .ok (.iconst 1, 1) := by decide +kernel
theorem D_Law_build_140 : decode m_Law_build.2.1 140 = .ok (.aload_n 1, 1) := by decide +kernel
theorem D_Law_build_141 : decode m_Law_build.2.1 141 = .ok (.iconst 1, 1) := by decide +kernel
theorem D_Law_build_142 : decode m_Law_build.2.1 142 = .ok (.invokestatic 10, 3) := by decide +kernel
theorem D_Law_build_145 : decode m_Law_build.2.1 145 = .ok (.iconst 4, 1) := by decide +kernel
theorem D_Law_build_146 : decode m_Law_build.2.1 146 = .ok (.invokestatic 16, 3) := by decide +kernel
theorem D_Law_build_149 : decode m_Law_build.2.1 149 = .ok (.iadd, 1) := by decide +kernel
theorem D_Law_build_150 : decode m_Law_build.2.1 150 = .ok (.istore 8, 2) := by decide +kernel
theorem D_Law_build_152 : decode m_Law_build.2.1 152 = .ok (.aload_n 1, 1) := by decide +kernel
theorem D_Law_build_153 : decode m_Law_build.2.1 153 = .ok (.iconst 2, 1) := by decide +kernel
theorem D_Law_build_154 : decode m_Law_build.2.1 154 = .ok (.invokestatic 10, 3) := by decide +kernel
theorem D_Law_build_157 : decode m_Law_build.2.1 157 = .ok (.iconst 3, 1) := by decide +kernel
theorem D_Law_build_158 : decode m_Law_build.2.1 158 = .ok (.invokestatic 16, 3) := by decide +kernel
theorem D_Law_build_161 : decode m_Law_build.2.1 161 = .ok (.ifCond .ne 8, 3) := by decide +kernel
theorem D_Law_build_164 : decode m_Law_build.2.1 164 = .ok (.bipush 12, 2) := by decide +kernel
theorem D_Law_build_166 : decode m_Law_build.2.1 166 = .ok (.goto 5, 3) := by decide +kernel
theorem D_Law_build_169 : decode m_Law_build.2.1 169 = .ok (.bipush 60, 2) := by decide +kernel
theorem D_Law_build_171 : decode m_Law_build.2.1 171 = .ok (.istore 9, 2) := by decide +kernel
theorem D_Law_build_173 : decode m_Law_build.2.1 173 = .ok (.iconst 0, 1) := by decide +kernel
theorem D_Law_build_174 : decode m_Law_build.2.1 174 = .ok (.istore 10, 2) := by decide +kernel
theorem D_Law_build_176 : decode m_Law_build.2.1 176 = .ok (.iconst 0, 1) := by decide +kernel
theorem D_Law_build_177 : decode m_Law_build.2.1 177 = .ok (.istore 11, 2) := by decide +kernel
theorem D_Law_build_179 : decode m_Law_build.2.1 179 = .ok (.iload 11, 2) := by decide +kernel
theorem D_Law_build_181 : decode m_Law_build.2.1 181 = .ok (.bipush 36, 2) := by decide +kernel
theorem D_Law_build_183 : decode m_Law_build.2.1 183 = .ok (.if_icmp .ge 162, 3) := by decide +kernel
theorem D_Law_build_186 : decode m_Law_build.2.1 186 = .ok (.iload 7, 2) := by decide +kernel
theorem D_Law_build_188 : decode m_Law_build.2.1 188 = .ok (.ifCond .eq 157, 3) := by decide +kernel
theorem D_Law_build_191 : decode m_Law_build.2.1 191 = .ok (.iload 11, 2) := by decide +kernel
theorem D_Law_build_193 : decode m_Law_build.2.1 193 = .ok (.bipush 6, 2) := by decide +kernel
theorem D_Law_build_195 : decode m_Law_build.2.1 195 = .ok (.idiv, 1) := by decide +kernel
theorem D_Law_build_196 : decode m_Law_build.2.1 196 = .ok (.istore 12, 2) := by decide +kernel
theorem D_Law_build_198 : decode m_Law_build.2.1 198 = .ok (.iload 11, 2) := by decide +kernel
theorem D_Law_build_200 : decode m_Law_build.2.1 200 = .ok (.bipush 6, 2) := by decide +kernel
theorem D_Law_build_202 : decode m_Law_build.2.1 202 = .ok (.irem, 1) := by decide +kernel
theorem D_Law_build_203 : decode m_Law_build.2.1 203 = .ok (.istore 13, 2) := by decide +kernel
theorem D_Law_build_205 : decode m_Law_build.2.1 205 = .ok (.aload_n 1, 1) := by decide +kernel
theorem D_Law_build_206 : decode m_Law_build.2.1 206 = .ok (.iconst 4, 1) := by decide +kernel
theorem D_Law_build_207 : decode m_Law_build.2.1 207 = .ok (.iload 11, 2) := by decide +kernel
theorem D_Law_build_209 : decode m_Law_build.2.1 209 = .ok (.iadd, 1) := by decide +kernel
theorem D_Law_build_210 : decode m_Law_build.2.1 210 = .ok (.invokestatic 10, 3) := by decide +kernel
theorem D_Law_build_213 : decode m_Law_build.2.1 213 = .ok (.istore 14, 2) := by decide +kernel
theorem D_Law_build_215 : decode m_Law_build.2.1 215 = .ok (.iload 12, 2) := by decide +kernel
theorem D_Law_build_217 : decode m_Law_build.2.1 217 = .ok (.iload_n 3, 1) := by decide +kernel
theorem D_Law_build_218 : decode m_Law_build.2.1 218 = .ok (.if_icmp .ge 121, 3) := by decide +kernel
theorem D_Law_build_221 : decode m_Law_build.2.1 221 = .ok (.iload 13, 2) := by decide +kernel
theorem D_Law_build_223 : decode m_Law_build.2.1 223 = .ok (.iload 4, 2) := by decide +kernel
theorem D_Law_build_225 : decode m_Law_build.2.1 225 = .ok (.if_icmp .ge 114, 3) := by decide +kernel
theorem D_Law_build_228 : decode m_Law_build.2.1 228 = .ok (.iload 14, 2) := by decide +kernel
theorem D_Law_build_230 : decode m_Law_build.2.1 230 = .ok (.iconst 5, 1) := by decide +kernel
theorem D_Law_build_231 : decode m_Law_build.2.1 231 = .ok (.invokestatic 16, 3) := by decide +kernel
theorem D_Law_build_234 : decode m_Law_build.2.1 234 = .ok (.iload 8, 2) := by decide +kernel
theorem D_Law_build_236 : decode m_Law_build.2.1 236 = .ok (.if_icmp .ge 103, 3) := by decide +kernel
theorem D_Law_build_239 : decode m_Law_build.2.1 239 = .ok (.iload 12, 2) := by decide +kernel
theorem D_Law_build_241 : decode m_Law_build.2.1 241 = .ok (.iload 12, 2) := by decide +kernel
theorem D_Law_build_243 : decode m_Law_build.2.1 243 = .ok (.imul, 1) := by decide +kernel
theorem D_Law_build_244 : decode m_Law_build.2.1 244 = .ok (.iconst 1, 1) := by decide +kernel
theorem D_Law_build_245 : decode m_Law_build.2.1 245 = .ok (.iadd, 1) := by decide +kernel
theorem D_Law_build_246 : decode m_Law_build.2.1 246 = .ok (.iload 6, 2) := by decide +kernel
theorem D_Law_build_248 : decode m_Law_build.2.1 248 = .ok (.irem, 1) := by decide +kernel
theorem D_Law_build_249 : decode m_Law_build.2.1 249 = .ok (.iconst 2, 1) := by decide +kernel
theorem D_Law_build_250 : decode m_Law_build.2.1 250 = .ok (.iload 13, 2) := by decide +kernel
theorem D_Law_build_252 : decode m_Law_build.2.1 252 = .ok (.imul, 1) := by decide +kernel
theorem D_Law_build_253 : decode m_Law_build.2.1 253 = .ok (.iconst 1, 1) := by decide +kernel
theorem D_Law_build_254 : decode m_Law_build.2.1 254 = .ok (.iadd, 1) := by decide +kernel
theorem D_Law_build_255 : decode m_Law_build.2.1 255 = .ok (.iload 6, 2) := by decide +kernel
theorem D_Law_build_257 : decode m_Law_build.2.1 257 = .ok (.irem, 1) := by decide +kernel
theorem D_Law_build_258 : decode m_Law_build.2.1 258 = .ok (.imul, 1) := by decide +kernel
theorem D_Law_build_259 : decode m_Law_build.2.1 259 = .ok (.iload 6, 2) := by decide +kernel
theorem D_Law_build_261 : decode m_Law_build.2.1 261 = .ok (.irem, 1) := by decide +kernel
theorem D_Law_build_262 : decode m_Law_build.2.1 262 = .ok (.istore 15, 2) := by decide +kernel
theorem D_Law_build_264 : decode m_Law_build.2.1 264 = .ok (.iload 15, 2) := by decide +kernel
theorem D_Law_build_266 : decode m_Law_build.2.1 266 = .ok (.ifCond .eq 15, 3) := by decide +kernel
theorem D_Law_build_269 : decode m_Law_build.2.1 269 = .ok (.iload 14, 2) := by decide +kernel
theorem D_Law_build_271 : decode m_Law_build.2.1 271 = .ok (.iconst 4, 1) := by decide +kernel
theorem D_Law_build_272 : decode m_Law_build.2.1 272 = .ok (.ishr, 1) := by decide +kernel
theorem D_Law_build_273 : decode m_Law_build.2.1 273 = .ok (.iload 9, 2) := by decide +kernel
theorem D_Law_build_275 : decode m_Law_build.2.1 275 = .ok (.invokestatic 16, 3) := by decide +kernel
theorem D_Law_build_278 : decode m_Law_build.2.1 278 = .ok (.ifCond .ne 20, 3) := by decide +kernel
theorem D_Law_build_281 : decode m_Law_build.2.1 281 = .ok (.iconst 1, 1) := by decide +kernel
theorem D_Law_build_282 : decode m_Law_build.2.1 282 = .ok (.iload 14, 2) := by decide +kernel
theorem D_Law_build_284 : decode m_Law_build.2.1 284 = .ok (.bipush 10, 2) := by decide +kernel
theorem D_Law_build_286 : decode m_Law_build.2.1 286 = .ok (.ishr, 1) := by decide +kernel
theorem D_Law_build_287 : decode m_Law_build.2.1 287 = .ok (.iload 6, 2) := by decide +kernel
theorem D_Law_build_289 : decode m_Law_build.2.1 289 = .ok (.iconst 1, 1) := by decide +kernel
theorem D_Law_build_290 : decode m_Law_build.2.1 290 = .ok (.isub, 1) := by decide +kernel
theorem D_Law_build_291 : decode m_Law_build.2.1 291 = .ok (.invokestatic 16, 3) := by decide +kernel
theorem D_Law_build_294 : decode m_Law_build.2.1 294 = .ok (.iadd, 1) := by decide +kernel
theorem D_Law_build_295 : decode m_Law_build.2.1 295 = .ok (.goto 5, 3) := by decide +kernel
theorem D_Law_build_298 : decode m_Law_build.2.1 298 = .ok (.iload 15, 2) := by decide +kernel
theorem D_Law_build_300 : decode m_Law_build.2.1 300 = .ok (.istore 15, 2) := by decide +kernel
theorem D_Law_build_302 : decode m_Law_build.2.1 302 = .ok (.aload_n 0, 1) := by decide +kernel
theorem D_Law_build_303 : decode m_Law_build.2.1 303 = .ok (.iload 12, 2) := by decide +kernel
theorem D_Law_build_305 : decode m_Law_build.2.1 305 = .ok (.iload 13, 2) := by decide +kernel
theorem D_Law_build_307 : decode m_Law_build.2.1 307 = .ok (.iload 15, 2) := by decide +kernel
theorem D_Law_build_309 : decode m_Law_build.2.1 309 = .ok (.invokevirtual 30, 3) := by decide +kernel
theorem D_Law_build_312 : decode m_Law_build.2.1 312 = .ok (.ifCond .ne 21, 3) := by decide +kernel
theorem D_Law_build_315 : decode m_Law_build.2.1 315 = .ok (.aload_n 0, 1) := by decide +kernel
theorem D_Law_build_316 : decode m_Law_build.2.1 316 = .ok (.iload 12, 2) := by decide +kernel
theorem D_Law_build_318 : decode m_Law_build.2.1 318 = .ok (.iload 13, 2) := by decide +kernel
theorem D_Law_build_320 : decode m_Law_build.2.1 320 = .ok (.iconst 0, 1) := by decide +kernel
theorem D_Law_build_321 : decode m_Law_build.2.1 321 = .ok (.invokevirtual 33, 3) := by decide +kernel
theorem D_Law_build_324 : decode m_Law_build.2.1 324 = .ok (.iload 15, 2) := by decide +kernel
theorem D_Law_build_326 : decode m_Law_build.2.1 326 = .ok (.if_icmp .ne 7, 3) := by decide +kernel
theorem D_Law_build_329 : decode m_Law_build.2.1 329 = .ok (.iconst 1, 1) := by decide +kernel
theorem D_Law_build_330 : decode m_Law_build.2.1 330 = .ok (.goto 4, 3) := by decide +kernel
theorem D_Law_build_333 : decode m_Law_build.2.1 333 = .ok (.iconst 0, 1) := by decide +kernel
theorem D_Law_build_334 : decode m_Law_build.2.1 334 = .ok (.istore 7, 2) := by decide +kernel
theorem D_Law_build_336 : decode m_Law_build.2.1 336 = .ok (.iinc 10 1, 3) := by decide +kernel
theorem D_Law_build_339 : decode m_Law_build.2.1 339 = .ok (.iinc 11 1, 3) := by decide +kernel
theorem D_Law_build_342 : decode m_Law_build.2.1 342 = .ok (.goto (-163), 3) := by decide +kernel
theorem D_Law_build_345 : decode m_Law_build.2.1 345 = .ok (.iload 7, 2) := by decide +kernel
theorem D_Law_build_347 : decode m_Law_build.2.1 347 = .ok (.ifCond .eq 17, 3) := by decide +kernel
theorem D_Law_build_350 : decode m_Law_build.2.1 350 = .ok (.aload_n 0, 1) := by decide +kernel
theorem D_Law_build_351 : decode m_Law_build.2.1 351 = .ok (.iconst 3, 1) := by decide +kernel
theorem D_Law_build_352 : decode m_Law_build.2.1 352 = .ok (.invokevirtual 26, 3) := by decide +kernel
theorem D_Law_build_355 : decode m_Law_build.2.1 355 = .ok (.iload 10, 2) := by decide +kernel
theorem D_Law_build_357 : decode m_Law_build.2.1 357 = .ok (.if_icmp .ne 7, 3) := by decide +kernel
theorem D_Law_build_360 : decode m_Law_build.2.1 360 = .ok (.iconst 1, 1) := by decide +kernel
theorem D_Law_build_361 : decode m_Law_build.2.1 361 = .ok (.goto 4, 3) := by decide +kernel
theorem D_Law_build_364 : decode m_Law_build.2.1 364 = .ok (.iconst 0, 1) := by decide +kernel
theorem D_Law_build_365 : decode m_Law_build.2.1 365 = .ok (.ireturn, 1) := by decide +kernel
theorem D_Law_bits_0 : decode m_Law_bits.2.1 0 = .ok (.iconst 0, 1) := by decide +kernel
theorem D_Law_bits_1 : decode m_Law_bits.2.1 1 = .ok (.istore_n 1, 1) := by decide +kernel
theorem D_Law_bits_2 : decode m_Law_bits.2.1 2 = .ok (.iconst 0, 1) := by decide +kernel
theorem D_Law_bits_3 : decode m_Law_bits.2.1 3 = .ok (.istore_n 2, 1) := by decide +kernel
theorem D_Law_bits_4 : decode m_Law_bits.2.1 4 = .ok (.iload_n 2, 1) := by decide +kernel
theorem D_Law_bits_5 : decode m_Law_bits.2.1 5 = .ok (.bipush 6, 2) := by decide +kernel
theorem D_Law_bits_7 : decode m_Law_bits.2.1 7 = .ok (.if_icmp .ge 17, 3) := by decide +kernel
theorem D_Law_bits_10 : decode m_Law_bits.2.1 10 = .ok (.iload_n 1, 1) := by decide +kernel
theorem D_Law_bits_11 : decode m_Law_bits.2.1 11 = .ok (.iload_n 0, 1) := by decide +kernel
theorem D_Law_bits_12 : decode m_Law_bits.2.1 12 = .ok (.iload_n 2, 1) := by decide +kernel
theorem D_Law_bits_13 : decode m_Law_bits.2.1 13 = .ok (.ishr, 1) := by decide +kernel
theorem D_Law_bits_14 : decode m_Law_bits.2.1 14 = .ok (.iconst 1, 1) := by decide +kernel
theorem D_Law_bits_15 : decode m_Law_bits.2.1 15 = .ok (.iand, 1) := by decide +kernel
theorem D_Law_bits_16 : decode m_Law_bits.2.1 16 = .ok (.iadd, 1) := by decide +kernel
theorem D_Law_bits_17 : decode m_Law_bits.2.1 17 = .ok (.istore_n 1, 1) := by decide +kernel
theorem D_Law_bits_18 : decode m_Law_bits.2.1 18 = .ok (.iinc 2 1, 3) := by decide +kernel
theorem D_Law_bits_21 : decode m_Law_bits.2.1 21 = .ok (.goto (-17), 3) := by decide +kernel
theorem D_Law_bits_24 : decode m_Law_bits.2.1 24 = .ok (.iload_n 1, 1) := by decide +kernel
theorem D_Law_bits_25 : decode m_Law_bits.2.1 25 = .ok (.ireturn, 1) := by decide +kernel
theorem D_Law_partOf_0 : decode m_Law_partOf.2.1 0 = .ok (.iconst (-1), 1) := by decide +kernel
theorem D_Law_partOf_1 : decode m_Law_partOf.2.1 1 = .ok (.istore_n 3, 1) := by decide +kernel
theorem D_Law_partOf_2 : decode m_Law_partOf.2.1 2 = .ok (.iconst 0, 1) := by decide +kernel
theorem D_Law_partOf_3 : decode m_Law_partOf.2.1 3 = .ok (.istore 4, 2) := by decide +kernel
theorem D_Law_partOf_5 : decode m_Law_partOf.2.1 5 = .ok (.iload 4, 2) := by decide +kernel
theorem D_Law_partOf_7 : decode m_Law_partOf.2.1 7 = .ok (.aload_n 0, 1) := by decide +kernel
theorem D_Law_partOf_8 : decode m_Law_partOf.2.1 8 = .ok (.iconst 4, 1) := by decide +kernel
theorem D_Law_partOf_9 : decode m_Law_partOf.2.1 9 = .ok (.invokevirtual 26, 3) := by decide +kernel
theorem D_Law_partOf_12 : decode m_Law_partOf.2.1 12 = .ok (.if_icmp .ge 39, 3) := by decide +kernel
theorem D_Law_partOf_15 : decode m_Law_partOf.2.1 15 = .ok (.aload_n 0, 1) := by decide +kernel
theorem D_Law_partOf_16 : decode m_Law_partOf.2.1 16 = .ok (.iload 4, 2) := by decide +kernel
theorem D_Law_partOf_18 : decode m_Law_partOf.2.1 18 = .ok (.iload_n 2, 1) := by decide +kernel
theorem D_Law_partOf_19 : decode m_Law_partOf.2.1 19 = .ok (.ifCond .eq 7, 3) := by decide +kernel
theorem D_Law_partOf_22 : decode m_Law_partOf.2.1 22 = .ok (.iconst 1, 1) := by decide +kernel
theorem D_Law_partOf_23 : decode m_Law_partOf.2.1 23 = .ok (.goto 4, 3) := by decide +kernel
theorem D_Law_partOf_26 : decode m_Law_partOf.2.1 26 = .ok (.iconst 0, 1) := by decide +kernel
theorem D_Law_partOf_27 : decode m_Law_partOf.2.1 27 = .ok (.invokevirtual 36, 3) := by decide +kernel
theorem D_Law_partOf_30 : decode m_Law_partOf.2.1 30 = .ok (.iload_n 1, 1) := by decide +kernel
theorem D_Law_partOf_31 : decode m_Law_partOf.2.1 31 = .ok (.ishr, 1) := by decide +kernel
theorem D_Law_partOf_32 : decode m_Law_partOf.2.1 32 = .ok (.iconst 1, 1) := by decide +kernel
theorem D_Law_partOf_33 : decode m_Law_partOf.2.1 33 = .ok (.iand, 1) := by decide +kernel
theorem D_Law_partOf_34 : decode m_Law_partOf.2.1 34 = .ok (.iconst 1, 1) := by decide +kernel
theorem D_Law_partOf_35 : decode m_Law_partOf.2.1 35 = .ok (.if_icmp .ne 8, 3) := by decide +kernel
theorem D_Law_partOf_38 : decode m_Law_partOf.2.1 38 = .ok (.iload 4, 2) := by decide +kernel
theorem D_Law_partOf_40 : decode m_Law_partOf.2.1 40 = .ok (.goto 4, 3) := by decide +kernel
theorem D_Law_partOf_43 : decode m_Law_partOf.2.1 43 = .ok (.iload_n 3, 1) := by decide +kernel
theorem D_Law_partOf_44 : decode m_Law_partOf.2.1 44 = .ok (.istore_n 3, 1) := by decide +kernel
theorem D_Law_partOf_45 : decode m_Law_partOf.2.1 45 = .ok (.iinc 4 1, 3) := by decide +kernel
theorem D_Law_partOf_48 : decode m_Law_partOf.2.1 48 = .ok (.goto (-43), 3) := by decide +kernel
theorem D_Law_partOf_51 : decode m_Law_partOf.2.1 51 = .ok (.iload_n 3, 1) := by decide +kernel
theorem D_Law_partOf_52 : decode m_Law_partOf.2.1 52 = .ok (.ireturn, 1) := by decide +kernel
theorem D_Law_parts_0 : decode m_Law_parts.2.1 0 = .ok (.iconst 0, 1) := by decide +kernel
theorem D_Law_parts_1 : decode m_Law_parts.2.1 1 = .ok (.istore_n 1, 1) := by decide +kernel
theorem D_Law_parts_2 : decode m_Law_parts.2.1 2 = .ok (.iconst 0, 1) := by decide +kernel
theorem D_Law_parts_3 : decode m_Law_parts.2.1 3 = .ok (.istore_n 2, 1) := by decide +kernel
theorem D_Law_parts_4 : decode m_Law_parts.2.1 4 = .ok (.iconst 0, 1) := by decide +kernel
theorem D_Law_parts_5 : decode m_Law_parts.2.1 5 = .ok (.istore_n 3, 1) := by decide +kernel
theorem D_Law_parts_6 : decode m_Law_parts.2.1 6 = .ok (.iconst 0, 1) := by decide +kernel
theorem D_Law_parts_7 : decode m_Law_parts.2.1 7 = .ok (.istore 4, 2) := by decide +kernel
theorem D_Law_parts_9 : decode m_Law_parts.2.1 9 = .ok (.iconst (-1), 1) := by decide +kernel
theorem D_Law_parts_10 : decode m_Law_parts.2.1 10 = .ok (.istore 5, 2) := by decide +kernel
theorem D_Law_parts_12 : decode m_Law_parts.2.1 12 = .ok (.iconst 0, 1) := by decide +kernel
theorem D_Law_parts_13 : decode m_Law_parts.2.1 13 = .ok (.istore 6, 2) := by decide +kernel
theorem D_Law_parts_15 : decode m_Law_parts.2.1 15 = .ok (.iload 6, 2) := by decide +kernel
theorem D_Law_parts_17 : decode m_Law_parts.2.1 17 = .ok (.aload_n 0, 1) := by decide +kernel
theorem D_Law_parts_18 : decode m_Law_parts.2.1 18 = .ok (.iconst 4, 1) := by decide +kernel
theorem D_Law_parts_19 : decode m_Law_parts.2.1 19 = .ok (.invokevirtual 26, 3) := by decide +kernel
theorem D_Law_parts_22 : decode m_Law_parts.2.1 22 = .ok (.if_icmp .ge 152, 3) := by decide +kernel
theorem D_Law_parts_25 : decode m_Law_parts.2.1 25 = .ok (.aload_n 0, 1) := by decide +kernel
theorem D_Law_parts_26 : decode m_Law_parts.2.1 26 = .ok (.iload 6, 2) := by decide +kernel
theorem D_Law_parts_28 : decode m_Law_parts.2.1 28 = .ok (.iconst 0, 1) := by decide +kernel
theorem D_Law_parts_29 : decode m_Law_parts.2.1 29 = .ok (.invokevirtual 36, 3) := by decide +kernel
theorem D_Law_parts_32 : decode m_Law_parts.2.1 32 = .ok (.istore 7, 2) := by decide +kernel
theorem D_Law_parts_34 : decode m_Law_parts.2.1 34 = .ok (.aload_n 0, 1) := by decide +kernel
theorem D_Law_parts_35 : decode m_Law_parts.2.1 35 = .ok (.iload 6, 2) := by decide +kernel
theorem D_Law_parts_37 : decode m_Law_parts.2.1 37 = .ok (.iconst 1, 1) := by decide +kernel
theorem D_Law_parts_38 : decode m_Law_parts.2.1 38 = .ok (.invokevirtual 36, 3) := by decide +kernel
theorem D_Law_parts_41 : decode m_Law_parts.2.1 41 = .ok (.istore 8, 2) := by decide +kernel
theorem D_Law_parts_43 : decode m_Law_parts.2.1 43 = .ok (.iload 7, 2) := by decide +kernel
theorem D_Law_parts_45 : decode m_Law_parts.2.1 45 = .ok (.ifCond .eq 12, 3) := by decide +kernel
theorem D_Law_parts_48 : decode m_Law_parts.2.1 48 = .ok (.iload 7, 2) := by decide +kernel
theorem D_Law_parts_50 : decode m_Law_parts.2.1 50 = .ok (.iload 7, 2) := by decide +kernel
theorem D_Law_parts_52 : decode m_Law_parts.2.1 52 = .ok (.ineg, 1) := by decide +kernel
theorem D_Law_parts_53 : decode m_Law_parts.2.1 53 = .ok (.iand, 1) := by decide +kernel
theorem D_Law_parts_54 : decode m_Law_parts.2.1 54 = .ok (.goto 12, 3) := by decide +kernel
theorem D_Law_parts_57 : decode m_Law_parts.2.1 57 = .ok (.bipush 64, 2) := by decide +kernel
theorem D_Law_parts_59 : decode m_Law_parts.2.1 59 = .ok (.iload 8, 2) := by decide +kernel
theorem D_Law_parts_61 : decode m_Law_parts.2.1 61 = .ok (.iload 8, 2) := by decide +kernel
theorem D_Law_parts_63 : decode m_Law_parts.2.1 63 = .ok (.ineg, 1) := by decide +kernel
theorem D_Law_parts_64 : decode m_Law_parts.2.1 64 = .ok (.iand, 1) := by decide +kernel
theorem D_Law_parts_65 : decode m_Law_parts.2.1 65 = .ok (.imul, 1) := by decide +kernel
theorem D_Law_parts_66 : decode m_Law_parts.2.1 66 = .ok (.istore 9, 2) := by decide +kernel
theorem D_Law_parts_68 : decode m_Law_parts.2.1 68 = .ok (.iload_n 1, 1) := by decide +kernel
theorem D_Law_parts_69 : decode m_Law_parts.2.1 69 = .ok (.iload 7, 2) := by decide +kernel
theorem D_Law_parts_71 : decode m_Law_parts.2.1 71 = .ok (.iand, 1) := by decide +kernel
theorem D_Law_parts_72 : decode m_Law_parts.2.1 72 = .ok (.ifCond .ne 54, 3) := by decide +kernel
theorem D_Law_parts_75 : decode m_Law_parts.2.1 75 = .ok (.iload_n 2, 1) := by decide +kernel
theorem D_Law_parts_76 : decode m_Law_parts.2.1 76 = .ok (.iload 8, 2) := by decide +kernel
theorem D_Law_parts_78 : decode m_Law_parts.2.1 78 = .ok (.iand, 1) := by decide +kernel
theorem D_Law_parts_79 : decode m_Law_parts.2.1 79 = .ok (.ifCond .ne 47, 3) := by decide +kernel
theorem D_Law_parts_82 : decode m_Law_parts.2.1 82 = .ok (.iload 9, 2) := by decide +kernel
theorem D_Law_parts_84 : decode m_Law_parts.2.1 84 = .ok (.iload 5, 2) := by decide +kernel
theorem D_Law_parts_86 : decode m_Law_parts.2.1 86 = .ok (.if_icmp .le 40, 3) := by decide +kernel
theorem D_Law_parts_89 : decode m_Law_parts.2.1 89 = .ok (.iload 7, 2) := by decide +kernel
theorem D_Law_parts_91 : decode m_Law_parts.2.1 91 = .ok (.ifCond .ne 12, 3) := by decide +kernel
theorem D_Law_parts_94 : decode m_Law_parts.2.1 94 = .ok (.iload 8, 2) := by decide +kernel
theorem D_Law_parts_96 : decode m_Law_parts.2.1 96 = .ok (.invokestatic 39, 3) := by decide +kernel
theorem D_Law_parts_99 : decode m_Law_parts.2.1 99 = .ok (.iconst 1, 1) := by decide +kernel
theorem D_Law_parts_100 : decode m_Law_parts.2.1 100 = .ok (.if_icmp .ne 26, 3) := by decide +kernel
theorem D_Law_parts_103 : decode m_Law_parts.2.1 103 = .ok (.aload_n 0, 1) := by decide +kernel
theorem D_Law_parts_104 : decode m_Law_parts.2.1 104 = .ok (.iload 6, 2) := by decide +kernel
theorem D_Law_parts_106 : decode m_Law_parts.2.1 106 = .ok (.iconst 2, 1) := by decide +kernel
theorem D_Law_parts_107 : decode m_Law_parts.2.1 107 = .ok (.invokevirtual 36, 3) := by decide +kernel
theorem D_Law_parts_110 : decode m_Law_parts.2.1 110 = .ok (.iload 7, 2) := by decide +kernel
theorem D_Law_parts_112 : decode m_Law_parts.2.1 112 = .ok (.invokestatic 39, 3) := by decide +kernel
theorem D_Law_parts_115 : decode m_Law_parts.2.1 115 = .ok (.iload 8, 2) := by decide +kernel
theorem D_Law_parts_117 : decode m_Law_parts.2.1 117 = .ok (.invokestatic 39, 3) := by decide +kernel
theorem D_Law_parts_120 : decode m_Law_parts.2.1 120 = .ok (.iadd, 1) := by decide +kernel
theorem D_Law_parts_121 : decode m_Law_parts.2.1 121 = .ok (.iconst 1, 1) := by decide +kernel
theorem D_Law_parts_122 : decode m_Law_parts.2.1 122 = .ok (.isub, 1) := by decide +kernel
theorem D_Law_parts_123 : decode m_Law_parts.2.1 123 = .ok (.if_icmp .ge 5, 3) := by decide +kernel
theorem D_Law_parts_126 : decode m_Law_parts.2.1 126 = .ok (.iconst 0, 1) := by decide +kernel
theorem D_Law_parts_127 : decode m_Law_parts.2.1 127 = .ok (.ireturn, 1) := by decide +kernel
theorem D_Law_parts_128 : decode m_Law_parts.2.1 128 = .ok (.iload 9, 2) := by decide +kernel
theorem D_Law_parts_130 : decode m_Law_parts.2.1 130 = .ok (.istore 5, 2) := by decide +kernel
theorem D_Law_parts_132 : decode m_Law_parts.2.1 132 = .ok (.iload_n 1, 1) := by decide +kernel
theorem D_Law_parts_133 : decode m_Law_parts.2.1 133 = .ok (.iload 7, 2) := by decide +kernel
theorem D_Law_parts_135 : decode m_Law_parts.2.1 135 = .ok (.ior, 1) := by decide +kernel
theorem D_Law_parts_136 : decode m_Law_parts.2.1 136 = .ok (.istore_n 1, 1) := by decide +kernel
theorem D_Law_parts_137 : decode m_Law_parts.2.1 137 = .ok (.iload_n 2, 1) := by decide +kernel
theorem D_Law_parts_138 : decode m_Law_parts.2.1 138 = .ok (.iload 8, 2) := by decide +kernel
theorem D_Law_parts_140 : decode m_Law_parts.2.1 140 = .ok (.ior, 1) := by decide +kernel
theorem D_Law_parts_141 : decode m_Law_parts.2.1 141 = .ok (.istore_n 2, 1) := by decide +kernel
theorem D_Law_parts_142 : decode m_Law_parts.2.1 142 = .ok (.iload_n 3, 1) := by decide +kernel
theorem D_Law_parts_143 : decode m_Law_parts.2.1 143 = .ok (.iload 7, 2) := by decide +kernel
theorem D_Law_parts_145 : decode m_Law_parts.2.1 145 = .ok (.invokestatic 39, 3) := by decide +kernel
theorem D_Law_parts_148 : decode m_Law_parts.2.1 148 = .ok (.iload 8, 2) := by decide +kernel
theorem D_Law_parts_150 : decode m_Law_parts.2.1 150 = .ok (.invokestatic 39, 3) := by decide +kernel
theorem D_Law_parts_153 : decode m_Law_parts.2.1 153 = .ok (.imul, 1) := by decide +kernel
theorem D_Law_parts_154 : decode m_Law_parts.2.1 154 = .ok (.iadd, 1) := by decide +kernel
theorem D_Law_parts_155 : decode m_Law_parts.2.1 155 = .ok (.istore_n 3, 1) := by decide +kernel
theorem D_Law_parts_156 : decode m_Law_parts.2.1 156 = .ok (.iload 4, 2) := by decide +kernel
theorem D_Law_parts_158 : decode m_Law_parts.2.1 158 = .ok (.aload_n 0, 1) := by decide +kernel
theorem D_Law_parts_159 : decode m_Law_parts.2.1 159 = .ok (.iload 6, 2) := by decide +kernel
theorem D_Law_parts_161 : decode m_Law_parts.2.1 161 = .ok (.iconst 2, 1) := by decide +kernel
theorem D_Law_parts_162 : decode m_Law_parts.2.1 162 = .ok (.invokevirtual 36, 3) := by decide +kernel
theorem D_Law_parts_165 : decode m_Law_parts.2.1 165 = .ok (.iadd, 1) := by decide +kernel
theorem D_Law_parts_166 : decode m_Law_parts.2.1 166 = .ok (.istore 4, 2) := by decide +kernel
theorem D_Law_parts_168 : decode m_Law_parts.2.1 168 = .ok (.iinc 6 1, 3) := by decide +kernel
theorem D_Law_parts_171 : decode m_Law_parts.2.1 171 = .ok (.goto (-156), 3) := by decide +kernel
theorem D_Law_parts_174 : decode m_Law_parts.2.1 174 = .ok (.iload_n 1, 1) := by decide +kernel
theorem D_Law_parts_175 : decode m_Law_parts.2.1 175 = .ok (.iconst 1, 1) := by decide +kernel
theorem D_Law_parts_176 : decode m_Law_parts.2.1 176 = .ok (.aload_n 0, 1) := by decide +kernel
theorem D_Law_parts_177 : decode m_Law_parts.2.1 177 = .ok (.iconst 0, 1) := by decide +kernel
theorem D_Law_parts_178 : decode m_Law_parts.2.1 178 = .ok (.invokevirtual 26, 3) := by decide +kernel
theorem D_Law_parts_181 : decode m_Law_parts.2.1 181 = .ok (.ishl, 1) := by decide +kernel
theorem D_Law_parts_182 : decode m_Law_parts.2.1 182 = .ok (.iconst 1, 1) := by decide +kernel
theorem D_Law_parts_183 : decode m_Law_parts.2.1 183 = .ok (.isub, 1) := by decide +kernel
theorem D_Law_parts_184 : decode m_Law_parts.2.1 184 = .ok (.if_icmp .ne 54, 3) := by decide +kernel
theorem D_Law_parts_187 : decode m_Law_parts.2.1 187 = .ok (.iload_n 2, 1) := by decide +kernel
theorem D_Law_parts_188 : decode m_Law_parts.2.1 188 = .ok (.iconst 1, 1) := by decide +kernel
theorem D_Law_parts_189 : decode m_Law_parts.2.1 189 = .ok (.aload_n 0, 1) := by decide +kernel
theorem D_Law_parts_190 : decode m_Law_parts.2.1 190 = .ok (.iconst 1, 1) := by decide +kernel
theorem D_Law_parts_191 : decode m_Law_parts.2.1 191 = .ok (.invokevirtual 26, 3) := by decide +kernel
theorem D_Law_parts_194 : decode m_Law_parts.2.1 194 = .ok (.ishl, 1) := by decide +kernel
theorem D_Law_parts_195 : decode m_Law_parts.2.1 195 = .ok (.iconst 1, 1) := by decide +kernel
theorem D_Law_parts_196 : decode m_Law_parts.2.1 196 = .ok (.isub, 1) := by decide +kernel
theorem D_Law_parts_197 : decode m_Law_parts.2.1 197 = .ok (.if_icmp .ne 41, 3) := by decide +kernel
theorem D_Law_parts_200 : decode m_Law_parts.2.1 200 = .ok (.iload_n 3, 1) := by decide +kernel
theorem D_Law_parts_201 : decode m_Law_parts.2.1 201 = .ok (.aload_n 0, 1) := by decide +kernel
theorem D_Law_parts_202 : decode m_Law_parts.2.1 202 = .ok (.bipush 6, 2) := by decide +kernel
theorem D_Law_parts_204 : decode m_Law_parts.2.1 204 = .ok (.invokevirtual 26, 3) := by decide +kernel
theorem D_Law_parts_207 : decode m_Law_parts.2.1 207 = .ok (.if_icmp .ne 31, 3) := by decide +kernel
theorem D_Law_parts_210 : decode m_Law_parts.2.1 210 = .ok (.iload 4, 2) := by decide +kernel
theorem D_Law_parts_212 : decode m_Law_parts.2.1 212 = .ok (.aload_n 0, 1) := by decide +kernel
theorem D_Law_parts_213 : decode m_Law_parts.2.1 213 = .ok (.iconst 3, 1) := by decide +kernel
theorem D_Law_parts_214 : decode m_Law_parts.2.1 214 = .ok (.invokevirtual 26, 3) := by decide +kernel
theorem D_Law_parts_217 : decode m_Law_parts.2.1 217 = .ok (.if_icmp .ne 21, 3) := by decide +kernel
theorem D_Law_parts_220 : decode m_Law_parts.2.1 220 = .ok (.aload_n 0, 1) := by decide +kernel
theorem D_Law_parts_221 : decode m_Law_parts.2.1 221 = .ok (.aload_n 0, 1) := by decide +kernel
theorem D_Law_parts_222 : decode m_Law_parts.2.1 222 = .ok (.iconst 4, 1) := by decide +kernel
theorem D_Law_parts_223 : decode m_Law_parts.2.1 223 = .ok (.invokevirtual 26, 3) := by decide +kernel
theorem D_Law_parts_226 : decode m_Law_parts.2.1 226 = .ok (.iconst 0, 1) := by decide +kernel
theorem D_Law_parts_227 : decode m_Law_parts.2.1 227 = .ok (.invokevirtual 36, 3) := by decide +kernel
theorem D_Law_parts_230 : decode m_Law_parts.2.1 230 = .ok (.iconst (-1), 1) := by decide +kernel
theorem D_Law_parts_231 : decode m_Law_parts.2.1 231 = .ok (.if_icmp .ne 7, 3) := by decide +kernel
theorem D_Law_parts_234 : decode m_Law_parts.2.1 234 = .ok (.iconst 1, 1) := by decide +kernel
theorem D_Law_parts_235 : decode m_Law_parts.2.1 235 = .ok (.goto 4, 3) := by decide +kernel
theorem D_Law_parts_238 : decode m_Law_parts.2.1 238 = .ok (.iconst 0, 1) := by decide +kernel
theorem D_Law_parts_239 : decode m_Law_parts.2.1 239 = .ok (.istore 6, 2) := by decide +kernel
theorem D_Law_parts_241 : decode m_Law_parts.2.1 241 = .ok (.iconst 0, 1) := by decide +kernel
theorem D_Law_parts_242 : decode m_Law_parts.2.1 242 = .ok (.istore 7, 2) := by decide +kernel
theorem D_Law_parts_244 : decode m_Law_parts.2.1 244 = .ok (.iload 7, 2) := by decide +kernel
theorem D_Law_parts_246 : decode m_Law_parts.2.1 246 = .ok (.aload_n 0, 1) := by decide +kernel
theorem D_Law_parts_247 : decode m_Law_parts.2.1 247 = .ok (.iconst 0, 1) := by decide +kernel
theorem D_Law_parts_248 : decode m_Law_parts.2.1 248 = .ok (.invokevirtual 26, 3) := by decide +kernel
theorem D_Law_parts_251 : decode m_Law_parts.2.1 251 = .ok (.if_icmp .ge 69, 3) := by decide +kernel
theorem D_Law_parts_254 : decode m_Law_parts.2.1 254 = .ok (.iconst 0, 1) := by decide +kernel
theorem D_Law_parts_255 : decode m_Law_parts.2.1 255 = .ok (.istore 8, 2) := by decide +kernel
theorem D_Law_parts_257 : decode m_Law_parts.2.1 257 = .ok (.iload 8, 2) := by decide +kernel
theorem D_Law_parts_259 : decode m_Law_parts.2.1 259 = .ok (.aload_n 0, 1) := by decide +kernel
theorem D_Law_parts_260 : decode m_Law_parts.2.1 260 = .ok (.iconst 1, 1) := by decide +kernel
theorem D_Law_parts_261 : decode m_Law_parts.2.1 261 = .ok (.invokevirtual 26, 3) := by decide +kernel
theorem D_Law_parts_264 : decode m_Law_parts.2.1 264 = .ok (.if_icmp .ge 50, 3) := by decide +kernel
theorem D_Law_parts_267 : decode m_Law_parts.2.1 267 = .ok (.iload 6, 2) := by decide +kernel
theorem D_Law_parts_269 : decode m_Law_parts.2.1 269 = .ok (.ifCond .eq 36, 3) := by decide +kernel
theorem D_Law_parts_272 : decode m_Law_parts.2.1 272 = .ok (.aload_n 0, 1) := by decide +kernel
theorem D_Law_parts_273 : decode m_Law_parts.2.1 273 = .ok (.iload 7, 2) := by decide +kernel
theorem D_Law_parts_275 : decode m_Law_parts.2.1 275 = .ok (.iload 8, 2) := by decide +kernel
theorem D_Law_parts_277 : decode m_Law_parts.2.1 277 = .ok (.iconst 0, 1) := by decide +kernel
theorem D_Law_parts_278 : decode m_Law_parts.2.1 278 = .ok (.invokevirtual 33, 3) := by decide +kernel
theorem D_Law_parts_281 : decode m_Law_parts.2.1 281 = .ok (.ifCond .eq 20, 3) := by decide +kernel
theorem D_Law_parts_284 : decode m_Law_parts.2.1 284 = .ok (.aload_n 0, 1) := by decide +kernel
theorem D_Law_parts_285 : decode m_Law_parts.2.1 285 = .ok (.iload 7, 2) := by decide +kernel
theorem D_Law_parts_287 : decode m_Law_parts.2.1 287 = .ok (.iconst 0, 1) := by decide +kernel
theorem D_Law_parts_288 : decode m_Law_parts.2.1 288 = .ok (.invokestatic 42, 3) := by decide +kernel
theorem D_Law_parts_291 : decode m_Law_parts.2.1 291 = .ok (.aload_n 0, 1) := by decide +kernel
theorem D_Law_parts_292 : decode m_Law_parts.2.1 292 = .ok (.iload 8, 2) := by decide +kernel
theorem D_Law_parts_294 : decode m_Law_parts.2.1 294 = .ok (.iconst 1, 1) := by decide +kernel
theorem D_Law_parts_295 : decode m_Law_parts.2.1 295 = .ok (.invokestatic 42, 3) := by decide +kernel
theorem D_Law_parts_298 : decode m_Law_parts.2.1 298 = .ok (.if_icmp .ne 7, 3) := by decide +kernel
theorem D_Law_parts_301 : decode m_Law_parts.2.1 301 = .ok (.iconst 1, 1) := by decide +kernel
theorem D_Law_parts_302 : decode m_Law_parts.2.1 302 = .ok (.goto 4, 3) := by decide +kernel
theorem D_Law_parts_305 : decode m_Law_parts.2.1 305 = .ok (.iconst 0, 1) := by decide +kernel
theorem D_Law_parts_306 : decode m_Law_parts.2.1 306 = .ok (.istore 6, 2) := by decide +kernel
theorem D_Law_parts_308 : decode m_Law_parts.2.1 308 = .ok (.iinc 8 1, 3) := by decide +kernel
theorem D_Law_parts_311 : decode m_Law_parts.2.1 311 = .ok (.goto (-54), 3) := by decide +kernel
theorem D_Law_parts_314 : decode m_Law_parts.2.1 314 = .ok (.iinc 7 1, 3) := by decide +kernel
theorem D_Law_parts_317 : decode m_Law_parts.2.1 317 = .ok (.goto (-73), 3) := by decide +kernel
theorem D_Law_parts_320 : decode m_Law_parts.2.1 320 = .ok (.iload 6, 2) := by decide +kernel
theorem D_Law_parts_322 : decode m_Law_parts.2.1 322 = .ok (.ireturn, 1) := by decide +kernel
theorem D_Law_isCompletion_0 : decode m_Law_isCompletion.2.1 0 = .ok (.aload_n 0, 1) := by decide +kernel
theorem D_Law_isCompletion_1 : decode m_Law_isCompletion.2.1 1 = .ok (.iconst 2, 1) := by decide +kernel
theorem D_Law_isCompletion_2 : decode m_Law_isCompletion.2.1 2 = .ok (.invokevirtual 26, 3) := by decide +kernel
theorem D_Law_isCompletion_5 : decode m_Law_isCompletion.2.1 5 = .ok (.istore_n 3, 1) := by decide +kernel
theorem D_Law_isCompletion_6 : decode m_Law_isCompletion.2.1 6 = .ok (.iconst 0, 1) := by decide +kernel
theorem D_Law_isCompletion_7 : decode m_Law_isCompletion.2.1 7 = .ok (.istore 4, 2) := by decide +kernel
theorem D_Law_isCompletion_9 : decode m_Law_isCompletion.2.1 9 = .ok (.iload 4, 2) := by decide +kernel
theorem D_Law_isCompletion_11 : decode m_Law_isCompletion.2.1 11 = .ok (.aload_n 0, 1) := by decide +kernel
theorem D_Law_isCompletion_12 : decode m_Law_isCompletion.2.1 12 = .ok (.iconst 0, 1) := by decide +kernel
theorem D_Law_isCompletion_13 : decode m_Law_isCompletion.2.1 13 = .ok (.invokevirtual 26, 3) := by decide +kernel
theorem D_Law_isCompletion_16 : decode m_Law_isCompletion.2.1 16 = .ok (.if_icmp .ge 115, 3) := by decide +kernel
theorem D_Law_isCompletion_19 : decode m_Law_isCompletion.2.1 19 = .ok (.iconst 0, 1) := by decide +kernel
theorem D_Law_isCompletion_20 : decode m_Law_isCompletion.2.1 20 = .ok (.istore 5, 2) := by decide +kernel
theorem D_Law_isCompletion_22 : decode m_Law_isCompletion.2.1 22 = .ok (.iload 5, 2) := by decide +kernel
theorem D_Law_isCompletion_24 : decode m_Law_isCompletion.2.1 24 = .ok (.aload_n 0, 1) := by decide +kernel
theorem D_Law_isCompletion_25 : decode m_Law_isCompletion.2.1 25 = .ok (.iconst 1, 1) := by decide +kernel
theorem D_Law_isCompletion_26 : decode m_Law_isCompletion.2.1 26 = .ok (.invokevirtual 26, 3) := by decide +kernel
theorem D_Law_isCompletion_29 : decode m_Law_isCompletion.2.1 29 = .ok (.if_icmp .ge 96, 3) := by decide +kernel
theorem D_Law_isCompletion_32 : decode m_Law_isCompletion.2.1 32 = .ok (.aload_n 0, 1) := by decide +kernel
theorem D_Law_isCompletion_33 : decode m_Law_isCompletion.2.1 33 = .ok (.lload_n 1, 1) := by decide +kernel
theorem D_Law_isCompletion_34 : decode m_Law_isCompletion.2.1 34 = .ok (.iload 4, 2) := by decide +kernel
theorem D_Law_isCompletion_36 : decode m_Law_isCompletion.2.1 36 = .ok (.iload 5, 2) := by decide +kernel
theorem D_Law_isCompletion_38 : decode m_Law_isCompletion.2.1 38 = .ok (.invokevirtual 46, 3) := by decide +kernel
theorem D_Law_isCompletion_41 : decode m_Law_isCompletion.2.1 41 = .ok (.istore 6, 2) := by decide +kernel
theorem D_Law_isCompletion_43 : decode m_Law_isCompletion.2.1 43 = .ok (.aload_n 0, 1) := by decide +kernel
theorem D_Law_isCompletion_44 : decode m_Law_isCompletion.2.1 44 = .ok (.iload 4, 2) := by decide +kernel
theorem D_Law_isCompletion_46 : decode m_Law_isCompletion.2.1 46 = .ok (.iload 5, 2) := by decide +kernel
theorem D_Law_isCompletion_48 : decode m_Law_isCompletion.2.1 48 = .ok (.iconst 0, 1) := by decide +kernel
theorem D_Law_isCompletion_49 : decode m_Law_isCompletion.2.1 49 = .ok (.invokevirtual 33, 3) := by decide +kernel
theorem D_Law_isCompletion_52 : decode m_Law_isCompletion.2.1 52 = .ok (.istore 7, 2) := by decide +kernel
theorem D_Law_isCompletion_54 : decode m_Law_isCompletion.2.1 54 = .ok (.iload 6, 2) := by decide +kernel
theorem D_Law_isCompletion_56 : decode m_Law_isCompletion.2.1 56 = .ok (.aload_n 0, 1) := by decide +kernel
theorem D_Law_isCompletion_57 : decode m_Law_isCompletion.2.1 57 = .ok (.lload_n 1, 1) := by decide +kernel
theorem D_Law_isCompletion_58 : decode m_Law_isCompletion.2.1 58 = .ok (.iconst 0, 1) := by decide +kernel
theorem D_Law_isCompletion_59 : decode m_Law_isCompletion.2.1 59 = .ok (.iconst 0, 1) := by decide +kernel
theorem D_Law_isCompletion_60 : decode m_Law_isCompletion.2.1 60 = .ok (.invokevirtual 46, 3) := by decide +kernel
theorem D_Law_isCompletion_63 : decode m_Law_isCompletion.2.1 63 = .ok (.imul, 1) := by decide +kernel
theorem D_Law_isCompletion_64 : decode m_Law_isCompletion.2.1 64 = .ok (.iload_n 3, 1) := by decide +kernel
theorem D_Law_isCompletion_65 : decode m_Law_isCompletion.2.1 65 = .ok (.irem, 1) := by decide +kernel
theorem D_Law_isCompletion_66 : decode m_Law_isCompletion.2.1 66 = .ok (.aload_n 0, 1) := by decide +kernel
theorem D_Law_isCompletion_67 : decode m_Law_isCompletion.2.1 67 = .ok (.lload_n 1, 1) := by decide +kernel
theorem D_Law_isCompletion_68 : decode m_Law_isCompletion.2.1 68 = .ok (.iload 4, 2) := by decide +kernel
theorem D_Law_isCompletion_70 : decode m_Law_isCompletion.2.1 70 = .ok (.iconst 0, 1) := by decide +kernel
theorem D_Law_isCompletion_71 : decode m_Law_isCompletion.2.1 71 = .ok (.invokevirtual 46, 3) := by decide +kernel
theorem D_Law_isCompletion_74 : decode m_Law_isCompletion.2.1 74 = .ok (.aload_n 0, 1) := by decide +kernel
theorem D_Law_isCompletion_75 : decode m_Law_isCompletion.2.1 75 = .ok (.lload_n 1, 1) := by decide +kernel
theorem D_Law_isCompletion_76 : decode m_Law_isCompletion.2.1 76 = .ok (.iconst 0, 1) := by decide +kernel
theorem D_Law_isCompletion_77 : decode m_Law_isCompletion.2.1 77 = .ok (.iload 5, 2) := by decide +kernel
theorem D_Law_isCompletion_79 : decode m_Law_isCompletion.2.1 79 = .ok (.invokevirtual 46, 3) := by decide +kernel
theorem D_Law_isCompletion_82 : decode m_Law_isCompletion.2.1 82 = .ok (.imul, 1) := by decide +kernel
theorem D_Law_isCompletion_83 : decode m_Law_isCompletion.2.1 83 = .ok (.iload_n 3, 1) := by decide +kernel
theorem D_Law_isCompletion_84 : decode m_Law_isCompletion.2.1 84 = .ok (.irem, 1) := by decide +kernel
theorem D_Law_isCompletion_85 : decode m_Law_isCompletion.2.1 85 = .ok (.isub, 1) := by decide +kernel
theorem D_Law_isCompletion_86 : decode m_Law_isCompletion.2.1 86 = .ok (.istore 8, 2) := by decide +kernel
theorem D_Law_isCompletion_88 : decode m_Law_isCompletion.2.1 88 = .ok (.iload 6, 2) := by decide +kernel
theorem D_Law_isCompletion_90 : decode m_Law_isCompletion.2.1 90 = .ok (.iconst 1, 1) := by decide +kernel
theorem D_Law_isCompletion_91 : decode m_Law_isCompletion.2.1 91 = .ok (.if_icmp .lt 26, 3) := by decide +kernel
theorem D_Law_isCompletion_94 : decode m_Law_isCompletion.2.1 94 = .ok (.iload 6, 2) := by decide +kernel
theorem D_Law_isCompletion_96 : decode m_Law_isCompletion.2.1 96 = .ok (.iload_n 3, 1) := by decide +kernel
theorem D_Law_isCompletion_97 : decode m_Law_isCompletion.2.1 97 = .ok (.if_icmp .ge 20, 3) := by decide +kernel
theorem D_Law_isCompletion_100 : decode m_Law_isCompletion.2.1 100 = .ok (.iload 7, 2) := by decide +kernel
theorem D_Law_isCompletion_102 : decode m_Law_isCompletion.2.1 102 = .ok (.ifCond .le 10, 3) := by decide +kernel
theorem D_Law_isCompletion_105 : decode m_Law_isCompletion.2.1 105 = .ok (.iload 7, 2) := by decide +kernel
theorem D_Law_isCompletion_107 : decode m_Law_isCompletion.2.1 107 = .ok (.iload 6, 2) := by decide +kernel
theorem D_Law_isCompletion_109 : decode m_Law_isCompletion.2.1 109 = .ok (.if_icmp .ne 8, 3) := by decide +kernel
theorem D_Law_isCompletion_112 : decode m_Law_isCompletion.2.1 112 = .ok (.iload 8, 2) := by decide +kernel
theorem D_Law_isCompletion_114 : decode m_Law_isCompletion.2.1 114 = .ok (.ifCond .eq 5, 3) := by decide +kernel
theorem D_Law_isCompletion_117 : decode m_Law_isCompletion.2.1 117 = .ok (.iconst 0, 1) := by decide +kernel
theorem D_Law_isCompletion_118 : decode m_Law_isCompletion.2.1 118 = .ok (.ireturn, 1) := by decide +kernel
theorem D_Law_isCompletion_119 : decode m_Law_isCompletion.2.1 119 = .ok (.iinc 5 1, 3) := by decide +kernel
theorem D_Law_isCompletion_122 : decode m_Law_isCompletion.2.1 122 = .ok (.goto (-100), 3) := by decide +kernel
theorem D_Law_isCompletion_125 : decode m_Law_isCompletion.2.1 125 = .ok (.iinc 4 1, 3) := by decide +kernel
theorem D_Law_isCompletion_128 : decode m_Law_isCompletion.2.1 128 = .ok (.goto (-119), 3) := by decide +kernel
theorem D_Law_isCompletion_131 : decode m_Law_isCompletion.2.1 131 = .ok (.iconst 1, 1) := by decide +kernel
theorem D_Law_isCompletion_132 : decode m_Law_isCompletion.2.1 132 = .ok (.ireturn, 1) := by decide +kernel
theorem D_Law_completions_0 : decode m_Law_completions.2.1 0 = .ok (.lconst 1, 1) := by decide +kernel
theorem D_Law_completions_1 : decode m_Law_completions.2.1 1 = .ok (.lstore_n 2, 1) := by decide +kernel
theorem D_Law_completions_2 : decode m_Law_completions.2.1 2 = .ok (.aload_n 0, 1) := by decide +kernel
theorem D_Law_completions_3 : decode m_Law_completions.2.1 3 = .ok (.iconst 2, 1) := by decide +kernel
theorem D_Law_completions_4 : decode m_Law_completions.2.1 4 = .ok (.invokevirtual 26, 3) := by decide +kernel
theorem D_Law_completions_7 : decode m_Law_completions.2.1 7 = .ok (.istore 4, 2) := by decide +kernel
theorem D_Law_completions_9 : decode m_Law_completions.2.1 9 = .ok (.iconst 1, 1) := by decide +kernel
theorem D_Law_completions_10 : decode m_Law_completions.2.1 10 = .ok (.istore 5, 2) := by decide +kernel
theorem D_Law_completions_12 : decode m_Law_completions.2.1 12 = .ok (.iload 5, 2) := by decide +kernel
theorem D_Law_completions_14 : decode m_Law_completions.2.1 14 = .ok (.aload_n 0, 1) := by decide +kernel
theorem D_Law_completions_15 : decode m_Law_completions.2.1 15 = .ok (.iconst 4, 1) := by decide +kernel
theorem D_Law_completions_16 : decode m_Law_completions.2.1 16 = .ok (.invokevirtual 26, 3) := by decide +kernel
theorem D_Law_completions_19 : decode m_Law_completions.2.1 19 = .ok (.if_icmp .ge 17, 3) := by decide +kernel
theorem D_Law_completions_22 : decode m_Law_completions.2.1 22 = .ok (.lload_n 2, 1) := by decide +kernel
theorem D_Law_completions_23 : decode m_Law_completions.2.1 23 = .ok (.iload 4, 2) := by decide +kernel
theorem D_Law_completions_25 : decode m_Law_completions.2.1 25 = .ok (.iconst 1, 1) := by decide +kernel
theorem D_Law_completions_26 : decode m_Law_completions.2.1 26 = .ok (.isub, 1) := by decide +kernel
theorem D_Law_completions_27 : decode m_Law_completions.2.1 27 = .ok (.i2l, 1) := by decide +kernel
theorem D_Law_completions_28 : decode m_Law_completions.2.1 28 = .ok (.lmul, 1) := by decide +kernel
theorem D_Law_completions_29 : decode m_Law_completions.2.1 29 = .ok (.lstore_n 2, 1) := by decide +kernel
theorem D_Law_completions_30 : decode m_Law_completions.2.1 30 = .ok (.iinc 5 1, 3) := by decide +kernel
theorem D_Law_completions_33 : decode m_Law_completions.2.1 33 = .ok (.goto (-21), 3) := by decide +kernel
theorem D_Law_completions_36 : decode m_Law_completions.2.1 36 = .ok (.aload_n 0, 1) := by decide +kernel
theorem D_Law_completions_37 : decode m_Law_completions.2.1 37 = .ok (.invokevirtual 50, 3) := by decide +kernel
theorem D_Law_completions_40 : decode m_Law_completions.2.1 40 = .ok (.lload_n 2, 1) := by decide +kernel
theorem D_Law_completions_41 : decode m_Law_completions.2.1 41 = .ok (.lcmp, 1) := by decide +kernel
theorem D_Law_completions_42 : decode m_Law_completions.2.1 42 = .ok (.ifCond .ne 27, 3) := by decide +kernel
theorem D_Law_completions_45 : decode m_Law_completions.2.1 45 = .ok (.aload_n 0, 1) := by decide +kernel
theorem D_Law_completions_46 : decode m_Law_completions.2.1 46 = .ok (.lload_n 2, 1) := by decide +kernel
theorem D_Law_completions_47 : decode m_Law_completions.2.1 47 = .ok (.iconst 0, 1) := by decide +kernel
theorem D_Law_completions_48 : decode m_Law_completions.2.1 48 = .ok (.iconst 0, 1) := by decide +kernel
theorem D_Law_completions_49 : decode m_Law_completions.2.1 49 = .ok (.invokevirtual 46, 3) := by decide +kernel
theorem D_Law_completions_52 : decode m_Law_completions.2.1 52 = .ok (.iconst (-1), 1) := by decide +kernel
theorem D_Law_completions_53 : decode m_Law_completions.2.1 53 = .ok (.if_icmp .ne 16, 3) := by decide +kernel
theorem D_Law_completions_56 : decode m_Law_completions.2.1 56 = .ok (.aload_n 0, 1) := by decide +kernel
theorem D_Law_completions_57 : decode m_Law_completions.2.1 57 = .ok (.ldc2_w 54, 3) := by decide +kernel
theorem D_Law_completions_60 : decode m_Law_completions.2.1 60 = .ok (.iconst 0, 1) := by decide +kernel
theorem D_Law_completions_61 : decode m_Law_completions.2.1 61 = .ok (.iconst 0, 1) := by decide +kernel
theorem D_Law_completions_62 : decode m_Law_completions.2.1 62 = .ok (.invokevirtual 46, 3) := by decide +kernel
theorem D_Law_completions_65 : decode m_Law_completions.2.1 65 = .ok (.iconst (-1), 1) := by decide +kernel
theorem D_Law_completions_66 : decode m_Law_completions.2.1 66 = .ok (.if_icmp .eq 5, 3) := by decide +kernel
theorem D_Law_completions_69 : decode m_Law_completions.2.1 69 = .ok (.iconst 0, 1) := by decide +kernel
theorem D_Law_completions_70 : decode m_Law_completions.2.1 70 = .ok (.ireturn, 1) := by decide +kernel
theorem D_Law_completions_71 : decode m_Law_completions.2.1 71 = .ok (.aload_n 0, 1) := by decide +kernel
theorem D_Law_completions_72 : decode m_Law_completions.2.1 72 = .ok (.lconst 0, 1) := by decide +kernel
theorem D_Law_completions_73 : decode m_Law_completions.2.1 73 = .ok (.invokestatic 56, 3) := by decide +kernel
theorem D_Law_completions_76 : decode m_Law_completions.2.1 76 = .ok (.ifCond .eq 29, 3) := by decide +kernel
theorem D_Law_completions_79 : decode m_Law_completions.2.1 79 = .ok (.aload_n 0, 1) := by decide +kernel
theorem D_Law_completions_80 : decode m_Law_completions.2.1 80 = .ok (.lload_n 2, 1) := by decide +kernel
theorem D_Law_completions_81 : decode m_Law_completions.2.1 81 = .ok (.lconst 1, 1) := by decide +kernel
theorem D_Law_completions_82 : decode m_Law_completions.2.1 82 = .ok (.lsub, 1) := by decide +kernel
theorem D_Law_completions_83 : decode m_Law_completions.2.1 83 = .ok (.invokestatic 56, 3) := by decide +kernel
theorem D_Law_completions_86 : decode m_Law_completions.2.1 86 = .ok (.ifCond .eq 19, 3) := by decide +kernel
theorem D_Law_completions_89 : decode m_Law_completions.2.1 89 = .ok (.aload_n 0, 1) := by decide +kernel
theorem D_Law_completions_90 : decode m_Law_completions.2.1 90 = .ok (.iload_n 1, 1) := by decide +kernel
theorem D_Law_completions_91 : decode m_Law_completions.2.1 91 = .ok (.ldc 60, 2) := by decide +kernel
theorem D_Law_completions_93 : decode m_Law_completions.2.1 93 = .ok (.invokestatic 16, 3) := by decide +kernel
theorem D_Law_completions_96 : decode m_Law_completions.2.1 96 = .ok (.i2l, 1) := by decide +kernel
theorem D_Law_completions_97 : decode m_Law_completions.2.1 97 = .ok (.lload_n 2, 1) := by decide +kernel
theorem D_Law_completions_98 : decode m_Law_completions.2.1 98 = .ok (.lrem, 1) := by decide +kernel
theorem D_Law_completions_99 : decode m_Law_completions.2.1 99 = .ok (.invokestatic 56, 3) := by decide +kernel
theorem D_Law_completions_102 : decode m_Law_completions.2.1 102 = .ok (.ifCond .ne 5, 3) := by decide +kernel
theorem D_Law_completions_105 : decode m_Law_completions.2.1 105 = .ok (.iconst 0, 1) := by decide +kernel
theorem D_Law_completions_106 : decode m_Law_completions.2.1 106 = .ok (.ireturn, 1) := by decide +kernel
theorem D_Law_completions_107 : decode m_Law_completions.2.1 107 = .ok (.iconst 0, 1) := by decide +kernel
theorem D_Law_completions_108 : decode m_Law_completions.2.1 108 = .ok (.istore 5, 2) := by decide +kernel
theorem D_Law_completions_110 : decode m_Law_completions.2.1 110 = .ok (.iload 5, 2) := by decide +kernel
theorem D_Law_completions_112 : decode m_Law_completions.2.1 112 = .ok (.aload_n 0, 1) := by decide +kernel
theorem D_Law_completions_113 : decode m_Law_completions.2.1 113 = .ok (.iconst 0, 1) := by decide +kernel
theorem D_Law_completions_114 : decode m_Law_completions.2.1 114 = .ok (.invokevirtual 26, 3) := by decide +kernel
theorem D_Law_completions_117 : decode m_Law_completions.2.1 117 = .ok (.if_icmp .ge 186, 3) := by decide +kernel
theorem D_Law_completions_120 : decode m_Law_completions.2.1 120 = .ok (.iconst 0, 1) := by decide +kernel
theorem D_Law_completions_121 : decode m_Law_completions.2.1 121 = .ok (.istore 6, 2) := by decide +kernel
theorem D_Law_completions_123 : decode m_Law_completions.2.1 123 = .ok (.iload 6, 2) := by decide +kernel
theorem D_Law_completions_125 : decode m_Law_completions.2.1 125 = .ok (.aload_n 0, 1) := by decide +kernel
theorem D_Law_completions_126 : decode m_Law_completions.2.1 126 = .ok (.iconst 1, 1) := by decide +kernel
theorem D_Law_completions_127 : decode m_Law_completions.2.1 127 = .ok (.invokevirtual 26, 3) := by decide +kernel
theorem D_Law_completions_130 : decode m_Law_completions.2.1 130 = .ok (.if_icmp .ge 167, 3) := by decide +kernel
theorem D_Law_completions_133 : decode m_Law_completions.2.1 133 = .ok (.aload_n 0, 1) := by decide +kernel
theorem D_Law_completions_134 : decode m_Law_completions.2.1 134 = .ok (.iload 5, 2) := by decide +kernel
theorem D_Law_completions_136 : decode m_Law_completions.2.1 136 = .ok (.iconst 0, 1) := by decide +kernel
theorem D_Law_completions_137 : decode m_Law_completions.2.1 137 = .ok (.invokestatic 42, 3) := by decide +kernel
theorem D_Law_completions_140 : decode m_Law_completions.2.1 140 = .ok (.istore 7, 2) := by decide +kernel
theorem D_Law_completions_142 : decode m_Law_completions.2.1 142 = .ok (.aload_n 0, 1) := by decide +kernel
theorem D_Law_completions_143 : decode m_Law_completions.2.1 143 = .ok (.iload 6, 2) := by decide +kernel
theorem D_Law_completions_145 : decode m_Law_completions.2.1 145 = .ok (.iconst 1, 1) := by decide +kernel
theorem D_Law_completions_146 : decode m_Law_completions.2.1 146 = .ok (.invokestatic 42, 3) := by decide +kernel
theorem D_Law_completions_149 : decode m_Law_completions.2.1 149 = .ok (.istore 8, 2) := by decide +kernel
theorem D_Law_completions_151 : decode m_Law_completions.2.1 151 = .ok (.aload_n 0, 1) := by decide +kernel
theorem D_Law_completions_152 : decode m_Law_completions.2.1 152 = .ok (.lconst 0, 1) := by decide +kernel
theorem D_Law_completions_153 : decode m_Law_completions.2.1 153 = .ok (.iload 5, 2) := by decide +kernel
theorem D_Law_completions_155 : decode m_Law_completions.2.1 155 = .ok (.iload 6, 2) := by decide +kernel
theorem D_Law_completions_157 : decode m_Law_completions.2.1 157 = .ok (.invokevirtual 46, 3) := by decide +kernel
theorem D_Law_completions_160 : decode m_Law_completions.2.1 160 = .ok (.istore 9, 2) := by decide +kernel
theorem D_Law_completions_162 : decode m_Law_completions.2.1 162 = .ok (.lconst 1, 1) := by decide +kernel
theorem D_Law_completions_163 : decode m_Law_completions.2.1 163 = .ok (.lstore 10, 2) := by decide +kernel
theorem D_Law_completions_165 : decode m_Law_completions.2.1 165 = .ok (.iconst 1, 1) := by decide +kernel
theorem D_Law_completions_166 : decode m_Law_completions.2.1 166 = .ok (.istore 12, 2) := by decide +kernel
theorem D_Law_completions_168 : decode m_Law_completions.2.1 168 = .ok (.iload 12, 2) := by decide +kernel
theorem D_Law_completions_170 : decode m_Law_completions.2.1 170 = .ok (.iload 7, 2) := by decide +kernel
theorem D_Law_completions_172 : decode m_Law_completions.2.1 172 = .ok (.iload 8, 2) := by decide +kernel
theorem D_Law_completions_174 : decode m_Law_completions.2.1 174 = .ok (.if_icmp .le 8, 3) := by decide +kernel
theorem D_Law_completions_177 : decode m_Law_completions.2.1 177 = .ok (.iload 7, 2) := by decide +kernel
theorem D_Law_completions_179 : decode m_Law_completions.2.1 179 = .ok (.goto 5, 3) := by decide +kernel
theorem D_Law_completions_182 : decode m_Law_completions.2.1 182 = .ok (.iload 8, 2) := by decide +kernel
theorem D_Law_completions_184 : decode m_Law_completions.2.1 184 = .ok (.if_icmp .ge 19, 3) := by decide +kernel
theorem D_Law_completions_187 : decode m_Law_completions.2.1 187 = .ok (.lload 10, 2) := by decide +kernel
theorem D_Law_completions_189 : decode m_Law_completions.2.1 189 = .ok (.iload 4, 2) := by decide +kernel
theorem D_Law_completions_191 : decode m_Law_completions.2.1 191 = .ok (.iconst 1, 1) := by decide +kernel
theorem D_Law_completions_192 : decode m_Law_completions.2.1 192 = .ok (.isub, 1) := by decide +kernel
theorem D_Law_completions_193 : decode m_Law_completions.2.1 193 = .ok (.i2l, 1) := by decide +kernel
theorem D_Law_completions_194 : decode m_Law_completions.2.1 194 = .ok (.lmul, 1) := by decide +kernel
theorem D_Law_completions_195 : decode m_Law_completions.2.1 195 = .ok (.lstore 10, 2) := by decide +kernel
theorem D_Law_completions_197 : decode m_Law_completions.2.1 197 = .ok (.iinc 12 1, 3) := by decide +kernel
theorem D_Law_completions_200 : decode m_Law_completions.2.1 200 = .ok (.goto (-32), 3) := by decide +kernel
theorem D_Law_completions_203 : decode m_Law_completions.2.1 203 = .ok (.iload 7, 2) := by decide +kernel
theorem D_Law_completions_205 : decode m_Law_completions.2.1 205 = .ok (.iload 8, 2) := by decide +kernel
theorem D_Law_completions_207 : decode m_Law_completions.2.1 207 = .ok (.if_icmp .ne 41, 3) := by decide +kernel
theorem D_Law_completions_210 : decode m_Law_completions.2.1 210 = .ok (.aload_n 0, 1) := by decide +kernel
theorem D_Law_completions_211 : decode m_Law_completions.2.1 211 = .ok (.iload 5, 2) := by decide +kernel
theorem D_Law_completions_213 : decode m_Law_completions.2.1 213 = .ok (.iload 6, 2) := by decide +kernel
theorem D_Law_completions_215 : decode m_Law_completions.2.1 215 = .ok (.iconst 1, 1) := by decide +kernel
theorem D_Law_completions_216 : decode m_Law_completions.2.1 216 = .ok (.invokevirtual 33, 3) := by decide +kernel
theorem D_Law_completions_219 : decode m_Law_completions.2.1 219 = .ok (.iload 9, 2) := by decide +kernel
theorem D_Law_completions_221 : decode m_Law_completions.2.1 221 = .ok (.if_icmp .ne 23, 3) := by decide +kernel
theorem D_Law_completions_224 : decode m_Law_completions.2.1 224 = .ok (.aload_n 0, 1) := by decide +kernel
theorem D_Law_completions_225 : decode m_Law_completions.2.1 225 = .ok (.lload_n 2, 1) := by decide +kernel
theorem D_Law_completions_226 : decode m_Law_completions.2.1 226 = .ok (.lconst 1, 1) := by decide +kernel
theorem D_Law_completions_227 : decode m_Law_completions.2.1 227 = .ok (.lsub, 1) := by decide +kernel
theorem D_Law_completions_228 : decode m_Law_completions.2.1 228 = .ok (.iload 5, 2) := by decide +kernel
theorem D_Law_completions_230 : decode m_Law_completions.2.1 230 = .ok (.iload 6, 2) := by decide +kernel
theorem D_Law_completions_232 : decode m_Law_completions.2.1 232 = .ok (.invokevirtual 46, 3) := by decide +kernel
theorem D_Law_completions_235 : decode m_Law_completions.2.1 235 = .ok (.iload 9, 2) := by decide +kernel
theorem D_Law_completions_237 : decode m_Law_completions.2.1 237 = .ok (.if_icmp .ne 7, 3) := by decide +kernel
theorem D_Law_completions_240 : decode m_Law_completions.2.1 240 = .ok (.iconst 1, 1) := by decide +kernel
theorem D_Law_completions_241 : decode m_Law_completions.2.1 241 = .ok (.goto 41, 3) := by decide +kernel
theorem D_Law_completions_244 : decode m_Law_completions.2.1 244 = .ok (.iconst 0, 1) := by decide +kernel
theorem D_Law_completions_245 : decode m_Law_completions.2.1 245 = .ok (.goto 37, 3) := by decide +kernel
theorem D_Law_completions_248 : decode m_Law_completions.2.1 248 = .ok (.aload_n 0, 1) := by decide +kernel
theorem D_Law_completions_249 : decode m_Law_completions.2.1 249 = .ok (.iload 5, 2) := by decide +kernel
theorem D_Law_completions_251 : decode m_Law_completions.2.1 251 = .ok (.iload 6, 2) := by decide +kernel
theorem D_Law_completions_253 : decode m_Law_completions.2.1 253 = .ok (.iconst 1, 1) := by decide +kernel
theorem D_Law_completions_254 : decode m_Law_completions.2.1 254 = .ok (.invokevirtual 33, 3) := by decide +kernel
theorem D_Law_completions_257 : decode m_Law_completions.2.1 257 = .ok (.bipush (-6), 2) := by decide +kernel
theorem D_Law_completions_259 : decode m_Law_completions.2.1 259 = .ok (.if_icmp .ne 22, 3) := by decide +kernel
theorem D_Law_completions_262 : decode m_Law_completions.2.1 262 = .ok (.aload_n 0, 1) := by decide +kernel
theorem D_Law_completions_263 : decode m_Law_completions.2.1 263 = .ok (.lload 10, 2) := by decide +kernel
theorem D_Law_completions_265 : decode m_Law_completions.2.1 265 = .ok (.iload 5, 2) := by decide +kernel
theorem D_Law_completions_267 : decode m_Law_completions.2.1 267 = .ok (.iload 6, 2) := by decide +kernel
theorem D_Law_completions_269 : decode m_Law_completions.2.1 269 = .ok (.invokevirtual 46, 3) := by decide +kernel
theorem D_Law_completions_272 : decode m_Law_completions.2.1 272 = .ok (.iload 9, 2) := by decide +kernel
theorem D_Law_completions_274 : decode m_Law_completions.2.1 274 = .ok (.if_icmp .eq 7, 3) := by decide +kernel
theorem D_Law_completions_277 : decode m_Law_completions.2.1 277 = .ok (.iconst 1, 1) := by decide +kernel
theorem D_Law_completions_278 : decode m_Law_completions.2.1 278 = .ok (.goto 4, 3) := by decide +kernel
theorem D_Law_completions_281 : decode m_Law_completions.2.1 281 = .ok (.iconst 0, 1) := by decide +kernel
theorem D_Law_completions_282 : decode m_Law_completions.2.1 282 = .ok (.istore 12, 2) := by decide +kernel
theorem D_Law_completions_284 : decode m_Law_completions.2.1 284 = .ok (.iload 12, 2) := by decide +kernel
theorem D_Law_completions_286 : decode m_Law_completions.2.1 286 = .ok (.ifCond .ne 5, 3) := by decide +kernel
theorem D_Law_completions_289 : decode m_Law_completions.2.1 289 = .ok (.iconst 0, 1) := by decide +kernel
theorem D_Law_completions_290 : decode m_Law_completions.2.1 290 = .ok (.ireturn, 1) := by decide +kernel
theorem D_Law_completions_291 : decode m_Law_completions.2.1 291 = .ok (.iinc 6 1, 3) := by decide +kernel
theorem D_Law_completions_294 : decode m_Law_completions.2.1 294 = .ok (.goto (-171), 3) := by decide +kernel
theorem D_Law_completions_297 : decode m_Law_completions.2.1 297 = .ok (.iinc 5 1, 3) := by decide +kernel
theorem D_Law_completions_300 : decode m_Law_completions.2.1 300 = .ok (.goto (-190), 3) := by decide +kernel
theorem D_Law_completions_303 : decode m_Law_completions.2.1 303 = .ok (.iconst 1, 1) := by decide +kernel
theorem D_Law_completions_304 : decode m_Law_completions.2.1 304 = .ok (.ireturn, 1) := by decide +kernel
theorem D_Law_tries_0 : decode m_Law_tries.2.1 0 = .ok (.aload_n 0, 1) := by decide +kernel
theorem D_Law_tries_1 : decode m_Law_tries.2.1 1 = .ok (.iconst 5, 1) := by decide +kernel
theorem D_Law_tries_2 : decode m_Law_tries.2.1 2 = .ok (.invokevirtual 26, 3) := by decide +kernel
theorem D_Law_tries_5 : decode m_Law_tries.2.1 5 = .ok (.iconst 1, 1) := by decide +kernel
theorem D_Law_tries_6 : decode m_Law_tries.2.1 6 = .ok (.if_icmp .ne 7, 3) := by decide +kernel
theorem D_Law_tries_9 : decode m_Law_tries.2.1 9 = .ok (.iconst 1, 1) := by decide +kernel
theorem D_Law_tries_10 : decode m_Law_tries.2.1 10 = .ok (.goto 4, 3) := by decide +kernel
theorem D_Law_tries_13 : decode m_Law_tries.2.1 13 = .ok (.iconst 0, 1) := by decide +kernel
theorem D_Law_tries_14 : decode m_Law_tries.2.1 14 = .ok (.istore_n 2, 1) := by decide +kernel
theorem D_Law_tries_15 : decode m_Law_tries.2.1 15 = .ok (.aload_n 0, 1) := by decide +kernel
theorem D_Law_tries_16 : decode m_Law_tries.2.1 16 = .ok (.invokevirtual 61, 3) := by decide +kernel
theorem D_Law_tries_19 : decode m_Law_tries.2.1 19 = .ok (.lstore_n 3, 1) := by decide +kernel
theorem D_Law_tries_20 : decode m_Law_tries.2.1 20 = .ok (.aload_n 0, 1) := by decide +kernel
theorem D_Law_tries_21 : decode m_Law_tries.2.1 21 = .ok (.iconst 2, 1) := by decide +kernel
theorem D_Law_tries_22 : decode m_Law_tries.2.1 22 = .ok (.invokevirtual 64, 3) := by decide +kernel
theorem D_Law_tries_25 : decode m_Law_tries.2.1 25 = .ok (.istore 5, 2) := by decide +kernel
theorem D_Law_tries_27 : decode m_Law_tries.2.1 27 = .ok (.aload_n 0, 1) := by decide +kernel
theorem D_Law_tries_28 : decode m_Law_tries.2.1 28 = .ok (.bipush 6, 2) := by decide +kernel
theorem D_Law_tries_30 : decode m_Law_tries.2.1 30 = .ok (.invokevirtual 26, 3) := by decide +kernel
theorem D_Law_tries_33 : decode m_Law_tries.2.1 33 = .ok (.istore 6, 2) := by decide +kernel
theorem D_Law_tries_35 : decode m_Law_tries.2.1 35 = .ok (.iconst 0, 1) := by decide +kernel
theorem D_Law_tries_36 : decode m_Law_tries.2.1 36 = .ok (.istore 7, 2) := by decide +kernel
theorem D_Law_tries_38 : decode m_Law_tries.2.1 38 = .ok (.iconst (-1), 1) := by decide +kernel
theorem D_Law_tries_39 : decode m_Law_tries.2.1 39 = .ok (.istore 8, 2) := by decide +kernel
theorem D_Law_tries_41 : decode m_Law_tries.2.1 41 = .ok (.iconst 0, 1) := by decide +kernel
theorem D_Law_tries_42 : decode m_Law_tries.2.1 42 = .ok (.istore 9, 2) := by decide +kernel
theorem D_Law_tries_44 : decode m_Law_tries.2.1 44 = .ok (.iload 9, 2) := by decide +kernel
theorem D_Law_tries_46 : decode m_Law_tries.2.1 46 = .ok (.aload_n 0, 1) := by decide +kernel
theorem D_Law_tries_47 : decode m_Law_tries.2.1 47 = .ok (.iconst 0, 1) := by decide +kernel
theorem D_Law_tries_48 : decode m_Law_tries.2.1 48 = .ok (.invokevirtual 26, 3) := by decide +kernel
theorem D_Law_tries_51 : decode m_Law_tries.2.1 51 = .ok (.if_icmp .ge 254, 3) := by decide +kernel
theorem D_Law_tries_54 : decode m_Law_tries.2.1 54 = .ok (.iconst 0, 1) := by decide +kernel
theorem D_Law_tries_55 : decode m_Law_tries.2.1 55 = .ok (.istore 10, 2) := by decide +kernel
theorem D_Law_tries_57 : decode m_Law_tries.2.1 57 = .ok (.iload 10, 2) := by decide +kernel
theorem D_Law_tries_59 : decode m_Law_tries.2.1 59 = .ok (.aload_n 0, 1) := by decide +kernel
theorem D_Law_tries_60 : decode m_Law_tries.2.1 60 = .ok (.iconst 1, 1) := by decide +kernel
theorem D_Law_tries_61 : decode m_Law_tries.2.1 61 = .ok (.invokevirtual 26, 3) := by decide +kernel
theorem D_Law_tries_64 : decode m_Law_tries.2.1 64 = .ok (.if_icmp .ge 235, 3) := by decide +kernel
theorem D_Law_tries_67 : decode m_Law_tries.2.1 67 = .ok (.aload_n 0, 1) := by decide +kernel
theorem D_Law_tries_68 : decode m_Law_tries.2.1 68 = .ok (.iload 9, 2) := by decide +kernel
theorem D_Law_tries_70 : decode m_Law_tries.2.1 70 = .ok (.iload 10, 2) := by decide +kernel
theorem D_Law_tries_72 : decode m_Law_tries.2.1 72 = .ok (.iconst 0, 1) := by decide +kernel
theorem D_Law_tries_73 : decode m_Law_tries.2.1 73 = .ok (.invokevirtual 33, 3) := by decide +kernel
theorem D_Law_tries_76 : decode m_Law_tries.2.1 76 = .ok (.istore 11, 2) := by decide +kernel
theorem D_Law_tries_78 : decode m_Law_tries.2.1 78 = .ok (.iload 11, 2) := by decide +kernel
theorem D_Law_tries_80 : decode m_Law_tries.2.1 80 = .ok (.ifCond .le 7, 3) := by decide +kernel
theorem D_Law_tries_83 : decode m_Law_tries.2.1 83 = .ok (.iconst 0, 1) := by decide +kernel
theorem D_Law_tries_84 : decode m_Law_tries.2.1 84 = .ok (.goto 22, 3) := by decide +kernel
theorem D_Law_tries_87 : decode m_Law_tries.2.1 87 = .ok (.iconst 1, 1) := by decide +kernel
theorem D_Law_tries_88 : decode m_Law_tries.2.1 88 = .ok (.iload_n 1, 1) := by decide +kernel
theorem D_Law_tries_89 : decode m_Law_tries.2.1 89 = .ok (.iload 9, 2) := by decide +kernel
theorem D_Law_tries_91 : decode m_Law_tries.2.1 91 = .ok (.iload 10, 2) := by decide +kernel
theorem D_Law_tries_93 : decode m_Law_tries.2.1 93 = .ok (.iadd, 1) := by decide +kernel
theorem D_Law_tries_94 : decode m_Law_tries.2.1 94 = .ok (.ishr, 1) := by decide +kernel
theorem D_Law_tries_95 : decode m_Law_tries.2.1 95 = .ok (.aload_n 0, 1) := by decide +kernel
theorem D_Law_tries_96 : decode m_Law_tries.2.1 96 = .ok (.iconst 2, 1) := by decide +kernel
theorem D_Law_tries_97 : decode m_Law_tries.2.1 97 = .ok (.invokevirtual 26, 3) := by decide +kernel
theorem D_Law_tries_100 : decode m_Law_tries.2.1 100 = .ok (.iconst 1, 1) := by decide +kernel
theorem D_Law_tries_101 : decode m_Law_tries.2.1 101 = .ok (.isub, 1) := by decide +kernel
theorem D_Law_tries_102 : decode m_Law_tries.2.1 102 = .ok (.invokestatic 16, 3) := by decide +kernel
theorem D_Law_tries_105 : decode m_Law_tries.2.1 105 = .ok (.iadd, 1) := by decide +kernel
theorem D_Law_tries_106 : decode m_Law_tries.2.1 106 = .ok (.istore 12, 2) := by decide +kernel
theorem D_Law_tries_108 : decode m_Law_tries.2.1 108 = .ok (.aload_n 0, 1) := by decide +kernel
theorem D_Law_tries_109 : decode m_Law_tries.2.1 109 = .ok (.iload 9, 2) := by decide +kernel
theorem D_Law_tries_111 : decode m_Law_tries.2.1 111 = .ok (.iload 10, 2) := by decide +kernel
theorem D_Law_tries_113 : decode m_Law_tries.2.1 113 = .ok (.iload 12, 2) := by decide +kernel
theorem D_Law_tries_115 : decode m_Law_tries.2.1 115 = .ok (.invokevirtual 67, 3) := by decide +kernel
theorem D_Law_tries_118 : decode m_Law_tries.2.1 118 = .ok (.istore 13, 2) := by decide +kernel
theorem D_Law_tries_120 : decode m_Law_tries.2.1 120 = .ok (.aload_n 0, 1) := by decide +kernel
theorem D_Law_tries_121 : decode m_Law_tries.2.1 121 = .ok (.iload 9, 2) := by decide +kernel
theorem D_Law_tries_123 : decode m_Law_tries.2.1 123 = .ok (.iload 10, 2) := by decide +kernel
theorem D_Law_tries_125 : decode m_Law_tries.2.1 125 = .ok (.iconst 2, 1) := by decide +kernel
theorem D_Law_tries_126 : decode m_Law_tries.2.1 126 = .ok (.invokevirtual 33, 3) := by decide +kernel
theorem D_Law_tries_129 : decode m_Law_tries.2.1 129 = .ok (.istore 14, 2) := by decide +kernel
theorem D_Law_tries_131 : decode m_Law_tries.2.1 131 = .ok (.aload_n 0, 1) := by decide +kernel
theorem D_Law_tries_132 : decode m_Law_tries.2.1 132 = .ok (.iload 9, 2) := by decide +kernel
theorem D_Law_tries_134 : decode m_Law_tries.2.1 134 = .ok (.iload 10, 2) := by decide +kernel
theorem D_Law_tries_136 : decode m_Law_tries.2.1 136 = .ok (.iload 12, 2) := by decide +kernel
theorem D_Law_tries_138 : decode m_Law_tries.2.1 138 = .ok (.invokevirtual 30, 3) := by decide +kernel
theorem D_Law_tries_141 : decode m_Law_tries.2.1 141 = .ok (.iload 11, 2) := by decide +kernel
theorem D_Law_tries_143 : decode m_Law_tries.2.1 143 = .ok (.if_icmp .ne 13, 3) := by decide +kernel
theorem D_Law_tries_146 : decode m_Law_tries.2.1 146 = .ok (.aload_n 0, 1) := by decide +kernel
theorem D_Law_tries_147 : decode m_Law_tries.2.1 147 = .ok (.iconst 5, 1) := by decide +kernel
theorem D_Law_tries_148 : decode m_Law_tries.2.1 148 = .ok (.invokevirtual 26, 3) := by decide +kernel
theorem D_Law_tries_151 : decode m_Law_tries.2.1 151 = .ok (.iload 13, 2) := by decide +kernel
theorem D_Law_tries_153 : decode m_Law_tries.2.1 153 = .ok (.if_icmp .eq 5, 3) := by decide +kernel
theorem D_Law_tries_156 : decode m_Law_tries.2.1 156 = .ok (.iconst 0, 1) := by decide +kernel
theorem D_Law_tries_157 : decode m_Law_tries.2.1 157 = .ok (.ireturn, 1) := by decide +kernel
theorem D_Law_tries_158 : decode m_Law_tries.2.1 158 = .ok (.iload 11, 2) := by decide +kernel
theorem D_Law_tries_160 : decode m_Law_tries.2.1 160 = .ok (.ifCond .le 7, 3) := by decide +kernel
theorem D_Law_tries_163 : decode m_Law_tries.2.1 163 = .ok (.iconst 0, 1) := by decide +kernel
theorem D_Law_tries_164 : decode m_Law_tries.2.1 164 = .ok (.goto 12, 3) := by decide +kernel
theorem D_Law_tries_167 : decode m_Law_tries.2.1 167 = .ok (.aload_n 0, 1) := by decide +kernel
theorem D_Law_tries_168 : decode m_Law_tries.2.1 168 = .ok (.bipush 6, 2) := by decide +kernel
theorem D_Law_tries_170 : decode m_Law_tries.2.1 170 = .ok (.invokevirtual 26, 3) := by decide +kernel
theorem D_Law_tries_173 : decode m_Law_tries.2.1 173 = .ok (.iload 6, 2) := by decide +kernel
theorem D_Law_tries_175 : decode m_Law_tries.2.1 175 = .ok (.isub, 1) := by decide +kernel
theorem D_Law_tries_176 : decode m_Law_tries.2.1 176 = .ok (.istore 15, 2) := by decide +kernel
theorem D_Law_tries_178 : decode m_Law_tries.2.1 178 = .ok (.iload 11, 2) := by decide +kernel
theorem D_Law_tries_180 : decode m_Law_tries.2.1 180 = .ok (.ifCond .eq 40, 3) := by decide +kernel
theorem D_Law_tries_183 : decode m_Law_tries.2.1 183 = .ok (.iload 14, 2) := by decide +kernel
theorem D_Law_tries_185 : decode m_Law_tries.2.1 185 = .ok (.aload_n 0, 1) := by decide +kernel
theorem D_Law_tries_186 : decode m_Law_tries.2.1 186 = .ok (.iload 9, 2) := by decide +kernel
theorem D_Law_tries_188 : decode m_Law_tries.2.1 188 = .ok (.iload 10, 2) := by decide +kernel
theorem D_Law_tries_190 : decode m_Law_tries.2.1 190 = .ok (.iconst 1, 1) := by decide +kernel
theorem D_Law_tries_191 : decode m_Law_tries.2.1 191 = .ok (.invokevirtual 33, 3) := by decide +kernel
theorem D_Law_tries_194 : decode m_Law_tries.2.1 194 = .ok (.if_icmp .ne 30, 3) := by decide +kernel
theorem D_Law_tries_197 : decode m_Law_tries.2.1 197 = .ok (.iload_n 2, 1) := by decide +kernel
theorem D_Law_tries_198 : decode m_Law_tries.2.1 198 = .ok (.ifCond .ne 22, 3) := by decide +kernel
theorem D_Law_tries_201 : decode m_Law_tries.2.1 201 = .ok (.lload_n 3, 1) := by decide +kernel
theorem D_Law_tries_202 : decode m_Law_tries.2.1 202 = .ok (.bipush 6, 2) := by decide +kernel
theorem D_Law_tries_204 : decode m_Law_tries.2.1 204 = .ok (.iload 9, 2) := by decide +kernel
theorem D_Law_tries_206 : decode m_Law_tries.2.1 206 = .ok (.imul, 1) := by decide +kernel
theorem D_Law_tries_207 : decode m_Law_tries.2.1 207 = .ok (.iload 10, 2) := by decide +kernel
theorem D_Law_tries_209 : decode m_Law_tries.2.1 209 = .ok (.iadd, 1) := by decide +kernel
theorem D_Law_tries_210 : decode m_Law_tries.2.1 210 = .ok (.lshr, 1) := by decide +kernel
theorem D_Law_tries_211 : decode m_Law_tries.2.1 211 = .ok (.lconst 1, 1) := by decide +kernel
theorem D_Law_tries_212 : decode m_Law_tries.2.1 212 = .ok (.land, 1) := by decide +kernel
theorem D_Law_tries_213 : decode m_Law_tries.2.1 213 = .ok (.iload 13, 2) := by decide +kernel
theorem D_Law_tries_215 : decode m_Law_tries.2.1 215 = .ok (.i2l, 1) := by decide +kernel
theorem D_Law_tries_216 : decode m_Law_tries.2.1 216 = .ok (.lcmp, 1) := by decide +kernel
theorem D_Law_tries_217 : decode m_Law_tries.2.1 217 = .ok (.ifCond .ne 7, 3) := by decide +kernel
theorem D_Law_tries_220 : decode m_Law_tries.2.1 220 = .ok (.iconst 1, 1) := by decide +kernel
theorem D_Law_tries_221 : decode m_Law_tries.2.1 221 = .ok (.goto 4, 3) := by decide +kernel
theorem D_Law_tries_224 : decode m_Law_tries.2.1 224 = .ok (.iconst 0, 1) := by decide +kernel
theorem D_Law_tries_225 : decode m_Law_tries.2.1 225 = .ok (.istore 16, 2) := by decide +kernel
theorem D_Law_tries_227 : decode m_Law_tries.2.1 227 = .ok (.iload 16, 2) := by decide +kernel
theorem D_Law_tries_229 : decode m_Law_tries.2.1 229 = .ok (.ifCond .eq 24, 3) := by decide +kernel
theorem D_Law_tries_232 : decode m_Law_tries.2.1 232 = .ok (.aload_n 0, 1) := by decide +kernel
theorem D_Law_tries_233 : decode m_Law_tries.2.1 233 = .ok (.invokevirtual 70, 3) := by decide +kernel
theorem D_Law_tries_236 : decode m_Law_tries.2.1 236 = .ok (.ifCond .lt 17, 3) := by decide +kernel
theorem D_Law_tries_239 : decode m_Law_tries.2.1 239 = .ok (.aload_n 0, 1) := by decide +kernel
theorem D_Law_tries_240 : decode m_Law_tries.2.1 240 = .ok (.iload 9, 2) := by decide +kernel
theorem D_Law_tries_242 : decode m_Law_tries.2.1 242 = .ok (.iload 10, 2) := by decide +kernel
theorem D_Law_tries_244 : decode m_Law_tries.2.1 244 = .ok (.iconst 0, 1) := by decide +kernel
theorem D_Law_tries_245 : decode m_Law_tries.2.1 245 = .ok (.invokevirtual 33, 3) := by decide +kernel
theorem D_Law_tries_248 : decode m_Law_tries.2.1 248 = .ok (.iload 11, 2) := by decide +kernel
theorem D_Law_tries_250 : decode m_Law_tries.2.1 250 = .ok (.if_icmp .eq 5, 3) := by decide +kernel
theorem D_Law_tries_253 : decode m_Law_tries.2.1 253 = .ok (.iconst 0, 1) := by decide +kernel
theorem D_Law_tries_254 : decode m_Law_tries.2.1 254 = .ok (.ireturn, 1) := by decide +kernel
theorem D_Law_tries_255 : decode m_Law_tries.2.1 255 = .ok (.iload 15, 2) := by decide +kernel
theorem D_Law_tries_257 : decode m_Law_tries.2.1 257 = .ok (.iload 7, 2) := by decide +kernel
theorem D_Law_tries_259 : decode m_Law_tries.2.1 259 = .ok (.if_icmp .le 14, 3) := by decide +kernel
theorem D_Law_tries_262 : decode m_Law_tries.2.1 262 = .ok (.bipush 6, 2) := by decide +kernel
theorem D_Law_tries_264 : decode m_Law_tries.2.1 264 = .ok (.iload 9, 2) := by decide +kernel
theorem D_Law_tries_266 : decode m_Law_tries.2.1 266 = .ok (.imul, 1) := by decide +kernel
theorem D_Law_tries_267 : decode m_Law_tries.2.1 267 = .ok (.iload 10, 2) := by decide +kernel
theorem D_Law_tries_269 : decode m_Law_tries.2.1 269 = .ok (.iadd, 1) := by decide +kernel
theorem D_Law_tries_270 : decode m_Law_tries.2.1 270 = .ok (.goto 5, 3) := by decide +kernel
theorem D_Law_tries_273 : decode m_Law_tries.2.1 273 = .ok (.iload 8, 2) := by decide +kernel
theorem D_Law_tries_275 : decode m_Law_tries.2.1 275 = .ok (.istore 8, 2) := by decide +kernel
theorem D_Law_tries_277 : decode m_Law_tries.2.1 277 = .ok (.iload 15, 2) := by decide +kernel
theorem D_Law_tries_279 : decode m_Law_tries.2.1 279 = .ok (.iload 7, 2) := by decide +kernel
theorem D_Law_tries_281 : decode m_Law_tries.2.1 281 = .ok (.if_icmp .le 8, 3) := by decide +kernel
theorem D_Law_tries_284 : decode m_Law_tries.2.1 284 = .ok (.iload 15, 2) := by decide +kernel
theorem D_Law_tries_286 : decode m_Law_tries.2.1 286 = .ok (.goto 5, 3) := by decide +kernel
theorem D_Law_tries_289 : decode m_Law_tries.2.1 289 = .ok (.iload 7, 2) := by decide +kernel
theorem D_Law_tries_291 : decode m_Law_tries.2.1 291 = .ok (.istore 7, 2) := by decide +kernel
theorem D_Law_tries_293 : decode m_Law_tries.2.1 293 = .ok (.iinc 10 1, 3) := by decide +kernel
theorem D_Law_tries_296 : decode m_Law_tries.2.1 296 = .ok (.goto (-239), 3) := by decide +kernel
theorem D_Law_tries_299 : decode m_Law_tries.2.1 299 = .ok (.iinc 9 1, 3) := by decide +kernel
theorem D_Law_tries_302 : decode m_Law_tries.2.1 302 = .ok (.goto (-258), 3) := by decide +kernel
theorem D_Law_tries_305 : decode m_Law_tries.2.1 305 = .ok (.iload_n 2, 1) := by decide +kernel
theorem D_Law_tries_306 : decode m_Law_tries.2.1 306 = .ok (.lload_n 3, 1) := by decide +kernel
theorem D_Law_tries_307 : decode m_Law_tries.2.1 307 = .ok (.ldc2_w 74, 3) := by decide +kernel
theorem D_Law_tries_310 : decode m_Law_tries.2.1 310 = .ok (.lcmp, 1) := by decide +kernel
theorem D_Law_tries_311 : decode m_Law_tries.2.1 311 = .ok (.ifCond .ne 7, 3) := by decide +kernel
theorem D_Law_tries_314 : decode m_Law_tries.2.1 314 = .ok (.iconst 1, 1) := by decide +kernel
theorem D_Law_tries_315 : decode m_Law_tries.2.1 315 = .ok (.goto 4, 3) := by decide +kernel
theorem D_Law_tries_318 : decode m_Law_tries.2.1 318 = .ok (.iconst 0, 1) := by decide +kernel
theorem D_Law_tries_319 : decode m_Law_tries.2.1 319 = .ok (.if_icmp .eq 5, 3) := by decide +kernel
theorem D_Law_tries_322 : decode m_Law_tries.2.1 322 = .ok (.iconst 0, 1) := by decide +kernel
theorem D_Law_tries_323 : decode m_Law_tries.2.1 323 = .ok (.ireturn, 1) := by decide +kernel
theorem D_Law_tries_324 : decode m_Law_tries.2.1 324 = .ok (.iload 8, 2) := by decide +kernel
theorem D_Law_tries_326 : decode m_Law_tries.2.1 326 = .ok (.ifCond .ge 27, 3) := by decide +kernel
theorem D_Law_tries_329 : decode m_Law_tries.2.1 329 = .ok (.iload 5, 2) := by decide +kernel
theorem D_Law_tries_331 : decode m_Law_tries.2.1 331 = .ok (.bipush (-6), 2) := by decide +kernel
theorem D_Law_tries_333 : decode m_Law_tries.2.1 333 = .ok (.if_icmp .ne 16, 3) := by decide +kernel
theorem D_Law_tries_336 : decode m_Law_tries.2.1 336 = .ok (.aload_n 0, 1) := by decide +kernel
theorem D_Law_tries_337 : decode m_Law_tries.2.1 337 = .ok (.iconst 4, 1) := by decide +kernel
theorem D_Law_tries_338 : decode m_Law_tries.2.1 338 = .ok (.invokevirtual 26, 3) := by decide +kernel
theorem D_Law_tries_341 : decode m_Law_tries.2.1 341 = .ok (.iconst 1, 1) := by decide +kernel
theorem D_Law_tries_342 : decode m_Law_tries.2.1 342 = .ok (.if_icmp .ne 7, 3) := by decide +kernel
theorem D_Law_tries_345 : decode m_Law_tries.2.1 345 = .ok (.iconst 1, 1) := by decide +kernel
theorem D_Law_tries_346 : decode m_Law_tries.2.1 346 = .ok (.goto 38, 3) := by decide +kernel
theorem D_Law_tries_349 : decode m_Law_tries.2.1 349 = .ok (.iconst 0, 1) := by decide +kernel
theorem D_Law_tries_350 : decode m_Law_tries.2.1 350 = .ok (.goto 34, 3) := by decide +kernel
theorem D_Law_tries_353 : decode m_Law_tries.2.1 353 = .ok (.iload 5, 2) := by decide +kernel
theorem D_Law_tries_355 : decode m_Law_tries.2.1 355 = .ok (.iload 7, 2) := by decide +kernel
theorem D_Law_tries_357 : decode m_Law_tries.2.1 357 = .ok (.if_icmp .ne 26, 3) := by decide +kernel
theorem D_Law_tries_360 : decode m_Law_tries.2.1 360 = .ok (.bipush 6, 2) := by decide +kernel
theorem D_Law_tries_362 : decode m_Law_tries.2.1 362 = .ok (.aload_n 0, 1) := by decide +kernel
theorem D_Law_tries_363 : decode m_Law_tries.2.1 363 = .ok (.iconst 0, 1) := by decide +kernel
theorem D_Law_tries_364 : decode m_Law_tries.2.1 364 = .ok (.invokevirtual 64, 3) := by decide +kernel
theorem D_Law_tries_367 : decode m_Law_tries.2.1 367 = .ok (.imul, 1) := by decide +kernel
theorem D_Law_tries_368 : decode m_Law_tries.2.1 368 = .ok (.aload_n 0, 1) := by decide +kernel
theorem D_Law_tries_369 : decode m_Law_tries.2.1 369 = .ok (.iconst 1, 1) := by decide +kernel
theorem D_Law_tries_370 : decode m_Law_tries.2.1 370 = .ok (.invokevirtual 64, 3) := by decide +kernel
theorem D_Law_tries_373 : decode m_Law_tries.2.1 373 = .ok (.iadd, 1) := by decide +kernel
theorem D_Law_tries_374 : decode m_Law_tries.2.1 374 = .ok (.iload 8, 2) := by decide +kernel
theorem D_Law_tries_376 : decode m_Law_tries.2.1 376 = .ok (.if_icmp .ne 7, 3) := by decide +kernel
theorem D_Law_tries_379 : decode m_Law_tries.2.1 379 = .ok (.iconst 1, 1) := by decide +kernel
theorem D_Law_tries_380 : decode m_Law_tries.2.1 380 = .ok (.goto 4, 3) := by decide +kernel
theorem D_Law_tries_383 : decode m_Law_tries.2.1 383 = .ok (.iconst 0, 1) := by decide +kernel
theorem D_Law_tries_384 : decode m_Law_tries.2.1 384 = .ok (.ireturn, 1) := by decide +kernel
theorem D_Law_cycles_0 : decode m_Law_cycles.2.1 0 = .ok (.iconst 0, 1) := by decide +kernel
theorem D_Law_cycles_1 : decode m_Law_cycles.2.1 1 = .ok (.istore_n 1, 1) := by decide +kernel
theorem D_Law_cycles_2 : decode m_Law_cycles.2.1 2 = .ok (.iconst 0, 1) := by decide +kernel
theorem D_Law_cycles_3 : decode m_Law_cycles.2.1 3 = .ok (.istore_n 2, 1) := by decide +kernel
theorem D_Law_cycles_4 : decode m_Law_cycles.2.1 4 = .ok (.iconst 4, 1) := by decide +kernel
theorem D_Law_cycles_5 : decode m_Law_cycles.2.1 5 = .ok (.istore_n 3, 1) := by decide +kernel
theorem D_Law_cycles_6 : decode m_Law_cycles.2.1 6 = .ok (.iload_n 3, 1) := by decide +kernel
theorem D_Law_cycles_7 : decode m_Law_cycles.2.1 7 = .ok (.bipush 12, 2) := by decide +kernel
theorem D_Law_cycles_9 : decode m_Law_cycles.2.1 9 = .ok (.if_icmp .gt 67, 3) := by decide +kernel
theorem D_Law_cycles_12 : decode m_Law_cycles.2.1 12 = .ok (.aload_n 0, 1) := by decide +kernel
theorem D_Law_cycles_13 : decode m_Law_cycles.2.1 13 = .ok (.iload_n 3, 1) := by decide +kernel
theorem D_Law_cycles_14 : decode m_Law_cycles.2.1 14 = .ok (.iconst 1, 1) := by decide +kernel
theorem D_Law_cycles_15 : decode m_Law_cycles.2.1 15 = .ok (.invokevirtual 76, 3) := by decide +kernel
theorem D_Law_cycles_18 : decode m_Law_cycles.2.1 18 = .ok (.istore 4, 2) := by decide +kernel
theorem D_Law_cycles_20 : decode m_Law_cycles.2.1 20 = .ok (.aload_n 0, 1) := by decide +kernel
theorem D_Law_cycles_21 : decode m_Law_cycles.2.1 21 = .ok (.iload_n 3, 1) := by decide +kernel
theorem D_Law_cycles_22 : decode m_Law_cycles.2.1 22 = .ok (.iconst 0, 1) := by decide +kernel
theorem D_Law_cycles_23 : decode m_Law_cycles.2.1 23 = .ok (.invokevirtual 76, 3) := by decide +kernel
theorem D_Law_cycles_26 : decode m_Law_cycles.2.1 26 = .ok (.istore 5, 2) := by decide +kernel
theorem D_Law_cycles_28 : decode m_Law_cycles.2.1 28 = .ok (.iload 4, 2) := by decide +kernel
theorem D_Law_cycles_30 : decode m_Law_cycles.2.1 30 = .ok (.ifCond .lt 10, 3) := by decide +kernel
theorem D_Law_cycles_33 : decode m_Law_cycles.2.1 33 = .ok (.iload 4, 2) := by decide +kernel
theorem D_Law_cycles_35 : decode m_Law_cycles.2.1 35 = .ok (.iload 5, 2) := by decide +kernel
theorem D_Law_cycles_37 : decode m_Law_cycles.2.1 37 = .ok (.if_icmp .le 5, 3) := by decide +kernel
theorem D_Law_cycles_40 : decode m_Law_cycles.2.1 40 = .ok (.iconst 0, 1) := by decide +kernel
theorem D_Law_cycles_41 : decode m_Law_cycles.2.1 41 = .ok (.ireturn, 1) := by decide +kernel
theorem D_Law_cycles_42 : decode m_Law_cycles.2.1 42 = .ok (.iload 4, 2) := by decide +kernel
theorem D_Law_cycles_44 : decode m_Law_cycles.2.1 44 = .ok (.ifCond .le 11, 3) := by decide +kernel
theorem D_Law_cycles_47 : decode m_Law_cycles.2.1 47 = .ok (.iload_n 2, 1) := by decide +kernel
theorem D_Law_cycles_48 : decode m_Law_cycles.2.1 48 = .ok (.ifCond .ne 7, 3) := by decide +kernel
theorem D_Law_cycles_51 : decode m_Law_cycles.2.1 51 = .ok (.iload_n 3, 1) := by decide +kernel
theorem D_Law_cycles_52 : decode m_Law_cycles.2.1 52 = .ok (.goto 4, 3) := by decide +kernel
theorem D_Law_cycles_55 : decode m_Law_cycles.2.1 55 = .ok (.iload_n 2, 1) := by decide +kernel
theorem D_Law_cycles_56 : decode m_Law_cycles.2.1 56 = .ok (.istore_n 2, 1) := by decide +kernel
theorem D_Law_cycles_57 : decode m_Law_cycles.2.1 57 = .ok (.iload_n 1, 1) := by decide +kernel
theorem D_Law_cycles_58 : decode m_Law_cycles.2.1 58 = .ok (.iload 4, 2) := by decide +kernel
theorem D_Law_cycles_60 : decode m_Law_cycles.2.1 60 = .ok (.ifCond .le 7, 3) := by decide +kernel
theorem D_Law_cycles_63 : decode m_Law_cycles.2.1 63 = .ok (.iconst 1, 1) := by decide +kernel
theorem D_Law_cycles_64 : decode m_Law_cycles.2.1 64 = .ok (.goto 4, 3) := by decide +kernel
theorem D_Law_cycles_67 : decode m_Law_cycles.2.1 67 = .ok (.iconst 0, 1) := by decide +kernel
theorem D_Law_cycles_68 : decode m_Law_cycles.2.1 68 = .ok (.iadd, 1) := by decide +kernel
theorem D_Law_cycles_69 : decode m_Law_cycles.2.1 69 = .ok (.istore_n 1, 1) := by decide +kernel
theorem D_Law_cycles_70 : decode m_Law_cycles.2.1 70 = .ok (.iinc 3 2, 3) := by decide +kernel
theorem D_Law_cycles_73 : decode m_Law_cycles.2.1 73 = .ok (.goto (-67), 3) := by decide +kernel
theorem D_Law_cycles_76 : decode m_Law_cycles.2.1 76 = .ok (.iload_n 1, 1) := by decide +kernel
theorem D_Law_cycles_77 : decode m_Law_cycles.2.1 77 = .ok (.ifCond .ne 7, 3) := by decide +kernel
theorem D_Law_cycles_80 : decode m_Law_cycles.2.1 80 = .ok (.iconst 1, 1) := by decide +kernel
theorem D_Law_cycles_81 : decode m_Law_cycles.2.1 81 = .ok (.goto 4, 3) := by decide +kernel
theorem D_Law_cycles_84 : decode m_Law_cycles.2.1 84 = .ok (.iconst 0, 1) := by decide +kernel
theorem D_Law_cycles_85 : decode m_Law_cycles.2.1 85 = .ok (.aload_n 0, 1) := by decide +kernel
theorem D_Law_cycles_86 : decode m_Law_cycles.2.1 86 = .ok (.iconst 5, 1) := by decide +kernel
theorem D_Law_cycles_87 : decode m_Law_cycles.2.1 87 = .ok (.invokevirtual 26, 3) := by decide +kernel
theorem D_Law_cycles_90 : decode m_Law_cycles.2.1 90 = .ok (.iconst 1, 1) := by decide +kernel
theorem D_Law_cycles_91 : decode m_Law_cycles.2.1 91 = .ok (.if_icmp .ne 7, 3) := by decide +kernel
theorem D_Law_cycles_94 : decode m_Law_cycles.2.1 94 = .ok (.iconst 1, 1) := by decide +kernel
theorem D_Law_cycles_95 : decode m_Law_cycles.2.1 95 = .ok (.goto 4, 3) := by decide +kernel
theorem D_Law_cycles_98 : decode m_Law_cycles.2.1 98 = .ok (.iconst 0, 1) := by decide +kernel
theorem D_Law_cycles_99 : decode m_Law_cycles.2.1 99 = .ok (.if_icmp .ne 37, 3) := by decide +kernel
theorem D_Law_cycles_102 : decode m_Law_cycles.2.1 102 = .ok (.aload_n 0, 1) := by decide +kernel
theorem D_Law_cycles_103 : decode m_Law_cycles.2.1 103 = .ok (.iconst 4, 1) := by decide +kernel
theorem D_Law_cycles_104 : decode m_Law_cycles.2.1 104 = .ok (.iconst 0, 1) := by decide +kernel
theorem D_Law_cycles_105 : decode m_Law_cycles.2.1 105 = .ok (.invokevirtual 76, 3) := by decide +kernel
theorem D_Law_cycles_108 : decode m_Law_cycles.2.1 108 = .ok (.aload_n 0, 1) := by decide +kernel
theorem D_Law_cycles_109 : decode m_Law_cycles.2.1 109 = .ok (.bipush 7, 2) := by decide +kernel
theorem D_Law_cycles_111 : decode m_Law_cycles.2.1 111 = .ok (.invokevirtual 26, 3) := by decide +kernel
theorem D_Law_cycles_114 : decode m_Law_cycles.2.1 114 = .ok (.if_icmp .ne 22, 3) := by decide +kernel
theorem D_Law_cycles_117 : decode m_Law_cycles.2.1 117 = .ok (.aload_n 0, 1) := by decide +kernel
theorem D_Law_cycles_118 : decode m_Law_cycles.2.1 118 = .ok (.iconst 4, 1) := by decide +kernel
theorem D_Law_cycles_119 : decode m_Law_cycles.2.1 119 = .ok (.iconst 1, 1) := by decide +kernel
theorem D_Law_cycles_120 : decode m_Law_cycles.2.1 120 = .ok (.invokevirtual 76, 3) := by decide +kernel
theorem D_Law_cycles_123 : decode m_Law_cycles.2.1 123 = .ok (.aload_n 0, 1) := by decide +kernel
theorem D_Law_cycles_124 : decode m_Law_cycles.2.1 124 = .ok (.bipush 8, 2) := by decide +kernel
theorem D_Law_cycles_126 : decode m_Law_cycles.2.1 126 = .ok (.invokevirtual 26, 3) := by decide +kernel
theorem D_Law_cycles_129 : decode m_Law_cycles.2.1 129 = .ok (.if_icmp .ne 7, 3) := by decide +kernel
theorem D_Law_cycles_132 : decode m_Law_cycles.2.1 132 = .ok (.iconst 1, 1) := by decide +kernel
theorem D_Law_cycles_133 : decode m_Law_cycles.2.1 133 = .ok (.goto 4, 3) := by decide +kernel
theorem D_Law_cycles_136 : decode m_Law_cycles.2.1 136 = .ok (.iconst 0, 1) := by decide +kernel
theorem D_Law_cycles_137 : decode m_Law_cycles.2.1 137 = .ok (.istore_n 3, 1) := by decide +kernel
theorem D_Law_cycles_138 : decode m_Law_cycles.2.1 138 = .ok (.iload_n 3, 1) := by decide +kernel
theorem D_Law_cycles_139 : decode m_Law_cycles.2.1 139 = .ok (.ifCond .eq 25, 3) := by decide +kernel
theorem D_Law_cycles_142 : decode m_Law_cycles.2.1 142 = .ok (.aload_n 0, 1) := by decide +kernel
theorem D_Law_cycles_143 : decode m_Law_cycles.2.1 143 = .ok (.iconst 0, 1) := by decide +kernel
theorem D_Law_cycles_144 : decode m_Law_cycles.2.1 144 = .ok (.invokevirtual 79, 3) := by decide +kernel
theorem D_Law_cycles_147 : decode m_Law_cycles.2.1 147 = .ok (.iload_n 1, 1) := by decide +kernel
theorem D_Law_cycles_148 : decode m_Law_cycles.2.1 148 = .ok (.ifCond .ne 8, 3) := by decide +kernel
theorem D_Law_cycles_151 : decode m_Law_cycles.2.1 151 = .ok (.bipush (-6), 2) := by decide +kernel
theorem D_Law_cycles_153 : decode m_Law_cycles.2.1 153 = .ok (.goto 4, 3) := by decide +kernel
theorem D_Law_cycles_156 : decode m_Law_cycles.2.1 156 = .ok (.iload_n 2, 1) := by decide +kernel
theorem D_Law_cycles_157 : decode m_Law_cycles.2.1 157 = .ok (.if_icmp .ne 7, 3) := by decide +kernel
theorem D_Law_cycles_160 : decode m_Law_cycles.2.1 160 = .ok (.iconst 1, 1) := by decide +kernel
theorem D_Law_cycles_161 : decode m_Law_cycles.2.1 161 = .ok (.goto 4, 3) := by decide +kernel
theorem D_Law_cycles_164 : decode m_Law_cycles.2.1 164 = .ok (.iconst 0, 1) := by decide +kernel
theorem D_Law_cycles_165 : decode m_Law_cycles.2.1 165 = .ok (.istore_n 3, 1) := by decide +kernel
theorem D_Law_cycles_166 : decode m_Law_cycles.2.1 166 = .ok (.iload_n 3, 1) := by decide +kernel
theorem D_Law_cycles_167 : decode m_Law_cycles.2.1 167 = .ok (.ifCond .eq 39, 3) := by decide +kernel
theorem D_Law_cycles_170 : decode m_Law_cycles.2.1 170 = .ok (.iload_n 1, 1) := by decide +kernel
theorem D_Law_cycles_171 : decode m_Law_cycles.2.1 171 = .ok (.ifCond .eq 31, 3) := by decide +kernel
theorem D_Law_cycles_174 : decode m_Law_cycles.2.1 174 = .ok (.aload_n 0, 1) := by decide +kernel
theorem D_Law_cycles_175 : decode m_Law_cycles.2.1 175 = .ok (.iconst 1, 1) := by decide +kernel
theorem D_Law_cycles_176 : decode m_Law_cycles.2.1 176 = .ok (.invokevirtual 79, 3) := by decide +kernel
theorem D_Law_cycles_179 : decode m_Law_cycles.2.1 179 = .ok (.invokestatic 39, 3) := by decide +kernel
theorem D_Law_cycles_182 : decode m_Law_cycles.2.1 182 = .ok (.iload_n 2, 1) := by decide +kernel
theorem D_Law_cycles_183 : decode m_Law_cycles.2.1 183 = .ok (.iconst 2, 1) := by decide +kernel
theorem D_Law_cycles_184 : decode m_Law_cycles.2.1 184 = .ok (.idiv, 1) := by decide +kernel
theorem D_Law_cycles_185 : decode m_Law_cycles.2.1 185 = .ok (.if_icmp .ne 21, 3) := by decide +kernel
theorem D_Law_cycles_188 : decode m_Law_cycles.2.1 188 = .ok (.aload_n 0, 1) := by decide +kernel
theorem D_Law_cycles_189 : decode m_Law_cycles.2.1 189 = .ok (.iconst 2, 1) := by decide +kernel
theorem D_Law_cycles_190 : decode m_Law_cycles.2.1 190 = .ok (.invokevirtual 79, 3) := by decide +kernel
theorem D_Law_cycles_193 : decode m_Law_cycles.2.1 193 = .ok (.invokestatic 39, 3) := by decide +kernel
theorem D_Law_cycles_196 : decode m_Law_cycles.2.1 196 = .ok (.iload_n 2, 1) := by decide +kernel
theorem D_Law_cycles_197 : decode m_Law_cycles.2.1 197 = .ok (.iconst 2, 1) := by decide +kernel
theorem D_Law_cycles_198 : decode m_Law_cycles.2.1 198 = .ok (.idiv, 1) := by decide +kernel
theorem D_Law_cycles_199 : decode m_Law_cycles.2.1 199 = .ok (.if_icmp .ne 7, 3) := by decide +kernel
theorem D_Law_cycles_202 : decode m_Law_cycles.2.1 202 = .ok (.iconst 1, 1) := by decide +kernel
theorem D_Law_cycles_203 : decode m_Law_cycles.2.1 203 = .ok (.goto 4, 3) := by decide +kernel
theorem D_Law_cycles_206 : decode m_Law_cycles.2.1 206 = .ok (.iconst 0, 1) := by decide +kernel
theorem D_Law_cycles_207 : decode m_Law_cycles.2.1 207 = .ok (.istore_n 3, 1) := by decide +kernel
theorem D_Law_cycles_208 : decode m_Law_cycles.2.1 208 = .ok (.aload_n 0, 1) := by decide +kernel
theorem D_Law_cycles_209 : decode m_Law_cycles.2.1 209 = .ok (.bipush 9, 2) := by decide +kernel
theorem D_Law_cycles_211 : decode m_Law_cycles.2.1 211 = .ok (.invokevirtual 26, 3) := by decide +kernel
theorem D_Law_cycles_214 : decode m_Law_cycles.2.1 214 = .ok (.istore 4, 2) := by decide +kernel
theorem D_Law_cycles_216 : decode m_Law_cycles.2.1 216 = .ok (.iload_n 3, 1) := by decide +kernel
theorem D_Law_cycles_217 : decode m_Law_cycles.2.1 217 = .ok (.ifCond .eq 47, 3) := by decide +kernel
theorem D_Law_cycles_220 : decode m_Law_cycles.2.1 220 = .ok (.aload_n 0, 1) := by decide +kernel
theorem D_Law_cycles_221 : decode m_Law_cycles.2.1 221 = .ok (.iconst 3, 1) := by decide +kernel
theorem D_Law_cycles_222 : decode m_Law_cycles.2.1 222 = .ok (.invokevirtual 26, 3) := by decide +kernel
theorem D_Law_cycles_225 : decode m_Law_cycles.2.1 225 = .ok (.ifCond .ne 11, 3) := by decide +kernel
theorem D_Law_cycles_228 : decode m_Law_cycles.2.1 228 = .ok (.iload 4, 2) := by decide +kernel
theorem D_Law_cycles_230 : decode m_Law_cycles.2.1 230 = .ok (.ifCond .ne 34, 3) := by decide +kernel
theorem D_Law_cycles_233 : decode m_Law_cycles.2.1 233 = .ok (.goto 27, 3) := by decide +kernel
theorem D_Law_cycles_236 : decode m_Law_cycles.2.1 236 = .ok (.aload_n 0, 1) := by decide +kernel
theorem D_Law_cycles_237 : decode m_Law_cycles.2.1 237 = .ok (.bipush 8, 2) := by decide +kernel
theorem D_Law_cycles_239 : decode m_Law_cycles.2.1 239 = .ok (.invokevirtual 26, 3) := by decide +kernel
theorem D_Law_cycles_242 : decode m_Law_cycles.2.1 242 = .ok (.ifCond .ne 12, 3) := by decide +kernel
theorem D_Law_cycles_245 : decode m_Law_cycles.2.1 245 = .ok (.iload 4, 2) := by decide +kernel
theorem D_Law_cycles_247 : decode m_Law_cycles.2.1 247 = .ok (.iconst 1, 1) := by decide +kernel
theorem D_Law_cycles_248 : decode m_Law_cycles.2.1 248 = .ok (.if_icmp .ne 16, 3) := by decide +kernel
theorem D_Law_cycles_251 : decode m_Law_cycles.2.1 251 = .ok (.goto 9, 3) := by decide +kernel
theorem D_Law_cycles_254 : decode m_Law_cycles.2.1 254 = .ok (.iload 4, 2) := by decide +kernel
theorem D_Law_cycles_256 : decode m_Law_cycles.2.1 256 = .ok (.iconst 2, 1) := by decide +kernel
theorem D_Law_cycles_257 : decode m_Law_cycles.2.1 257 = .ok (.if_icmp .lt 7, 3) := by decide +kernel
theorem D_Law_cycles_260 : decode m_Law_cycles.2.1 260 = .ok (.iconst 1, 1) := by decide +kernel
theorem D_Law_cycles_261 : decode m_Law_cycles.2.1 261 = .ok (.goto 4, 3) := by decide +kernel
theorem D_Law_cycles_264 : decode m_Law_cycles.2.1 264 = .ok (.iconst 0, 1) := by decide +kernel
theorem D_Law_cycles_265 : decode m_Law_cycles.2.1 265 = .ok (.ireturn, 1) := by decide +kernel
theorem D_Law_law_0 : decode m_Law_law.2.1 0 = .ok (.new 21, 3) := by decide +kernel
theorem D_Law_law_3 : decode m_Law_law.2.1 3 = .ok (.dup, 1) := by decide +kernel
theorem D_Law_law_4 : decode m_Law_law.2.1 4 = .ok (.invokespecial 82, 3) := by decide +kernel
theorem D_Law_law_7 : decode m_Law_law.2.1 7 = .ok (.astore_n 1, 1) := by decide +kernel
theorem D_Law_law_8 : decode m_Law_law.2.1 8 = .ok (.aload_n 1, 1) := by decide +kernel
theorem D_Law_law_9 : decode m_Law_law.2.1 9 = .ok (.invokevirtual 50, 3) := by decide +kernel
theorem D_Law_law_12 : decode m_Law_law.2.1 12 = .ok (.ldc2_w 83, 3) := by decide +kernel
theorem D_Law_law_15 : decode m_Law_law.2.1 15 = .ok (.lcmp, 1) := by decide +kernel
theorem D_Law_law_16 : decode m_Law_law.2.1 16 = .ok (.ifCond .ne 38, 3) := by decide +kernel
theorem D_Law_law_19 : decode m_Law_law.2.1 19 = .ok (.aload_n 1, 1) := by decide +kernel
theorem D_Law_law_20 : decode m_Law_law.2.1 20 = .ok (.aload_n 0, 1) := by decide +kernel
theorem D_Law_law_21 : decode m_Law_law.2.1 21 = .ok (.invokestatic 85, 3) := by decide +kernel
theorem D_Law_law_24 : decode m_Law_law.2.1 24 = .ok (.ifCond .eq 30, 3) := by decide +kernel
theorem D_Law_law_27 : decode m_Law_law.2.1 27 = .ok (.aload_n 1, 1) := by decide +kernel
theorem D_Law_law_28 : decode m_Law_law.2.1 28 = .ok (.invokestatic 89, 3) := by decide +kernel
theorem D_Law_law_31 : decode m_Law_law.2.1 31 = .ok (.ifCond .eq 23, 3) := by decide +kernel
theorem D_Law_law_34 : decode m_Law_law.2.1 34 = .ok (.aload_n 1, 1) := by decide +kernel
theorem D_Law_law_35 : decode m_Law_law.2.1 35 = .ok (.invokestatic 93, 3) := by decide +kernel
theorem D_Law_law_38 : decode m_Law_law.2.1 38 = .ok (.ifCond .eq 16, 3) := by decide +kernel
theorem D_Law_law_41 : decode m_Law_law.2.1 41 = .ok (.aload_n 1, 1) := by decide +kernel
theorem D_Law_law_42 : decode m_Law_law.2.1 42 = .ok (.aload_n 0, 1) := by decide +kernel
theorem D_Law_law_43 : decode m_Law_law.2.1 43 = .ok (.bipush 41, 2) := by decide +kernel
theorem D_Law_law_45 : decode m_Law_law.2.1 45 = .ok (.invokestatic 10, 3) := by decide +kernel
theorem D_Law_law_48 : decode m_Law_law.2.1 48 = .ok (.invokestatic 95, 3) := by decide +kernel
theorem D_Law_law_51 : decode m_Law_law.2.1 51 = .ok (.ifCond .ne 5, 3) := by decide +kernel
theorem D_Law_law_54 : decode m_Law_law.2.1 54 = .ok (.iconst 0, 1) := by decide +kernel
theorem D_Law_law_55 : decode m_Law_law.2.1 55 = .ok (.ireturn, 1) := by decide +kernel
theorem D_Law_law_56 : decode m_Law_law.2.1 56 = .ok (.aload_n 1, 1) := by decide +kernel
theorem D_Law_law_57 : decode m_Law_law.2.1 57 = .ok (.iconst 5, 1) := by decide +kernel
theorem D_Law_law_58 : decode m_Law_law.2.1 58 = .ok (.invokevirtual 26, 3) := by decide +kernel
theorem D_Law_law_61 : decode m_Law_law.2.1 61 = .ok (.ifCond .ne 38, 3) := by decide +kernel
theorem D_Law_law_64 : decode m_Law_law.2.1 64 = .ok (.aload_n 1, 1) := by decide +kernel
theorem D_Law_law_65 : decode m_Law_law.2.1 65 = .ok (.invokevirtual 50, 3) := by decide +kernel
theorem D_Law_law_68 : decode m_Law_law.2.1 68 = .ok (.lconst 0, 1) := by decide +kernel
theorem D_Law_law_69 : decode m_Law_law.2.1 69 = .ok (.lcmp, 1) := by decide +kernel
theorem D_Law_law_70 : decode m_Law_law.2.1 70 = .ok (.ifCond .ne 27, 3) := by decide +kernel
theorem D_Law_law_73 : decode m_Law_law.2.1 73 = .ok (.aload_n 1, 1) := by decide +kernel
theorem D_Law_law_74 : decode m_Law_law.2.1 74 = .ok (.invokevirtual 99, 3) := by decide +kernel
theorem D_Law_law_77 : decode m_Law_law.2.1 77 = .ok (.bipush (-5), 2) := by decide +kernel
theorem D_Law_law_79 : decode m_Law_law.2.1 79 = .ok (.if_icmp .ne 18, 3) := by decide +kernel
theorem D_Law_law_82 : decode m_Law_law.2.1 82 = .ok (.aload_n 1, 1) := by decide +kernel
theorem D_Law_law_83 : decode m_Law_law.2.1 83 = .ok (.lconst 0, 1) := by decide +kernel
theorem D_Law_law_84 : decode m_Law_law.2.1 84 = .ok (.iconst 0, 1) := by decide +kernel
theorem D_Law_law_85 : decode m_Law_law.2.1 85 = .ok (.iconst 0, 1) := by decide +kernel
theorem D_Law_law_86 : decode m_Law_law.2.1 86 = .ok (.invokevirtual 46, 3) := by decide +kernel
theorem D_Law_law_89 : decode m_Law_law.2.1 89 = .ok (.iconst (-1), 1) := by decide +kernel
theorem D_Law_law_90 : decode m_Law_law.2.1 90 = .ok (.if_icmp .ne 7, 3) := by decide +kernel
theorem D_Law_law_93 : decode m_Law_law.2.1 93 = .ok (.iconst 1, 1) := by decide +kernel
theorem D_Law_law_94 : decode m_Law_law.2.1 94 = .ok (.goto 4, 3) := by decide +kernel
theorem D_Law_law_97 : decode m_Law_law.2.1 97 = .ok (.iconst 0, 1) := by decide +kernel
theorem D_Law_law_98 : decode m_Law_law.2.1 98 = .ok (.ireturn, 1) := by decide +kernel
theorem D_Law_law_99 : decode m_Law_law.2.1 99 = .ok (.aload_n 1, 1) := by decide +kernel
theorem D_Law_law_100 : decode m_Law_law.2.1 100 = .ok (.aload_n 0, 1) := by decide +kernel
theorem D_Law_law_101 : decode m_Law_law.2.1 101 = .ok (.bipush 42, 2) := by decide +kernel
theorem D_Law_law_103 : decode m_Law_law.2.1 103 = .ok (.invokestatic 10, 3) := by decide +kernel
theorem D_Law_law_106 : decode m_Law_law.2.1 106 = .ok (.invokestatic 102, 3) := by decide +kernel
theorem D_Law_law_109 : decode m_Law_law.2.1 109 = .ok (.ifCond .ne 5, 3) := by decide +kernel
theorem D_Law_law_112 : decode m_Law_law.2.1 112 = .ok (.iconst 0, 1) := by decide +kernel
theorem D_Law_law_113 : decode m_Law_law.2.1 113 = .ok (.ireturn, 1) := by decide +kernel
theorem D_Law_law_114 : decode m_Law_law.2.1 114 = .ok (.aload_n 1, 1) := by decide +kernel
theorem D_Law_law_115 : decode m_Law_law.2.1 115 = .ok (.iconst 3, 1) := by decide +kernel
theorem D_Law_law_116 : decode m_Law_law.2.1 116 = .ok (.invokevirtual 26, 3) := by decide +kernel
theorem D_Law_law_119 : decode m_Law_law.2.1 119 = .ok (.istore_n 2, 1) := by decide +kernel
theorem D_Law_law_120 : decode m_Law_law.2.1 120 = .ok (.aload_n 1, 1) := by decide +kernel
theorem D_Law_law_121 : decode m_Law_law.2.1 121 = .ok (.bipush 6, 2) := by decide +kernel
theorem D_Law_law_123 : decode m_Law_law.2.1 123 = .ok (.invokevirtual 26, 3) := by decide +kernel
theorem D_Law_law_126 : decode m_Law_law.2.1 126 = .ok (.istore_n 3, 1) := by decide +kernel
theorem D_Law_law_127 : decode m_Law_law.2.1 127 = .ok (.aload_n 1, 1) := by decide +kernel
theorem D_Law_law_128 : decode m_Law_law.2.1 128 = .ok (.invokevirtual 50, 3) := by decide +kernel
theorem D_Law_law_131 : decode m_Law_law.2.1 131 = .ok (.lstore 4, 2) := by decide +kernel
theorem D_Law_law_133 : decode m_Law_law.2.1 133 = .ok (.aload_n 1, 1) := by decide +kernel
theorem D_Law_law_134 : decode m_Law_law.2.1 134 = .ok (.lload 4, 2) := by decide +kernel
theorem D_Law_law_136 : decode m_Law_law.2.1 136 = .ok (.lconst 1, 1) := by decide +kernel
theorem D_Law_law_137 : decode m_Law_law.2.1 137 = .ok (.lsub, 1) := by decide +kernel
theorem D_Law_law_138 : decode m_Law_law.2.1 138 = .ok (.iconst 0, 1) := by decide +kernel
theorem D_Law_law_139 : decode m_Law_law.2.1 139 = .ok (.aload_n 1, 1) := by decide +kernel
theorem D_Law_law_140 : decode m_Law_law.2.1 140 = .ok (.iconst 1, 1) := by decide +kernel
theorem D_Law_law_141 : decode m_Law_law.2.1 141 = .ok (.invokevirtual 26, 3) := by decide +kernel
theorem D_Law_law_144 : decode m_Law_law.2.1 144 = .ok (.iconst 1, 1) := by decide +kernel
theorem D_Law_law_145 : decode m_Law_law.2.1 145 = .ok (.isub, 1) := by decide +kernel
theorem D_Law_law_146 : decode m_Law_law.2.1 146 = .ok (.invokevirtual 46, 3) := by decide +kernel
theorem D_Law_law_149 : decode m_Law_law.2.1 149 = .ok (.istore 6, 2) := by decide +kernel
theorem D_Law_law_151 : decode m_Law_law.2.1 151 = .ok (.aload_n 1, 1) := by decide +kernel
theorem D_Law_law_152 : decode m_Law_law.2.1 152 = .ok (.invokevirtual 99, 3) := by decide +kernel
theorem D_Law_law_155 : decode m_Law_law.2.1 155 = .ok (.iload_n 3, 1) := by decide +kernel
theorem D_Law_law_156 : decode m_Law_law.2.1 156 = .ok (.iload_n 2, 1) := by decide +kernel
theorem D_Law_law_157 : decode m_Law_law.2.1 157 = .ok (.isub, 1) := by decide +kernel
theorem D_Law_law_158 : decode m_Law_law.2.1 158 = .ok (.if_icmp .ne 65, 3) := by decide +kernel
theorem D_Law_law_161 : decode m_Law_law.2.1 161 = .ok (.aload_n 1, 1) := by decide +kernel
theorem D_Law_law_162 : decode m_Law_law.2.1 162 = .ok (.iconst 3, 1) := by decide +kernel
theorem D_Law_law_163 : decode m_Law_law.2.1 163 = .ok (.invokevirtual 26, 3) := by decide +kernel
theorem D_Law_law_166 : decode m_Law_law.2.1 166 = .ok (.iload_n 3, 1) := by decide +kernel
theorem D_Law_law_167 : decode m_Law_law.2.1 167 = .ok (.if_icmp .ne 56, 3) := by decide +kernel
theorem D_Law_law_170 : decode m_Law_law.2.1 170 = .ok (.aload_n 1, 1) := by decide +kernel
theorem D_Law_law_171 : decode m_Law_law.2.1 171 = .ok (.iconst 5, 1) := by decide +kernel
theorem D_Law_law_172 : decode m_Law_law.2.1 172 = .ok (.invokevirtual 26, 3) := by decide +kernel
theorem D_Law_law_175 : decode m_Law_law.2.1 175 = .ok (.iconst 1, 1) := by decide +kernel
theorem D_Law_law_176 : decode m_Law_law.2.1 176 = .ok (.if_icmp .ne 47, 3) := by decide +kernel
theorem D_Law_law_179 : decode m_Law_law.2.1 179 = .ok (.aload_n 1, 1) := by decide +kernel
theorem D_Law_law_180 : decode m_Law_law.2.1 180 = .ok (.invokevirtual 50, 3) := by decide +kernel
theorem D_Law_law_183 : decode m_Law_law.2.1 183 = .ok (.lload 4, 2) := by decide +kernel
theorem D_Law_law_185 : decode m_Law_law.2.1 185 = .ok (.lcmp, 1) := by decide +kernel
theorem D_Law_law_186 : decode m_Law_law.2.1 186 = .ok (.ifCond .ne 37, 3) := by decide +kernel
theorem D_Law_law_189 : decode m_Law_law.2.1 189 = .ok (.aload_n 1, 1) := by decide +kernel
theorem D_Law_law_190 : decode m_Law_law.2.1 190 = .ok (.lload 4, 2) := by decide +kernel
theorem D_Law_law_192 : decode m_Law_law.2.1 192 = .ok (.lconst 1, 1) := by decide +kernel
theorem D_Law_law_193 : decode m_Law_law.2.1 193 = .ok (.lsub, 1) := by decide +kernel
theorem D_Law_law_194 : decode m_Law_law.2.1 194 = .ok (.iconst 0, 1) := by decide +kernel
theorem D_Law_law_195 : decode m_Law_law.2.1 195 = .ok (.aload_n 1, 1) := by decide +kernel
theorem D_Law_law_196 : decode m_Law_law.2.1 196 = .ok (.iconst 1, 1) := by decide +kernel
theorem D_Law_law_197 : decode m_Law_law.2.1 197 = .ok (.invokevirtual 26, 3) := by decide +kernel
theorem D_Law_law_200 : decode m_Law_law.2.1 200 = .ok (.iconst 1, 1) := by decide +kernel
theorem D_Law_law_201 : decode m_Law_law.2.1 201 = .ok (.isub, 1) := by decide +kernel
theorem D_Law_law_202 : decode m_Law_law.2.1 202 = .ok (.invokevirtual 46, 3) := by decide +kernel
theorem D_Law_law_205 : decode m_Law_law.2.1 205 = .ok (.iload 6, 2) := by decide +kernel
theorem D_Law_law_207 : decode m_Law_law.2.1 207 = .ok (.if_icmp .ne 16, 3) := by decide +kernel
theorem D_Law_law_210 : decode m_Law_law.2.1 210 = .ok (.aload_n 1, 1) := by decide +kernel
theorem D_Law_law_211 : decode m_Law_law.2.1 211 = .ok (.bipush 8, 2) := by decide +kernel
theorem D_Law_law_213 : decode m_Law_law.2.1 213 = .ok (.invokevirtual 26, 3) := by decide +kernel
theorem D_Law_law_216 : decode m_Law_law.2.1 216 = .ok (.ifCond .ne 7, 3) := by decide +kernel
theorem D_Law_law_219 : decode m_Law_law.2.1 219 = .ok (.iconst 1, 1) := by decide +kernel
theorem D_Law_law_220 : decode m_Law_law.2.1 220 = .ok (.goto 4, 3) := by decide +kernel
theorem D_Law_law_223 : decode m_Law_law.2.1 223 = .ok (.iconst 0, 1) := by decide +kernel
theorem D_Law_law_224 : decode m_Law_law.2.1 224 = .ok (.istore 7, 2) := by decide +kernel
theorem D_Law_law_226 : decode m_Law_law.2.1 226 = .ok (.iload 7, 2) := by decide +kernel
theorem D_Law_law_228 : decode m_Law_law.2.1 228 = .ok (.ifCond .eq 37, 3) := by decide +kernel
theorem D_Law_law_231 : decode m_Law_law.2.1 231 = .ok (.aload_n 1, 1) := by decide +kernel
theorem D_Law_law_232 : decode m_Law_law.2.1 232 = .ok (.invokevirtual 99, 3) := by decide +kernel
theorem D_Law_law_235 : decode m_Law_law.2.1 235 = .ok (.ifCond .ne 30, 3) := by decide +kernel
theorem D_Law_law_238 : decode m_Law_law.2.1 238 = .ok (.aload_n 1, 1) := by decide +kernel
theorem D_Law_law_239 : decode m_Law_law.2.1 239 = .ok (.invokevirtual 70, 3) := by decide +kernel
theorem D_Law_law_242 : decode m_Law_law.2.1 242 = .ok (.ifCond .lt 23, 3) := by decide +kernel
theorem D_Law_law_245 : decode m_Law_law.2.1 245 = .ok (.aload_n 1, 1) := by decide +kernel
theorem D_Law_law_246 : decode m_Law_law.2.1 246 = .ok (.invokevirtual 70, 3) := by decide +kernel
theorem D_Law_law_249 : decode m_Law_law.2.1 249 = .ok (.ifCond .lt 16, 3) := by decide +kernel
theorem D_Law_law_252 : decode m_Law_law.2.1 252 = .ok (.aload_n 1, 1) := by decide +kernel
theorem D_Law_law_253 : decode m_Law_law.2.1 253 = .ok (.iconst 3, 1) := by decide +kernel
theorem D_Law_law_254 : decode m_Law_law.2.1 254 = .ok (.invokevirtual 26, 3) := by decide +kernel
theorem D_Law_law_257 : decode m_Law_law.2.1 257 = .ok (.iload_n 2, 1) := by decide +kernel
theorem D_Law_law_258 : decode m_Law_law.2.1 258 = .ok (.if_icmp .ne 7, 3) := by decide +kernel
theorem D_Law_law_261 : decode m_Law_law.2.1 261 = .ok (.iconst 1, 1) := by decide +kernel
theorem D_Law_law_262 : decode m_Law_law.2.1 262 = .ok (.goto 4, 3) := by decide +kernel
theorem D_Law_law_265 : decode m_Law_law.2.1 265 = .ok (.iconst 0, 1) := by decide +kernel
theorem D_Law_law_266 : decode m_Law_law.2.1 266 = .ok (.ireturn, 1) := by decide +kernel
