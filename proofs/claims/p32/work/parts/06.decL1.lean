theorem dL_told_92 : decode cL_told 92 = .ok (.iload_n 2, 1) := by decide +kernel
theorem dL_told_93 : decode cL_told 93 = .ok (.invokestatic 179, 3) := by decide +kernel
theorem dL_told_96 : decode cL_told 96 = .ok (.invokevirtual 147, 3) := by decide +kernel
theorem dL_told_99 : decode cL_told 99 = .ok (.bipush 112, 2) := by decide +kernel
theorem dL_told_101 : decode cL_told 101 = .ok (.invokevirtual 151, 3) := by decide +kernel
theorem dL_told_104 : decode cL_told 104 = .ok (.aload_n 0, 1) := by decide +kernel
theorem dL_told_105 : decode cL_told 105 = .ok (.iload_n 2, 1) := by decide +kernel
theorem dL_told_106 : decode cL_told 106 = .ok (.invokestatic 181, 3) := by decide +kernel
theorem dL_told_109 : decode cL_told 109 = .ok (.invokevirtual 147, 3) := by decide +kernel
theorem dL_told_112 : decode cL_told 112 = .ok (.bipush 118, 2) := by decide +kernel
theorem dL_told_114 : decode cL_told 114 = .ok (.invokevirtual 151, 3) := by decide +kernel
theorem dL_told_117 : decode cL_told 117 = .ok (.aload_n 0, 1) := by decide +kernel
theorem dL_told_118 : decode cL_told 118 = .ok (.iload_n 2, 1) := by decide +kernel
theorem dL_told_119 : decode cL_told 119 = .ok (.invokestatic 183, 3) := by decide +kernel
theorem dL_told_122 : decode cL_told 122 = .ok (.invokevirtual 147, 3) := by decide +kernel
theorem dL_told_125 : decode cL_told 125 = .ok (.bipush 102, 2) := by decide +kernel
theorem dL_told_127 : decode cL_told 127 = .ok (.invokevirtual 151, 3) := by decide +kernel
theorem dL_told_130 : decode cL_told 130 = .ok (.aload_n 0, 1) := by decide +kernel
theorem dL_told_131 : decode cL_told 131 = .ok (.iload_n 2, 1) := by decide +kernel
theorem dL_told_132 : decode cL_told 132 = .ok (.invokestatic 185, 3) := by decide +kernel
theorem dL_told_135 : decode cL_told 135 = .ok (.invokevirtual 147, 3) := by decide +kernel
theorem dL_told_138 : decode cL_told 138 = .ok (.bipush 97, 2) := by decide +kernel
theorem dL_told_140 : decode cL_told 140 = .ok (.invokevirtual 151, 3) := by decide +kernel
theorem dL_told_143 : decode cL_told 143 = .ok (.aload_n 0, 1) := by decide +kernel
theorem dL_told_144 : decode cL_told 144 = .ok (.iload_n 2, 1) := by decide +kernel
theorem dL_told_145 : decode cL_told 145 = .ok (.iconst 1, 1) := by decide +kernel
theorem dL_told_146 : decode cL_told 146 = .ok (.iconst 1, 1) := by decide +kernel
theorem dL_told_147 : decode cL_told 147 = .ok (.invokestatic 187, 3) := by decide +kernel
theorem dL_told_150 : decode cL_told 150 = .ok (.invokevirtual 147, 3) := by decide +kernel
theorem dL_told_153 : decode cL_told 153 = .ok (.pop, 1) := by decide +kernel
theorem dL_told_154 : decode cL_told 154 = .ok (.iinc 2 1, 3) := by decide +kernel
theorem dL_told_157 : decode cL_told 157 = .ok (.goto (-78), 3) := by decide +kernel
theorem dL_told_160 : decode cL_told 160 = .ok (.aload_n 1, 1) := by decide +kernel
theorem dL_told_161 : decode cL_told 161 = .ok (.aload_n 0, 1) := by decide +kernel
theorem dL_told_162 : decode cL_told 162 = .ok (.iconst 0, 1) := by decide +kernel
theorem dL_told_163 : decode cL_told 163 = .ok (.invokestatic 190, 3) := by decide +kernel
theorem dL_told_166 : decode cL_told 166 = .ok (.invokevirtual 147, 3) := by decide +kernel
theorem dL_told_169 : decode cL_told 169 = .ok (.bipush 109, 2) := by decide +kernel
theorem dL_told_171 : decode cL_told 171 = .ok (.invokevirtual 151, 3) := by decide +kernel
theorem dL_told_174 : decode cL_told 174 = .ok (.aload_n 0, 1) := by decide +kernel
theorem dL_told_175 : decode cL_told 175 = .ok (.iconst 1, 1) := by decide +kernel
theorem dL_told_176 : decode cL_told 176 = .ok (.invokestatic 190, 3) := by decide +kernel
theorem dL_told_179 : decode cL_told 179 = .ok (.invokevirtual 147, 3) := by decide +kernel
theorem dL_told_182 : decode cL_told 182 = .ok (.invokevirtual 192, 3) := by decide +kernel
theorem dL_told_185 : decode cL_told 185 = .ok (.areturn, 1) := by decide +kernel
theorem dL_ordered_0 : decode cL_ordered 0 = .ok (.aload_n 0, 1) := by decide +kernel
theorem dL_ordered_1 : decode cL_ordered 1 = .ok (.invokevirtual 143, 3) := by decide +kernel
theorem dL_ordered_4 : decode cL_ordered 4 = .ok (.iload_n 1, 1) := by decide +kernel
theorem dL_ordered_5 : decode cL_ordered 5 = .ok (.if_icmp .gt 50, 3) := by decide +kernel
theorem dL_ordered_8 : decode cL_ordered 8 = .ok (.aload_n 0, 1) := by decide +kernel
theorem dL_ordered_9 : decode cL_ordered 9 = .ok (.invokevirtual 154, 3) := by decide +kernel
theorem dL_ordered_12 : decode cL_ordered 12 = .ok (.aload_n 0, 1) := by decide +kernel
theorem dL_ordered_13 : decode cL_ordered 13 = .ok (.invokevirtual 143, 3) := by decide +kernel
theorem dL_ordered_16 : decode cL_ordered 16 = .ok (.if_icmp .gt 39, 3) := by decide +kernel
theorem dL_ordered_19 : decode cL_ordered 19 = .ok (.aload_n 0, 1) := by decide +kernel
theorem dL_ordered_20 : decode cL_ordered 20 = .ok (.invokevirtual 196, 3) := by decide +kernel
theorem dL_ordered_23 : decode cL_ordered 23 = .ok (.ifCond .eq 32, 3) := by decide +kernel
theorem dL_ordered_26 : decode cL_ordered 26 = .ok (.aload_n 0, 1) := by decide +kernel
theorem dL_ordered_27 : decode cL_ordered 27 = .ok (.iconst 0, 1) := by decide +kernel
theorem dL_ordered_28 : decode cL_ordered 28 = .ok (.invokestatic 190, 3) := by decide +kernel
theorem dL_ordered_31 : decode cL_ordered 31 = .ok (.ifCond .lt 24, 3) := by decide +kernel
theorem dL_ordered_34 : decode cL_ordered 34 = .ok (.aload_n 0, 1) := by decide +kernel
theorem dL_ordered_35 : decode cL_ordered 35 = .ok (.iconst 1, 1) := by decide +kernel
theorem dL_ordered_36 : decode cL_ordered 36 = .ok (.invokestatic 190, 3) := by decide +kernel
theorem dL_ordered_39 : decode cL_ordered 39 = .ok (.ifCond .lt 16, 3) := by decide +kernel
theorem dL_ordered_42 : decode cL_ordered 42 = .ok (.aload_n 0, 1) := by decide +kernel
theorem dL_ordered_43 : decode cL_ordered 43 = .ok (.invokevirtual 160, 3) := by decide +kernel
theorem dL_ordered_46 : decode cL_ordered 46 = .ok (.lconst 0, 1) := by decide +kernel
theorem dL_ordered_47 : decode cL_ordered 47 = .ok (.lcmp, 1) := by decide +kernel
theorem dL_ordered_48 : decode cL_ordered 48 = .ok (.ifCond .lt 7, 3) := by decide +kernel
theorem dL_ordered_51 : decode cL_ordered 51 = .ok (.iconst 1, 1) := by decide +kernel
theorem dL_ordered_52 : decode cL_ordered 52 = .ok (.goto 4, 3) := by decide +kernel
theorem dL_ordered_55 : decode cL_ordered 55 = .ok (.iconst 0, 1) := by decide +kernel
theorem dL_ordered_56 : decode cL_ordered 56 = .ok (.istore_n 2, 1) := by decide +kernel
theorem dL_ordered_57 : decode cL_ordered 57 = .ok (.iconst 0, 1) := by decide +kernel
theorem dL_ordered_58 : decode cL_ordered 58 = .ok (.istore_n 3, 1) := by decide +kernel
theorem dL_ordered_59 : decode cL_ordered 59 = .ok (.iload_n 3, 1) := by decide +kernel
theorem dL_ordered_60 : decode cL_ordered 60 = .ok (.iconst 4, 1) := by decide +kernel
theorem dL_ordered_61 : decode cL_ordered 61 = .ok (.if_icmp .ge 278, 3) := by decide +kernel
theorem dL_ordered_64 : decode cL_ordered 64 = .ok (.iconst 0, 1) := by decide +kernel
theorem dL_ordered_65 : decode cL_ordered 65 = .ok (.istore 4, 2) := by decide +kernel
theorem dL_ordered_67 : decode cL_ordered 67 = .ok (.iconst 0, 1) := by decide +kernel
theorem dL_ordered_68 : decode cL_ordered 68 = .ok (.istore 5, 2) := by decide +kernel
theorem dL_ordered_70 : decode cL_ordered 70 = .ok (.iload 5, 2) := by decide +kernel
theorem dL_ordered_72 : decode cL_ordered 72 = .ok (.bipush 9, 2) := by decide +kernel
theorem dL_ordered_74 : decode cL_ordered 74 = .ok (.if_icmp .ge 60, 3) := by decide +kernel
theorem dL_ordered_77 : decode cL_ordered 77 = .ok (.aload_n 0, 1) := by decide +kernel
theorem dL_ordered_78 : decode cL_ordered 78 = .ok (.iload_n 3, 1) := by decide +kernel
theorem dL_ordered_79 : decode cL_ordered 79 = .ok (.iload 5, 2) := by decide +kernel
theorem dL_ordered_81 : decode cL_ordered 81 = .ok (.iconst 3, 1) := by decide +kernel
theorem dL_ordered_82 : decode cL_ordered 82 = .ok (.idiv, 1) := by decide +kernel
theorem dL_ordered_83 : decode cL_ordered 83 = .ok (.iload 5, 2) := by decide +kernel
theorem dL_ordered_85 : decode cL_ordered 85 = .ok (.iconst 3, 1) := by decide +kernel
theorem dL_ordered_86 : decode cL_ordered 86 = .ok (.irem, 1) := by decide +kernel
theorem dL_ordered_87 : decode cL_ordered 87 = .ok (.invokestatic 187, 3) := by decide +kernel
theorem dL_ordered_90 : decode cL_ordered 90 = .ok (.istore 6, 2) := by decide +kernel
theorem dL_ordered_92 : decode cL_ordered 92 = .ok (.iload 4, 2) := by decide +kernel
theorem dL_ordered_94 : decode cL_ordered 94 = .ok (.iload 6, 2) := by decide +kernel
theorem dL_ordered_96 : decode cL_ordered 96 = .ok (.ifCond .ne 7, 3) := by decide +kernel
theorem dL_ordered_99 : decode cL_ordered 99 = .ok (.iconst 1, 1) := by decide +kernel
theorem dL_ordered_100 : decode cL_ordered 100 = .ok (.goto 4, 3) := by decide +kernel
theorem dL_ordered_103 : decode cL_ordered 103 = .ok (.iconst 0, 1) := by decide +kernel
theorem dL_ordered_104 : decode cL_ordered 104 = .ok (.iadd, 1) := by decide +kernel
theorem dL_ordered_105 : decode cL_ordered 105 = .ok (.istore 4, 2) := by decide +kernel
theorem dL_ordered_107 : decode cL_ordered 107 = .ok (.iload_n 2, 1) := by decide +kernel
theorem dL_ordered_108 : decode cL_ordered 108 = .ok (.iload 6, 2) := by decide +kernel
theorem dL_ordered_110 : decode cL_ordered 110 = .ok (.iconst (-1), 1) := by decide +kernel
theorem dL_ordered_111 : decode cL_ordered 111 = .ok (.if_icmp .lt 14, 3) := by decide +kernel
theorem dL_ordered_114 : decode cL_ordered 114 = .ok (.iload 6, 2) := by decide +kernel
theorem dL_ordered_116 : decode cL_ordered 116 = .ok (.bipush 12, 2) := by decide +kernel
theorem dL_ordered_118 : decode cL_ordered 118 = .ok (.if_icmp .ge 7, 3) := by decide +kernel
theorem dL_ordered_121 : decode cL_ordered 121 = .ok (.iconst 1, 1) := by decide +kernel
theorem dL_ordered_122 : decode cL_ordered 122 = .ok (.goto 4, 3) := by decide +kernel
theorem dL_ordered_125 : decode cL_ordered 125 = .ok (.iconst 0, 1) := by decide +kernel
theorem dL_ordered_126 : decode cL_ordered 126 = .ok (.iand, 1) := by decide +kernel
theorem dL_ordered_127 : decode cL_ordered 127 = .ok (.istore_n 2, 1) := by decide +kernel
theorem dL_ordered_128 : decode cL_ordered 128 = .ok (.iinc 5 1, 3) := by decide +kernel
theorem dL_ordered_131 : decode cL_ordered 131 = .ok (.goto (-61), 3) := by decide +kernel
theorem dL_ordered_134 : decode cL_ordered 134 = .ok (.iconst 0, 1) := by decide +kernel
theorem dL_ordered_135 : decode cL_ordered 135 = .ok (.istore 5, 2) := by decide +kernel
theorem dL_ordered_137 : decode cL_ordered 137 = .ok (.iconst 0, 1) := by decide +kernel
theorem dL_ordered_138 : decode cL_ordered 138 = .ok (.istore 6, 2) := by decide +kernel
theorem dL_ordered_140 : decode cL_ordered 140 = .ok (.iload 6, 2) := by decide +kernel
theorem dL_ordered_142 : decode cL_ordered 142 = .ok (.iconst 4, 1) := by decide +kernel
theorem dL_ordered_143 : decode cL_ordered 143 = .ok (.if_icmp .ge 30, 3) := by decide +kernel
theorem dL_ordered_146 : decode cL_ordered 146 = .ok (.iload 5, 2) := by decide +kernel
theorem dL_ordered_148 : decode cL_ordered 148 = .ok (.aload_n 0, 1) := by decide +kernel
theorem dL_ordered_149 : decode cL_ordered 149 = .ok (.iload_n 3, 1) := by decide +kernel
theorem dL_ordered_150 : decode cL_ordered 150 = .ok (.iload 6, 2) := by decide +kernel
theorem dL_ordered_152 : decode cL_ordered 152 = .ok (.invokestatic 136, 3) := by decide +kernel
theorem dL_ordered_155 : decode cL_ordered 155 = .ok (.iconst 1, 1) := by decide +kernel
theorem dL_ordered_156 : decode cL_ordered 156 = .ok (.if_icmp .ne 7, 3) := by decide +kernel
theorem dL_ordered_159 : decode cL_ordered 159 = .ok (.iconst 1, 1) := by decide +kernel
theorem dL_ordered_160 : decode cL_ordered 160 = .ok (.goto 4, 3) := by decide +kernel
theorem dL_ordered_163 : decode cL_ordered 163 = .ok (.iconst 0, 1) := by decide +kernel
theorem dL_ordered_164 : decode cL_ordered 164 = .ok (.ior, 1) := by decide +kernel
theorem dL_ordered_165 : decode cL_ordered 165 = .ok (.istore 5, 2) := by decide +kernel
theorem dL_ordered_167 : decode cL_ordered 167 = .ok (.iinc 6 1, 3) := by decide +kernel
theorem dL_ordered_170 : decode cL_ordered 170 = .ok (.goto (-30), 3) := by decide +kernel
theorem dL_ordered_173 : decode cL_ordered 173 = .ok (.iload_n 2, 1) := by decide +kernel
theorem dL_ordered_174 : decode cL_ordered 174 = .ok (.aload_n 0, 1) := by decide +kernel
theorem dL_ordered_175 : decode cL_ordered 175 = .ok (.iload_n 3, 1) := by decide +kernel
theorem dL_ordered_176 : decode cL_ordered 176 = .ok (.invokestatic 200, 3) := by decide +kernel
theorem dL_ordered_179 : decode cL_ordered 179 = .ok (.iload 5, 2) := by decide +kernel
theorem dL_ordered_181 : decode cL_ordered 181 = .ok (.ifCond .eq 7, 3) := by decide +kernel
theorem dL_ordered_184 : decode cL_ordered 184 = .ok (.iconst 0, 1) := by decide +kernel
theorem dL_ordered_185 : decode cL_ordered 185 = .ok (.goto 4, 3) := by decide +kernel
theorem dL_ordered_188 : decode cL_ordered 188 = .ok (.iconst 1, 1) := by decide +kernel
theorem dL_ordered_189 : decode cL_ordered 189 = .ok (.if_icmp .ne 24, 3) := by decide +kernel
theorem dL_ordered_192 : decode cL_ordered 192 = .ok (.iload 4, 2) := by decide +kernel
theorem dL_ordered_194 : decode cL_ordered 194 = .ok (.ifCond .eq 15, 3) := by decide +kernel
theorem dL_ordered_197 : decode cL_ordered 197 = .ok (.iload 5, 2) := by decide +kernel
theorem dL_ordered_199 : decode cL_ordered 199 = .ok (.ifCond .ne 10, 3) := by decide +kernel
theorem dL_ordered_202 : decode cL_ordered 202 = .ok (.iload 4, 2) := by decide +kernel
theorem dL_ordered_204 : decode cL_ordered 204 = .ok (.bipush 9, 2) := by decide +kernel
theorem dL_ordered_206 : decode cL_ordered 206 = .ok (.if_icmp .ne 7, 3) := by decide +kernel
theorem dL_ordered_209 : decode cL_ordered 209 = .ok (.iconst 1, 1) := by decide +kernel
theorem dL_ordered_210 : decode cL_ordered 210 = .ok (.goto 4, 3) := by decide +kernel
theorem dL_ordered_213 : decode cL_ordered 213 = .ok (.iconst 0, 1) := by decide +kernel
theorem dL_ordered_214 : decode cL_ordered 214 = .ok (.iand, 1) := by decide +kernel
theorem dL_ordered_215 : decode cL_ordered 215 = .ok (.istore_n 2, 1) := by decide +kernel
theorem dL_ordered_216 : decode cL_ordered 216 = .ok (.iconst 0, 1) := by decide +kernel
theorem dL_ordered_217 : decode cL_ordered 217 = .ok (.istore 6, 2) := by decide +kernel
theorem dL_ordered_219 : decode cL_ordered 219 = .ok (.iconst 0, 1) := by decide +kernel
theorem dL_ordered_220 : decode cL_ordered 220 = .ok (.istore 7, 2) := by decide +kernel
theorem dL_ordered_222 : decode cL_ordered 222 = .ok (.iload 7, 2) := by decide +kernel
theorem dL_ordered_224 : decode cL_ordered 224 = .ok (.iconst 4, 1) := by decide +kernel
theorem dL_ordered_225 : decode cL_ordered 225 = .ok (.if_icmp .ge 47, 3) := by decide +kernel
theorem dL_ordered_228 : decode cL_ordered 228 = .ok (.aload_n 0, 1) := by decide +kernel
theorem dL_ordered_229 : decode cL_ordered 229 = .ok (.iload_n 3, 1) := by decide +kernel
theorem dL_ordered_230 : decode cL_ordered 230 = .ok (.iload 7, 2) := by decide +kernel
theorem dL_ordered_232 : decode cL_ordered 232 = .ok (.invokestatic 132, 3) := by decide +kernel
theorem dL_ordered_235 : decode cL_ordered 235 = .ok (.istore 8, 2) := by decide +kernel
theorem dL_ordered_237 : decode cL_ordered 237 = .ok (.iload_n 2, 1) := by decide +kernel
theorem dL_ordered_238 : decode cL_ordered 238 = .ok (.iload 8, 2) := by decide +kernel
theorem dL_ordered_240 : decode cL_ordered 240 = .ok (.iload 6, 2) := by decide +kernel
theorem dL_ordered_242 : decode cL_ordered 242 = .ok (.if_icmp .lt 17, 3) := by decide +kernel
theorem dL_ordered_245 : decode cL_ordered 245 = .ok (.iload 7, 2) := by decide +kernel
theorem dL_ordered_247 : decode cL_ordered 247 = .ok (.ifCond .gt 8, 3) := by decide +kernel
theorem dL_ordered_250 : decode cL_ordered 250 = .ok (.iload 8, 2) := by decide +kernel
theorem dL_ordered_252 : decode cL_ordered 252 = .ok (.ifCond .ne 7, 3) := by decide +kernel
theorem dL_ordered_255 : decode cL_ordered 255 = .ok (.iconst 1, 1) := by decide +kernel
theorem dL_ordered_256 : decode cL_ordered 256 = .ok (.goto 4, 3) := by decide +kernel
theorem dL_ordered_259 : decode cL_ordered 259 = .ok (.iconst 0, 1) := by decide +kernel
theorem dL_ordered_260 : decode cL_ordered 260 = .ok (.iand, 1) := by decide +kernel
theorem dL_ordered_261 : decode cL_ordered 261 = .ok (.istore_n 2, 1) := by decide +kernel
theorem dL_ordered_262 : decode cL_ordered 262 = .ok (.iload 8, 2) := by decide +kernel
theorem dL_ordered_264 : decode cL_ordered 264 = .ok (.istore 6, 2) := by decide +kernel
theorem dL_ordered_266 : decode cL_ordered 266 = .ok (.iinc 7 1, 3) := by decide +kernel
theorem dL_ordered_269 : decode cL_ordered 269 = .ok (.goto (-47), 3) := by decide +kernel
theorem dL_ordered_272 : decode cL_ordered 272 = .ok (.iload_n 2, 1) := by decide +kernel
theorem dL_ordered_273 : decode cL_ordered 273 = .ok (.aload_n 0, 1) := by decide +kernel
theorem dL_ordered_274 : decode cL_ordered 274 = .ok (.iload_n 3, 1) := by decide +kernel
theorem dL_ordered_275 : decode cL_ordered 275 = .ok (.invokestatic 185, 3) := by decide +kernel
theorem dL_ordered_278 : decode cL_ordered 278 = .ok (.aload_n 0, 1) := by decide +kernel
theorem dL_ordered_279 : decode cL_ordered 279 = .ok (.iload_n 3, 1) := by decide +kernel
theorem dL_ordered_280 : decode cL_ordered 280 = .ok (.invokestatic 181, 3) := by decide +kernel
theorem dL_ordered_283 : decode cL_ordered 283 = .ok (.if_icmp .gt 47, 3) := by decide +kernel
theorem dL_ordered_286 : decode cL_ordered 286 = .ok (.aload_n 0, 1) := by decide +kernel
theorem dL_ordered_287 : decode cL_ordered 287 = .ok (.iload_n 3, 1) := by decide +kernel
theorem dL_ordered_288 : decode cL_ordered 288 = .ok (.invokestatic 183, 3) := by decide +kernel
theorem dL_ordered_291 : decode cL_ordered 291 = .ok (.ifCond .eq 35, 3) := by decide +kernel
theorem dL_ordered_294 : decode cL_ordered 294 = .ok (.aload_n 0, 1) := by decide +kernel
theorem dL_ordered_295 : decode cL_ordered 295 = .ok (.iload_n 3, 1) := by decide +kernel
theorem dL_ordered_296 : decode cL_ordered 296 = .ok (.iconst 1, 1) := by decide +kernel
theorem dL_ordered_297 : decode cL_ordered 297 = .ok (.invokestatic 134, 3) := by decide +kernel
theorem dL_ordered_300 : decode cL_ordered 300 = .ok (.bipush (-3), 2) := by decide +kernel
theorem dL_ordered_302 : decode cL_ordered 302 = .ok (.if_icmp .ne 28, 3) := by decide +kernel
theorem dL_ordered_305 : decode cL_ordered 305 = .ok (.aload_n 0, 1) := by decide +kernel
theorem dL_ordered_306 : decode cL_ordered 306 = .ok (.iload_n 3, 1) := by decide +kernel
theorem dL_ordered_307 : decode cL_ordered 307 = .ok (.iconst 0, 1) := by decide +kernel
theorem dL_ordered_308 : decode cL_ordered 308 = .ok (.invokestatic 114, 3) := by decide +kernel
theorem dL_ordered_311 : decode cL_ordered 311 = .ok (.bipush (-3), 2) := by decide +kernel
theorem dL_ordered_313 : decode cL_ordered 313 = .ok (.if_icmp .ne 17, 3) := by decide +kernel
theorem dL_ordered_316 : decode cL_ordered 316 = .ok (.aload_n 0, 1) := by decide +kernel
theorem dL_ordered_317 : decode cL_ordered 317 = .ok (.iload_n 3, 1) := by decide +kernel
theorem dL_ordered_318 : decode cL_ordered 318 = .ok (.invokestatic 130, 3) := by decide +kernel
theorem dL_ordered_321 : decode cL_ordered 321 = .ok (.bipush (-2), 2) := by decide +kernel
theorem dL_ordered_323 : decode cL_ordered 323 = .ok (.if_icmp .ne 7, 3) := by decide +kernel
theorem dL_ordered_326 : decode cL_ordered 326 = .ok (.iconst 1, 1) := by decide +kernel
theorem dL_ordered_327 : decode cL_ordered 327 = .ok (.goto 4, 3) := by decide +kernel
theorem dL_ordered_330 : decode cL_ordered 330 = .ok (.iconst 0, 1) := by decide +kernel
theorem dL_ordered_331 : decode cL_ordered 331 = .ok (.iand, 1) := by decide +kernel
theorem dL_ordered_332 : decode cL_ordered 332 = .ok (.istore_n 2, 1) := by decide +kernel
theorem dL_ordered_333 : decode cL_ordered 333 = .ok (.iinc 3 1, 3) := by decide +kernel
theorem dL_ordered_336 : decode cL_ordered 336 = .ok (.goto (-277), 3) := by decide +kernel
theorem dL_ordered_339 : decode cL_ordered 339 = .ok (.aload_n 0, 1) := by decide +kernel
theorem dL_ordered_340 : decode cL_ordered 340 = .ok (.invokestatic 167, 3) := by decide +kernel
theorem dL_ordered_343 : decode cL_ordered 343 = .ok (.fstore_n 3, 1) := by decide +kernel
theorem dL_ordered_344 : decode cL_ordered 344 = .ok (.iload_n 2, 1) := by decide +kernel
theorem dL_ordered_345 : decode cL_ordered 345 = .ok (.ifCond .eq 29, 3) := by decide +kernel
theorem dL_ordered_348 : decode cL_ordered 348 = .ok (.fload_n 3, 1) := by decide +kernel
theorem dL_ordered_349 : decode cL_ordered 349 = .ok (.fconst 1, 1) := by decide +kernel
theorem dL_ordered_350 : decode cL_ordered 350 = .ok (.fcmp .g, 1) := by decide +kernel
theorem dL_ordered_351 : decode cL_ordered 351 = .ok (.ifCond .gt 23, 3) := by decide +kernel
theorem dL_ordered_354 : decode cL_ordered 354 = .ok (.aload_n 0, 1) := by decide +kernel
theorem dL_ordered_355 : decode cL_ordered 355 = .ok (.invokestatic 173, 3) := by decide +kernel
theorem dL_ordered_358 : decode cL_ordered 358 = .ok (.dconst 1, 1) := by decide +kernel
theorem dL_ordered_359 : decode cL_ordered 359 = .ok (.dcmp .l, 1) := by decide +kernel
theorem dL_ordered_360 : decode cL_ordered 360 = .ok (.ifCond .ge 10, 3) := by decide +kernel
theorem dL_ordered_363 : decode cL_ordered 363 = .ok (.aload_n 0, 1) := by decide +kernel
theorem dL_ordered_364 : decode cL_ordered 364 = .ok (.invokevirtual 157, 3) := by decide +kernel
theorem dL_ordered_367 : decode cL_ordered 367 = .ok (.ifCond .ne 7, 3) := by decide +kernel
theorem dL_ordered_370 : decode cL_ordered 370 = .ok (.iconst 1, 1) := by decide +kernel
theorem dL_ordered_371 : decode cL_ordered 371 = .ok (.goto 4, 3) := by decide +kernel
theorem dL_ordered_374 : decode cL_ordered 374 = .ok (.iconst 0, 1) := by decide +kernel
theorem dL_ordered_375 : decode cL_ordered 375 = .ok (.ireturn, 1) := by decide +kernel
theorem dL_law_0 : decode cL_law 0 = .ok (.new 9, 3) := by decide +kernel
theorem dL_law_3 : decode cL_law 3 = .ok (.dup, 1) := by decide +kernel
theorem dL_law_4 : decode cL_law 4 = .ok (.invokespecial 202, 3) := by decide +kernel
theorem dL_law_7 : decode cL_law 7 = .ok (.astore_n 1, 1) := by decide +kernel
theorem dL_law_8 : decode cL_law 8 = .ok (.aload_n 1, 1) := by decide +kernel
theorem dL_law_9 : decode cL_law 9 = .ok (.iconst (-1), 1) := by decide +kernel
theorem dL_law_10 : decode cL_law 10 = .ok (.invokestatic 203, 3) := by decide +kernel
theorem dL_law_13 : decode cL_law 13 = .ok (.iconst (-1), 1) := by decide +kernel
theorem dL_law_14 : decode cL_law 14 = .ok (.if_icmp .ne 89, 3) := by decide +kernel
theorem dL_law_17 : decode cL_law 17 = .ok (.aload_n 1, 1) := by decide +kernel
theorem dL_law_18 : decode cL_law 18 = .ok (.iconst 0, 1) := by decide +kernel
theorem dL_law_19 : decode cL_law 19 = .ok (.iconst 0, 1) := by decide +kernel
theorem dL_law_20 : decode cL_law 20 = .ok (.invokestatic 109, 3) := by decide +kernel
theorem dL_law_23 : decode cL_law 23 = .ok (.iconst (-1), 1) := by decide +kernel
theorem dL_law_24 : decode cL_law 24 = .ok (.if_icmp .ne 79, 3) := by decide +kernel
theorem dL_law_27 : decode cL_law 27 = .ok (.aload_n 1, 1) := by decide +kernel
theorem dL_law_28 : decode cL_law 28 = .ok (.iconst 0, 1) := by decide +kernel
theorem dL_law_29 : decode cL_law 29 = .ok (.iconst 0, 1) := by decide +kernel
theorem dL_law_30 : decode cL_law 30 = .ok (.invokestatic 114, 3) := by decide +kernel
theorem dL_law_33 : decode cL_law 33 = .ok (.iconst (-1), 1) := by decide +kernel
theorem dL_law_34 : decode cL_law 34 = .ok (.if_icmp .ne 69, 3) := by decide +kernel
theorem dL_law_37 : decode cL_law 37 = .ok (.aload_n 1, 1) := by decide +kernel
theorem dL_law_38 : decode cL_law 38 = .ok (.iconst 0, 1) := by decide +kernel
theorem dL_law_39 : decode cL_law 39 = .ok (.iconst 1, 1) := by decide +kernel
theorem dL_law_40 : decode cL_law 40 = .ok (.invokestatic 116, 3) := by decide +kernel
theorem dL_law_43 : decode cL_law 43 = .ok (.iconst (-1), 1) := by decide +kernel
theorem dL_law_44 : decode cL_law 44 = .ok (.if_icmp .ne 59, 3) := by decide +kernel
theorem dL_law_47 : decode cL_law 47 = .ok (.aload_n 1, 1) := by decide +kernel
theorem dL_law_48 : decode cL_law 48 = .ok (.bipush 65, 2) := by decide +kernel
theorem dL_law_50 : decode cL_law 50 = .ok (.invokestatic 121, 3) := by decide +kernel
theorem dL_law_53 : decode cL_law 53 = .ok (.iconst (-1), 1) := by decide +kernel
theorem dL_law_54 : decode cL_law 54 = .ok (.if_icmp .ne 49, 3) := by decide +kernel
theorem dL_law_57 : decode cL_law 57 = .ok (.aload_n 1, 1) := by decide +kernel
theorem dL_law_58 : decode cL_law 58 = .ok (.iconst 0, 1) := by decide +kernel
theorem dL_law_59 : decode cL_law 59 = .ok (.invokestatic 128, 3) := by decide +kernel
theorem dL_law_62 : decode cL_law 62 = .ok (.iconst (-1), 1) := by decide +kernel
theorem dL_law_63 : decode cL_law 63 = .ok (.if_icmp .ne 40, 3) := by decide +kernel
theorem dL_law_66 : decode cL_law 66 = .ok (.aload_n 1, 1) := by decide +kernel
theorem dL_law_67 : decode cL_law 67 = .ok (.iconst 0, 1) := by decide +kernel
theorem dL_law_68 : decode cL_law 68 = .ok (.invokestatic 205, 3) := by decide +kernel
theorem dL_law_71 : decode cL_law 71 = .ok (.iconst (-1), 1) := by decide +kernel
theorem dL_law_72 : decode cL_law 72 = .ok (.if_icmp .ne 31, 3) := by decide +kernel
theorem dL_law_75 : decode cL_law 75 = .ok (.aload_n 1, 1) := by decide +kernel
theorem dL_law_76 : decode cL_law 76 = .ok (.invokestatic 167, 3) := by decide +kernel
theorem dL_law_79 : decode cL_law 79 = .ok (.ldc 97, 2) := by decide +kernel
theorem dL_law_81 : decode cL_law 81 = .ok (.fcmp .l, 1) := by decide +kernel
theorem dL_law_82 : decode cL_law 82 = .ok (.ifCond .ne 21, 3) := by decide +kernel
theorem dL_law_85 : decode cL_law 85 = .ok (.aload_n 1, 1) := by decide +kernel
theorem dL_law_86 : decode cL_law 86 = .ok (.invokestatic 173, 3) := by decide +kernel
theorem dL_law_89 : decode cL_law 89 = .ok (.ldc2_w 102, 3) := by decide +kernel
theorem dL_law_92 : decode cL_law 92 = .ok (.dcmp .l, 1) := by decide +kernel
theorem dL_law_93 : decode cL_law 93 = .ok (.ifCond .ne 10, 3) := by decide +kernel
theorem dL_law_96 : decode cL_law 96 = .ok (.aload_n 1, 1) := by decide +kernel
theorem dL_law_97 : decode cL_law 97 = .ok (.invokevirtual 143, 3) := by decide +kernel
theorem dL_law_100 : decode cL_law 100 = .ok (.ifCond .eq 5, 3) := by decide +kernel
theorem dL_law_103 : decode cL_law 103 = .ok (.iconst 0, 1) := by decide +kernel
theorem dL_law_104 : decode cL_law 104 = .ok (.ireturn, 1) := by decide +kernel
theorem dL_law_105 : decode cL_law 105 = .ok (.new 105, 3) := by decide +kernel
theorem dL_law_108 : decode cL_law 108 = .ok (.dup, 1) := by decide +kernel
theorem dL_law_109 : decode cL_law 109 = .ok (.aload_n 0, 1) := by decide +kernel
theorem dL_law_110 : decode cL_law 110 = .ok (.iconst 0, 1) := by decide +kernel
theorem dL_law_111 : decode cL_law 111 = .ok (.invokestatic 207, 3) := by decide +kernel
theorem dL_law_114 : decode cL_law 114 = .ok (.invokespecial 211, 3) := by decide +kernel
theorem dL_law_117 : decode cL_law 117 = .ok (.astore_n 2, 1) := by decide +kernel
theorem dL_law_118 : decode cL_law 118 = .ok (.aload_n 1, 1) := by decide +kernel
theorem dL_law_119 : decode cL_law 119 = .ok (.sipush 300, 3) := by decide +kernel
theorem dL_law_122 : decode cL_law 122 = .ok (.aload_n 2, 1) := by decide +kernel
theorem dL_law_123 : decode cL_law 123 = .ok (.sipush 900, 3) := by decide +kernel
theorem dL_law_126 : decode cL_law 126 = .ok (.invokevirtual 104, 3) := by decide +kernel
theorem dL_law_129 : decode cL_law 129 = .ok (.iadd, 1) := by decide +kernel
theorem dL_law_130 : decode cL_law 130 = .ok (.invokestatic 203, 3) := by decide +kernel
theorem dL_law_133 : decode cL_law 133 = .ok (.ifCond .ne 26, 3) := by decide +kernel
theorem dL_law_136 : decode cL_law 136 = .ok (.aload_n 1, 1) := by decide +kernel
theorem dL_law_137 : decode cL_law 137 = .ok (.sipush 300, 3) := by decide +kernel
theorem dL_law_140 : decode cL_law 140 = .ok (.aload_n 2, 1) := by decide +kernel
theorem dL_law_141 : decode cL_law 141 = .ok (.sipush 900, 3) := by decide +kernel
theorem dL_law_144 : decode cL_law 144 = .ok (.invokevirtual 104, 3) := by decide +kernel
theorem dL_law_147 : decode cL_law 147 = .ok (.iadd, 1) := by decide +kernel
theorem dL_law_148 : decode cL_law 148 = .ok (.invokestatic 203, 3) := by decide +kernel
theorem dL_law_151 : decode cL_law 151 = .ok (.iconst 1, 1) := by decide +kernel
theorem dL_law_152 : decode cL_law 152 = .ok (.if_icmp .ne 7, 3) := by decide +kernel
theorem dL_law_155 : decode cL_law 155 = .ok (.iconst 1, 1) := by decide +kernel
theorem dL_law_156 : decode cL_law 156 = .ok (.goto 4, 3) := by decide +kernel
theorem dL_law_159 : decode cL_law 159 = .ok (.iconst 0, 1) := by decide +kernel
theorem dL_law_160 : decode cL_law 160 = .ok (.istore_n 3, 1) := by decide +kernel
theorem dL_law_161 : decode cL_law 161 = .ok (.aload_n 2, 1) := by decide +kernel
theorem dL_law_162 : decode cL_law 162 = .ok (.bipush 50, 2) := by decide +kernel
theorem dL_law_164 : decode cL_law 164 = .ok (.invokevirtual 104, 3) := by decide +kernel
theorem dL_law_167 : decode cL_law 167 = .ok (.istore 4, 2) := by decide +kernel
theorem dL_law_169 : decode cL_law 169 = .ok (.iconst 0, 1) := by decide +kernel
theorem dL_law_170 : decode cL_law 170 = .ok (.istore 5, 2) := by decide +kernel
theorem dL_law_172 : decode cL_law 172 = .ok (.iload 5, 2) := by decide +kernel
theorem dL_law_174 : decode cL_law 174 = .ok (.iconst 4, 1) := by decide +kernel
theorem dL_law_175 : decode cL_law 175 = .ok (.if_icmp .ge 32, 3) := by decide +kernel
theorem dL_law_178 : decode cL_law 178 = .ok (.iload_n 3, 1) := by decide +kernel
theorem dL_law_179 : decode cL_law 179 = .ok (.aload_n 1, 1) := by decide +kernel
theorem dL_law_180 : decode cL_law 180 = .ok (.iload 5, 2) := by decide +kernel
theorem dL_law_182 : decode cL_law 182 = .ok (.iconst 2, 1) := by decide +kernel
theorem dL_law_183 : decode cL_law 183 = .ok (.irem, 1) := by decide +kernel
theorem dL_law_184 : decode cL_law 184 = .ok (.iload 4, 2) := by decide +kernel
theorem dL_law_186 : decode cL_law 186 = .ok (.invokestatic 109, 3) := by decide +kernel
theorem dL_law_189 : decode cL_law 189 = .ok (.iload 5, 2) := by decide +kernel
theorem dL_law_191 : decode cL_law 191 = .ok (.if_icmp .ne 7, 3) := by decide +kernel
theorem dL_law_194 : decode cL_law 194 = .ok (.iconst 1, 1) := by decide +kernel
theorem dL_law_195 : decode cL_law 195 = .ok (.goto 4, 3) := by decide +kernel
theorem dL_law_198 : decode cL_law 198 = .ok (.iconst 0, 1) := by decide +kernel
theorem dL_law_199 : decode cL_law 199 = .ok (.iand, 1) := by decide +kernel
theorem dL_law_200 : decode cL_law 200 = .ok (.istore_n 3, 1) := by decide +kernel
theorem dL_law_201 : decode cL_law 201 = .ok (.iinc 5 1, 3) := by decide +kernel
theorem dL_law_204 : decode cL_law 204 = .ok (.goto (-32), 3) := by decide +kernel
theorem dL_law_207 : decode cL_law 207 = .ok (.bipush 24, 2) := by decide +kernel
theorem dL_law_209 : decode cL_law 209 = .ok (.istore 5, 2) := by decide +kernel
theorem dL_law_211 : decode cL_law 211 = .ok (.iconst 1, 1) := by decide +kernel
theorem dL_law_212 : decode cL_law 212 = .ok (.istore 6, 2) := by decide +kernel
theorem dL_law_214 : decode cL_law 214 = .ok (.iconst 0, 1) := by decide +kernel
theorem dL_law_215 : decode cL_law 215 = .ok (.istore 7, 2) := by decide +kernel
theorem dL_law_217 : decode cL_law 217 = .ok (.iload_n 3, 1) := by decide +kernel
theorem dL_law_218 : decode cL_law 218 = .ok (.ifCond .eq 203, 3) := by decide +kernel
theorem dL_law_221 : decode cL_law 221 = .ok (.iload 7, 2) := by decide +kernel
theorem dL_law_223 : decode cL_law 223 = .ok (.bipush 50, 2) := by decide +kernel
theorem dL_law_225 : decode cL_law 225 = .ok (.if_icmp .ge 196, 3) := by decide +kernel
theorem dL_law_228 : decode cL_law 228 = .ok (.aload_n 0, 1) := by decide +kernel
theorem dL_law_229 : decode cL_law 229 = .ok (.iload 6, 2) := by decide +kernel
theorem dL_law_231 : decode cL_law 231 = .ok (.invokestatic 207, 3) := by decide +kernel
theorem dL_law_234 : decode cL_law 234 = .ok (.sipush 255, 3) := by decide +kernel
theorem dL_law_237 : decode cL_law 237 = .ok (.iand, 1) := by decide +kernel
theorem dL_law_238 : decode cL_law 238 = .ok (.istore 8, 2) := by decide +kernel
theorem dL_law_240 : decode cL_law 240 = .ok (.new 105, 3) := by decide +kernel
theorem dL_law_243 : decode cL_law 243 = .ok (.dup, 1) := by decide +kernel
theorem dL_law_244 : decode cL_law 244 = .ok (.aload_n 0, 1) := by decide +kernel
theorem dL_law_245 : decode cL_law 245 = .ok (.iload 6, 2) := by decide +kernel
theorem dL_law_247 : decode cL_law 247 = .ok (.iconst 1, 1) := by decide +kernel
theorem dL_law_248 : decode cL_law 248 = .ok (.iadd, 1) := by decide +kernel
theorem dL_law_249 : decode cL_law 249 = .ok (.invokestatic 207, 3) := by decide +kernel
theorem dL_law_252 : decode cL_law 252 = .ok (.invokespecial 211, 3) := by decide +kernel
theorem dL_law_255 : decode cL_law 255 = .ok (.astore 9, 2) := by decide +kernel
theorem dL_law_257 : decode cL_law 257 = .ok (.iinc 6 2, 3) := by decide +kernel
theorem dL_law_260 : decode cL_law 260 = .ok (.aload_n 1, 1) := by decide +kernel
theorem dL_law_261 : decode cL_law 261 = .ok (.invokestatic 214, 3) := by decide +kernel
theorem dL_law_264 : decode cL_law 264 = .ok (.astore 10, 2) := by decide +kernel
theorem dL_law_266 : decode cL_law 266 = .ok (.aload_n 1, 1) := by decide +kernel
theorem dL_law_267 : decode cL_law 267 = .ok (.invokevirtual 157, 3) := by decide +kernel
theorem dL_law_270 : decode cL_law 270 = .ok (.istore 11, 2) := by decide +kernel
theorem dL_law_272 : decode cL_law 272 = .ok (.aload_n 1, 1) := by decide +kernel
theorem dL_law_273 : decode cL_law 273 = .ok (.iconst 0, 1) := by decide +kernel
theorem dL_law_274 : decode cL_law 274 = .ok (.invokestatic 190, 3) := by decide +kernel
theorem dL_law_277 : decode cL_law 277 = .ok (.i2l, 1) := by decide +kernel
theorem dL_law_278 : decode cL_law 278 = .ok (.aload_n 1, 1) := by decide +kernel
theorem dL_law_279 : decode cL_law 279 = .ok (.iconst 1, 1) := by decide +kernel
theorem dL_law_280 : decode cL_law 280 = .ok (.invokestatic 190, 3) := by decide +kernel
theorem dL_law_283 : decode cL_law 283 = .ok (.i2l, 1) := by decide +kernel
theorem dL_law_284 : decode cL_law 284 = .ok (.ladd, 1) := by decide +kernel
theorem dL_law_285 : decode cL_law 285 = .ok (.aload_n 1, 1) := by decide +kernel
theorem dL_law_286 : decode cL_law 286 = .ok (.invokevirtual 160, 3) := by decide +kernel
theorem dL_law_289 : decode cL_law 289 = .ok (.lsub, 1) := by decide +kernel
theorem dL_law_290 : decode cL_law 290 = .ok (.lstore 12, 2) := by decide +kernel
theorem dL_law_292 : decode cL_law 292 = .ok (.aload_n 1, 1) := by decide +kernel
theorem dL_law_293 : decode cL_law 293 = .ok (.iload 8, 2) := by decide +kernel
theorem dL_law_295 : decode cL_law 295 = .ok (.aload 9, 2) := by decide +kernel
theorem dL_law_297 : decode cL_law 297 = .ok (.invokestatic 218, 3) := by decide +kernel
theorem dL_law_300 : decode cL_law 300 = .ok (.istore 14, 2) := by decide +kernel
theorem dL_law_302 : decode cL_law 302 = .ok (.iload 14, 2) := by decide +kernel
theorem dL_law_304 : decode cL_law 304 = .ok (.bipush (-9), 2) := by decide +kernel
theorem dL_law_306 : decode cL_law 306 = .ok (.if_icmp .lt 20, 3) := by decide +kernel
theorem dL_law_309 : decode cL_law 309 = .ok (.iload 14, 2) := by decide +kernel
theorem dL_law_311 : decode cL_law 311 = .ok (.ifCond .ge 17, 3) := by decide +kernel
theorem dL_law_314 : decode cL_law 314 = .ok (.aload 10, 2) := by decide +kernel
theorem dL_law_316 : decode cL_law 316 = .ok (.aload_n 1, 1) := by decide +kernel
theorem dL_law_317 : decode cL_law 317 = .ok (.invokestatic 214, 3) := by decide +kernel
theorem dL_law_320 : decode cL_law 320 = .ok (.invokevirtual 222, 3) := by decide +kernel
theorem dL_law_323 : decode cL_law 323 = .ok (.ifCond .ne 5, 3) := by decide +kernel
theorem dL_law_326 : decode cL_law 326 = .ok (.iconst 0, 1) := by decide +kernel
theorem dL_law_327 : decode cL_law 327 = .ok (.ireturn, 1) := by decide +kernel
theorem dL_law_328 : decode cL_law 328 = .ok (.iload 8, 2) := by decide +kernel
theorem dL_law_330 : decode cL_law 330 = .ok (.bipush 16, 2) := by decide +kernel
theorem dL_law_332 : decode cL_law 332 = .ok (.irem, 1) := by decide +kernel
theorem dL_law_333 : decode cL_law 333 = .ok (.bipush 10, 2) := by decide +kernel
theorem dL_law_335 : decode cL_law 335 = .ok (.if_icmp .ne 13, 3) := by decide +kernel
theorem dL_law_338 : decode cL_law 338 = .ok (.iload 14, 2) := by decide +kernel
theorem dL_law_340 : decode cL_law 340 = .ok (.ifCond .lt 8, 3) := by decide +kernel
theorem dL_law_343 : decode cL_law 343 = .ok (.bipush 64, 2) := by decide +kernel
theorem dL_law_345 : decode cL_law 345 = .ok (.goto 5, 3) := by decide +kernel
theorem dL_law_348 : decode cL_law 348 = .ok (.iload 5, 2) := by decide +kernel
theorem dL_law_350 : decode cL_law 350 = .ok (.istore 5, 2) := by decide +kernel
theorem dL_law_352 : decode cL_law 352 = .ok (.aload_n 1, 1) := by decide +kernel
theorem dL_law_353 : decode cL_law 353 = .ok (.iconst 0, 1) := by decide +kernel
theorem dL_law_354 : decode cL_law 354 = .ok (.invokestatic 190, 3) := by decide +kernel
theorem dL_law_357 : decode cL_law 357 = .ok (.i2l, 1) := by decide +kernel
theorem dL_law_358 : decode cL_law 358 = .ok (.aload_n 1, 1) := by decide +kernel
theorem dL_law_359 : decode cL_law 359 = .ok (.iconst 1, 1) := by decide +kernel
theorem dL_law_360 : decode cL_law 360 = .ok (.invokestatic 190, 3) := by decide +kernel
theorem dL_law_363 : decode cL_law 363 = .ok (.i2l, 1) := by decide +kernel
theorem dL_law_364 : decode cL_law 364 = .ok (.ladd, 1) := by decide +kernel
theorem dL_law_365 : decode cL_law 365 = .ok (.aload_n 1, 1) := by decide +kernel
theorem dL_law_366 : decode cL_law 366 = .ok (.invokevirtual 160, 3) := by decide +kernel
theorem dL_law_369 : decode cL_law 369 = .ok (.lsub, 1) := by decide +kernel
theorem dL_law_370 : decode cL_law 370 = .ok (.lstore 15, 2) := by decide +kernel
theorem dL_law_372 : decode cL_law 372 = .ok (.aload_n 1, 1) := by decide +kernel
theorem dL_law_373 : decode cL_law 373 = .ok (.iload 5, 2) := by decide +kernel
theorem dL_law_375 : decode cL_law 375 = .ok (.invokestatic 228, 3) := by decide +kernel
theorem dL_law_378 : decode cL_law 378 = .ok (.ifCond .eq 35, 3) := by decide +kernel
theorem dL_law_381 : decode cL_law 381 = .ok (.aload_n 1, 1) := by decide +kernel
theorem dL_law_382 : decode cL_law 382 = .ok (.invokevirtual 157, 3) := by decide +kernel
theorem dL_law_385 : decode cL_law 385 = .ok (.iload 11, 2) := by decide +kernel
theorem dL_law_387 : decode cL_law 387 = .ok (.if_icmp .ne 14, 3) := by decide +kernel
theorem dL_law_390 : decode cL_law 390 = .ok (.lload 15, 2) := by decide +kernel
theorem dL_law_392 : decode cL_law 392 = .ok (.lload 12, 2) := by decide +kernel
theorem dL_law_394 : decode cL_law 394 = .ok (.lcmp, 1) := by decide +kernel
theorem dL_law_395 : decode cL_law 395 = .ok (.ifCond .ne 18, 3) := by decide +kernel
theorem dL_law_398 : decode cL_law 398 = .ok (.goto 11, 3) := by decide +kernel
theorem dL_law_401 : decode cL_law 401 = .ok (.lload 15, 2) := by decide +kernel
theorem dL_law_403 : decode cL_law 403 = .ok (.lload 12, 2) := by decide +kernel
theorem dL_law_405 : decode cL_law 405 = .ok (.lcmp, 1) := by decide +kernel
theorem dL_law_406 : decode cL_law 406 = .ok (.ifCond .ge 7, 3) := by decide +kernel
theorem dL_law_409 : decode cL_law 409 = .ok (.iconst 1, 1) := by decide +kernel
theorem dL_law_410 : decode cL_law 410 = .ok (.goto 4, 3) := by decide +kernel
theorem dL_law_413 : decode cL_law 413 = .ok (.iconst 0, 1) := by decide +kernel
theorem dL_law_414 : decode cL_law 414 = .ok (.istore_n 3, 1) := by decide +kernel
theorem dL_law_415 : decode cL_law 415 = .ok (.iinc 7 1, 3) := by decide +kernel
theorem dL_law_418 : decode cL_law 418 = .ok (.goto (-201), 3) := by decide +kernel
theorem dL_law_421 : decode cL_law 421 = .ok (.iload_n 3, 1) := by decide +kernel
theorem dL_law_422 : decode cL_law 422 = .ok (.ireturn, 1) := by decide +kernel
