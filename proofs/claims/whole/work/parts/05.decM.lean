theorem dX8_init_0 : decode cX8_init 0 = .ok (.aload_n 0, 1) := by decide +kernel
theorem dX8_init_1 : decode cX8_init 1 = .ok (.invokespecial 1, 3) := by decide +kernel
theorem dX8_init_4 : decode cX8_init 4 = .ok (.aload_n 0, 1) := by decide +kernel
theorem dX8_init_5 : decode cX8_init 5 = .ok (.iconst 4, 1) := by decide +kernel
theorem dX8_init_6 : decode cX8_init 6 = .ok (.newarray .int, 2) := by decide +kernel
theorem dX8_init_8 : decode cX8_init 8 = .ok (.putfield 7, 3) := by decide +kernel
theorem dX8_init_11 : decode cX8_init 11 = .ok (.aload_n 0, 1) := by decide +kernel
theorem dX8_init_12 : decode cX8_init 12 = .ok (.bipush 8, 2) := by decide +kernel
theorem dX8_init_14 : decode cX8_init 14 = .ok (.newarray .long, 2) := by decide +kernel
theorem dX8_init_16 : decode cX8_init 16 = .ok (.putfield 13, 3) := by decide +kernel
theorem dX8_init_19 : decode cX8_init 19 = .ok (.aload_n 0, 1) := by decide +kernel
theorem dX8_init_20 : decode cX8_init 20 = .ok (.bipush 8, 2) := by decide +kernel
theorem dX8_init_22 : decode cX8_init 22 = .ok (.newarray .int, 2) := by decide +kernel
theorem dX8_init_24 : decode cX8_init 24 = .ok (.putfield 17, 3) := by decide +kernel
theorem dX8_init_27 : decode cX8_init 27 = .ok (.aload_n 0, 1) := by decide +kernel
theorem dX8_init_28 : decode cX8_init 28 = .ok (.bipush 8, 2) := by decide +kernel
theorem dX8_init_30 : decode cX8_init 30 = .ok (.newarray .int, 2) := by decide +kernel
theorem dX8_init_32 : decode cX8_init 32 = .ok (.putfield 20, 3) := by decide +kernel
theorem dX8_init_35 : decode cX8_init 35 = .ok (.aload_n 0, 1) := by decide +kernel
theorem dX8_init_36 : decode cX8_init 36 = .ok (.bipush 8, 2) := by decide +kernel
theorem dX8_init_38 : decode cX8_init 38 = .ok (.newarray .int, 2) := by decide +kernel
theorem dX8_init_40 : decode cX8_init 40 = .ok (.putfield 23, 3) := by decide +kernel
theorem dX8_init_43 : decode cX8_init 43 = .ok (.aload_n 0, 1) := by decide +kernel
theorem dX8_init_44 : decode cX8_init 44 = .ok (.bipush 8, 2) := by decide +kernel
theorem dX8_init_46 : decode cX8_init 46 = .ok (.newarray .int, 2) := by decide +kernel
theorem dX8_init_48 : decode cX8_init 48 = .ok (.putfield 26, 3) := by decide +kernel
theorem dX8_init_51 : decode cX8_init 51 = .ok (.aload_n 0, 1) := by decide +kernel
theorem dX8_init_52 : decode cX8_init 52 = .ok (.bipush 8, 2) := by decide +kernel
theorem dX8_init_54 : decode cX8_init 54 = .ok (.newarray .int, 2) := by decide +kernel
theorem dX8_init_56 : decode cX8_init 56 = .ok (.putfield 29, 3) := by decide +kernel
theorem dX8_init_59 : decode cX8_init 59 = .ok (.aload_n 0, 1) := by decide +kernel
theorem dX8_init_60 : decode cX8_init 60 = .ok (.bipush 8, 2) := by decide +kernel
theorem dX8_init_62 : decode cX8_init 62 = .ok (.newarray .int, 2) := by decide +kernel
theorem dX8_init_64 : decode cX8_init 64 = .ok (.putfield 32, 3) := by decide +kernel
theorem dX8_init_67 : decode cX8_init 67 = .ok (.aload_n 0, 1) := by decide +kernel
theorem dX8_init_68 : decode cX8_init 68 = .ok (.bipush 8, 2) := by decide +kernel
theorem dX8_init_70 : decode cX8_init 70 = .ok (.newarray .int, 2) := by decide +kernel
theorem dX8_init_72 : decode cX8_init 72 = .ok (.putfield 35, 3) := by decide +kernel
theorem dX8_init_75 : decode cX8_init 75 = .ok (.aload_n 0, 1) := by decide +kernel
theorem dX8_init_76 : decode cX8_init 76 = .ok (.bipush 8, 2) := by decide +kernel
theorem dX8_init_78 : decode cX8_init 78 = .ok (.newarray .boolean, 2) := by decide +kernel
theorem dX8_init_80 : decode cX8_init 80 = .ok (.putfield 38, 3) := by decide +kernel
theorem dX8_init_83 : decode cX8_init 83 = .ok (.aload_n 0, 1) := by decide +kernel
theorem dX8_init_84 : decode cX8_init 84 = .ok (.bipush 60, 2) := by decide +kernel
theorem dX8_init_86 : decode cX8_init 86 = .ok (.newarray .long, 2) := by decide +kernel
theorem dX8_init_88 : decode cX8_init 88 = .ok (.putfield 42, 3) := by decide +kernel
theorem dX8_init_91 : decode cX8_init 91 = .ok (.aload_n 0, 1) := by decide +kernel
theorem dX8_init_92 : decode cX8_init 92 = .ok (.bipush 60, 2) := by decide +kernel
theorem dX8_init_94 : decode cX8_init 94 = .ok (.newarray .int, 2) := by decide +kernel
theorem dX8_init_96 : decode cX8_init 96 = .ok (.putfield 45, 3) := by decide +kernel
theorem dX8_init_99 : decode cX8_init 99 = .ok (.aload_n 0, 1) := by decide +kernel
theorem dX8_init_100 : decode cX8_init 100 = .ok (.bipush 60, 2) := by decide +kernel
theorem dX8_init_102 : decode cX8_init 102 = .ok (.newarray .int, 2) := by decide +kernel
theorem dX8_init_104 : decode cX8_init 104 = .ok (.putfield 48, 3) := by decide +kernel
theorem dX8_init_107 : decode cX8_init 107 = .ok (.aload_n 0, 1) := by decide +kernel
theorem dX8_init_108 : decode cX8_init 108 = .ok (.bipush 60, 2) := by decide +kernel
theorem dX8_init_110 : decode cX8_init 110 = .ok (.newarray .int, 2) := by decide +kernel
theorem dX8_init_112 : decode cX8_init 112 = .ok (.putfield 51, 3) := by decide +kernel
theorem dX8_init_115 : decode cX8_init 115 = .ok (.aload_n 0, 1) := by decide +kernel
theorem dX8_init_116 : decode cX8_init 116 = .ok (.bipush 64, 2) := by decide +kernel
theorem dX8_init_118 : decode cX8_init 118 = .ok (.newarray .long, 2) := by decide +kernel
theorem dX8_init_120 : decode cX8_init 120 = .ok (.putfield 54, 3) := by decide +kernel
theorem dX8_init_123 : decode cX8_init 123 = .ok (.aload_n 0, 1) := by decide +kernel
theorem dX8_init_124 : decode cX8_init 124 = .ok (.bipush 64, 2) := by decide +kernel
theorem dX8_init_126 : decode cX8_init 126 = .ok (.newarray .int, 2) := by decide +kernel
theorem dX8_init_128 : decode cX8_init 128 = .ok (.putfield 57, 3) := by decide +kernel
theorem dX8_init_131 : decode cX8_init 131 = .ok (.aload_n 0, 1) := by decide +kernel
theorem dX8_init_132 : decode cX8_init 132 = .ok (.bipush 64, 2) := by decide +kernel
theorem dX8_init_134 : decode cX8_init 134 = .ok (.newarray .int, 2) := by decide +kernel
theorem dX8_init_136 : decode cX8_init 136 = .ok (.putfield 60, 3) := by decide +kernel
theorem dX8_init_139 : decode cX8_init 139 = .ok (.aload_n 0, 1) := by decide +kernel
theorem dX8_init_140 : decode cX8_init 140 = .ok (.bipush 64, 2) := by decide +kernel
theorem dX8_init_142 : decode cX8_init 142 = .ok (.newarray .int, 2) := by decide +kernel
theorem dX8_init_144 : decode cX8_init 144 = .ok (.putfield 63, 3) := by decide +kernel
theorem dX8_init_147 : decode cX8_init 147 = .ok (.aload_n 0, 1) := by decide +kernel
theorem dX8_init_148 : decode cX8_init 148 = .ok (.bipush 64, 2) := by decide +kernel
theorem dX8_init_150 : decode cX8_init 150 = .ok (.newarray .int, 2) := by decide +kernel
theorem dX8_init_152 : decode cX8_init 152 = .ok (.putfield 66, 3) := by decide +kernel
theorem dX8_init_155 : decode cX8_init 155 = .ok (.aload_n 0, 1) := by decide +kernel
theorem dX8_init_156 : decode cX8_init 156 = .ok (.bipush 64, 2) := by decide +kernel
theorem dX8_init_158 : decode cX8_init 158 = .ok (.newarray .int, 2) := by decide +kernel
theorem dX8_init_160 : decode cX8_init 160 = .ok (.putfield 69, 3) := by decide +kernel
theorem dX8_init_163 : decode cX8_init 163 = .ok (.aload_n 0, 1) := by decide +kernel
theorem dX8_init_164 : decode cX8_init 164 = .ok (.bipush 64, 2) := by decide +kernel
theorem dX8_init_166 : decode cX8_init 166 = .ok (.newarray .int, 2) := by decide +kernel
theorem dX8_init_168 : decode cX8_init 168 = .ok (.putfield 72, 3) := by decide +kernel
theorem dX8_init_171 : decode cX8_init 171 = .ok (.aload_n 0, 1) := by decide +kernel
theorem dX8_init_172 : decode cX8_init 172 = .ok (.bipush 6, 2) := by decide +kernel
theorem dX8_init_174 : decode cX8_init 174 = .ok (.newarray .long, 2) := by decide +kernel
theorem dX8_init_176 : decode cX8_init 176 = .ok (.putfield 75, 3) := by decide +kernel
theorem dX8_init_179 : decode cX8_init 179 = .ok (.aload_n 0, 1) := by decide +kernel
theorem dX8_init_180 : decode cX8_init 180 = .ok (.bipush 6, 2) := by decide +kernel
theorem dX8_init_182 : decode cX8_init 182 = .ok (.newarray .int, 2) := by decide +kernel
theorem dX8_init_184 : decode cX8_init 184 = .ok (.putfield 78, 3) := by decide +kernel
theorem dX8_init_187 : decode cX8_init 187 = .ok (.aload_n 0, 1) := by decide +kernel
theorem dX8_init_188 : decode cX8_init 188 = .ok (.bipush 6, 2) := by decide +kernel
theorem dX8_init_190 : decode cX8_init 190 = .ok (.newarray .int, 2) := by decide +kernel
theorem dX8_init_192 : decode cX8_init 192 = .ok (.putfield 81, 3) := by decide +kernel
theorem dX8_init_195 : decode cX8_init 195 = .ok (.aload_n 0, 1) := by decide +kernel
theorem dX8_init_196 : decode cX8_init 196 = .ok (.bipush 6, 2) := by decide +kernel
theorem dX8_init_198 : decode cX8_init 198 = .ok (.newarray .int, 2) := by decide +kernel
theorem dX8_init_200 : decode cX8_init 200 = .ok (.putfield 84, 3) := by decide +kernel
theorem dX8_init_203 : decode cX8_init 203 = .ok (.aload_n 0, 1) := by decide +kernel
theorem dX8_init_204 : decode cX8_init 204 = .ok (.bipush 6, 2) := by decide +kernel
theorem dX8_init_206 : decode cX8_init 206 = .ok (.newarray .int, 2) := by decide +kernel
theorem dX8_init_208 : decode cX8_init 208 = .ok (.putfield 87, 3) := by decide +kernel
theorem dX8_init_211 : decode cX8_init 211 = .ok (.aload_n 0, 1) := by decide +kernel
theorem dX8_init_212 : decode cX8_init 212 = .ok (.bipush 6, 2) := by decide +kernel
theorem dX8_init_214 : decode cX8_init 214 = .ok (.newarray .int, 2) := by decide +kernel
theorem dX8_init_216 : decode cX8_init 216 = .ok (.putfield 90, 3) := by decide +kernel
theorem dX8_init_219 : decode cX8_init 219 = .ok (.aload_n 0, 1) := by decide +kernel
theorem dX8_init_220 : decode cX8_init 220 = .ok (.bipush 6, 2) := by decide +kernel
theorem dX8_init_222 : decode cX8_init 222 = .ok (.newarray .int, 2) := by decide +kernel
theorem dX8_init_224 : decode cX8_init 224 = .ok (.putfield 93, 3) := by decide +kernel
theorem dX8_init_227 : decode cX8_init 227 = .ok (.aload_n 0, 1) := by decide +kernel
theorem dX8_init_228 : decode cX8_init 228 = .ok (.bipush 24, 2) := by decide +kernel
theorem dX8_init_230 : decode cX8_init 230 = .ok (.putfield 96, 3) := by decide +kernel
theorem dX8_init_233 : decode cX8_init 233 = .ok (.aload_n 0, 1) := by decide +kernel
theorem dX8_init_234 : decode cX8_init 234 = .ok (.iconst 3, 1) := by decide +kernel
theorem dX8_init_235 : decode cX8_init 235 = .ok (.putfield 100, 3) := by decide +kernel
theorem dX8_init_238 : decode cX8_init 238 = .ok (.return_, 1) := by decide +kernel
theorem dX8_thrown_0 : decode cX8_thrown 0 = .ok (.aload_n 0, 1) := by decide +kernel
theorem dX8_thrown_1 : decode cX8_thrown 1 = .ok (.getfield 103, 3) := by decide +kernel
theorem dX8_thrown_4 : decode cX8_thrown 4 = .ok (.ireturn, 1) := by decide +kernel
theorem dX8_refuse_0 : decode cX8_refuse 0 = .ok (.aload_n 0, 1) := by decide +kernel
theorem dX8_refuse_1 : decode cX8_refuse 1 = .ok (.iload_n 1, 1) := by decide +kernel
theorem dX8_refuse_2 : decode cX8_refuse 2 = .ok (.putfield 103, 3) := by decide +kernel
theorem dX8_refuse_5 : decode cX8_refuse 5 = .ok (.iconst 0, 1) := by decide +kernel
theorem dX8_refuse_6 : decode cX8_refuse 6 = .ok (.ireturn, 1) := by decide +kernel
theorem dX8_no_0 : decode cX8_no 0 = .ok (.aload_n 0, 1) := by decide +kernel
theorem dX8_no_1 : decode cX8_no 1 = .ok (.iload_n 1, 1) := by decide +kernel
theorem dX8_no_2 : decode cX8_no 2 = .ok (.ifCond .eq 7, 3) := by decide +kernel
theorem dX8_no_5 : decode cX8_no 5 = .ok (.iconst 0, 1) := by decide +kernel
theorem dX8_no_6 : decode cX8_no 6 = .ok (.goto 4, 3) := by decide +kernel
theorem dX8_no_9 : decode cX8_no 9 = .ok (.iload_n 2, 1) := by decide +kernel
theorem dX8_no_10 : decode cX8_no 10 = .ok (.putfield 103, 3) := by decide +kernel
theorem dX8_no_13 : decode cX8_no 13 = .ok (.iload_n 1, 1) := by decide +kernel
theorem dX8_no_14 : decode cX8_no 14 = .ok (.ifCond .ne 7, 3) := by decide +kernel
theorem dX8_no_17 : decode cX8_no 17 = .ok (.iconst 1, 1) := by decide +kernel
theorem dX8_no_18 : decode cX8_no 18 = .ok (.goto 4, 3) := by decide +kernel
theorem dX8_no_21 : decode cX8_no 21 = .ok (.iconst 0, 1) := by decide +kernel
theorem dX8_no_22 : decode cX8_no 22 = .ok (.ireturn, 1) := by decide +kernel
theorem dX8_noGame_0 : decode cX8_noGame 0 = .ok (.aload_n 0, 1) := by decide +kernel
theorem dX8_noGame_1 : decode cX8_noGame 1 = .ok (.iload_n 1, 1) := by decide +kernel
theorem dX8_noGame_2 : decode cX8_noGame 2 = .ok (.ifCond .lt 15, 3) := by decide +kernel
theorem dX8_noGame_5 : decode cX8_noGame 5 = .ok (.iload_n 1, 1) := by decide +kernel
theorem dX8_noGame_6 : decode cX8_noGame 6 = .ok (.aload_n 0, 1) := by decide +kernel
theorem dX8_noGame_7 : decode cX8_noGame 7 = .ok (.getfield 106, 3) := by decide +kernel
theorem dX8_noGame_10 : decode cX8_noGame 10 = .ok (.if_icmp .ge 7, 3) := by decide +kernel
theorem dX8_noGame_13 : decode cX8_noGame 13 = .ok (.iconst 1, 1) := by decide +kernel
theorem dX8_noGame_14 : decode cX8_noGame 14 = .ok (.goto 4, 3) := by decide +kernel
theorem dX8_noGame_17 : decode cX8_noGame 17 = .ok (.iconst 0, 1) := by decide +kernel
theorem dX8_noGame_18 : decode cX8_noGame 18 = .ok (.iconst 1, 1) := by decide +kernel
theorem dX8_noGame_19 : decode cX8_noGame 19 = .ok (.invokevirtual 109, 3) := by decide +kernel
theorem dX8_noGame_22 : decode cX8_noGame 22 = .ok (.ireturn, 1) := by decide +kernel
theorem dX8_tile_0 : decode cX8_tile 0 = .ok (.lload_n 0, 1) := by decide +kernel
theorem dX8_tile_1 : decode cX8_tile 1 = .ok (.iconst 4, 1) := by decide +kernel
theorem dX8_tile_2 : decode cX8_tile 2 = .ok (.iload_n 2, 1) := by decide +kernel
theorem dX8_tile_3 : decode cX8_tile 3 = .ok (.imul, 1) := by decide +kernel
theorem dX8_tile_4 : decode cX8_tile 4 = .ok (.lshr, 1) := by decide +kernel
theorem dX8_tile_5 : decode cX8_tile 5 = .ok (.l2i, 1) := by decide +kernel
theorem dX8_tile_6 : decode cX8_tile 6 = .ok (.bipush 15, 2) := by decide +kernel
theorem dX8_tile_8 : decode cX8_tile 8 = .ok (.iand, 1) := by decide +kernel
theorem dX8_tile_9 : decode cX8_tile 9 = .ok (.ireturn, 1) := by decide +kernel
theorem dX8_cellOf_0 : decode cX8_cellOf 0 = .ok (.iload_n 0, 1) := by decide +kernel
theorem dX8_cellOf_1 : decode cX8_cellOf 1 = .ok (.ifCond .ne 11, 3) := by decide +kernel
theorem dX8_cellOf_4 : decode cX8_cellOf 4 = .ok (.iconst 3, 1) := by decide +kernel
theorem dX8_cellOf_5 : decode cX8_cellOf 5 = .ok (.iload_n 2, 1) := by decide +kernel
theorem dX8_cellOf_6 : decode cX8_cellOf 6 = .ok (.imul, 1) := by decide +kernel
theorem dX8_cellOf_7 : decode cX8_cellOf 7 = .ok (.iload_n 1, 1) := by decide +kernel
theorem dX8_cellOf_8 : decode cX8_cellOf 8 = .ok (.iadd, 1) := by decide +kernel
theorem dX8_cellOf_9 : decode cX8_cellOf 9 = .ok (.goto 38, 3) := by decide +kernel
theorem dX8_cellOf_12 : decode cX8_cellOf 12 = .ok (.iload_n 0, 1) := by decide +kernel
theorem dX8_cellOf_13 : decode cX8_cellOf 13 = .ok (.iconst 1, 1) := by decide +kernel
theorem dX8_cellOf_14 : decode cX8_cellOf 14 = .ok (.if_icmp .ne 13, 3) := by decide +kernel
theorem dX8_cellOf_17 : decode cX8_cellOf 17 = .ok (.iconst 3, 1) := by decide +kernel
theorem dX8_cellOf_18 : decode cX8_cellOf 18 = .ok (.iload_n 1, 1) := by decide +kernel
theorem dX8_cellOf_19 : decode cX8_cellOf 19 = .ok (.imul, 1) := by decide +kernel
theorem dX8_cellOf_20 : decode cX8_cellOf 20 = .ok (.iconst 2, 1) := by decide +kernel
theorem dX8_cellOf_21 : decode cX8_cellOf 21 = .ok (.iadd, 1) := by decide +kernel
theorem dX8_cellOf_22 : decode cX8_cellOf 22 = .ok (.iload_n 2, 1) := by decide +kernel
theorem dX8_cellOf_23 : decode cX8_cellOf 23 = .ok (.isub, 1) := by decide +kernel
theorem dX8_cellOf_24 : decode cX8_cellOf 24 = .ok (.goto 23, 3) := by decide +kernel
theorem dX8_cellOf_27 : decode cX8_cellOf 27 = .ok (.iload_n 0, 1) := by decide +kernel
theorem dX8_cellOf_28 : decode cX8_cellOf 28 = .ok (.iconst 2, 1) := by decide +kernel
theorem dX8_cellOf_29 : decode cX8_cellOf 29 = .ok (.if_icmp .ne 13, 3) := by decide +kernel
theorem dX8_cellOf_32 : decode cX8_cellOf 32 = .ok (.iconst 3, 1) := by decide +kernel
theorem dX8_cellOf_33 : decode cX8_cellOf 33 = .ok (.iconst 2, 1) := by decide +kernel
theorem dX8_cellOf_34 : decode cX8_cellOf 34 = .ok (.iload_n 2, 1) := by decide +kernel
theorem dX8_cellOf_35 : decode cX8_cellOf 35 = .ok (.isub, 1) := by decide +kernel
theorem dX8_cellOf_36 : decode cX8_cellOf 36 = .ok (.imul, 1) := by decide +kernel
theorem dX8_cellOf_37 : decode cX8_cellOf 37 = .ok (.iload_n 1, 1) := by decide +kernel
theorem dX8_cellOf_38 : decode cX8_cellOf 38 = .ok (.iadd, 1) := by decide +kernel
theorem dX8_cellOf_39 : decode cX8_cellOf 39 = .ok (.goto 8, 3) := by decide +kernel
theorem dX8_cellOf_42 : decode cX8_cellOf 42 = .ok (.iconst 3, 1) := by decide +kernel
theorem dX8_cellOf_43 : decode cX8_cellOf 43 = .ok (.iload_n 1, 1) := by decide +kernel
theorem dX8_cellOf_44 : decode cX8_cellOf 44 = .ok (.imul, 1) := by decide +kernel
theorem dX8_cellOf_45 : decode cX8_cellOf 45 = .ok (.iload_n 2, 1) := by decide +kernel
theorem dX8_cellOf_46 : decode cX8_cellOf 46 = .ok (.iadd, 1) := by decide +kernel
theorem dX8_cellOf_47 : decode cX8_cellOf 47 = .ok (.ireturn, 1) := by decide +kernel
theorem dX8_pushed_0 : decode cX8_pushed 0 = .ok (.lconst 0, 1) := by decide +kernel
theorem dX8_pushed_1 : decode cX8_pushed 1 = .ok (.lstore 4, 2) := by decide +kernel
theorem dX8_pushed_3 : decode cX8_pushed 3 = .ok (.aload_n 0, 1) := by decide +kernel
theorem dX8_pushed_4 : decode cX8_pushed 4 = .ok (.iconst 0, 1) := by decide +kernel
theorem dX8_pushed_5 : decode cX8_pushed 5 = .ok (.putfield 113, 3) := by decide +kernel
theorem dX8_pushed_8 : decode cX8_pushed 8 = .ok (.iconst 0, 1) := by decide +kernel
theorem dX8_pushed_9 : decode cX8_pushed 9 = .ok (.istore 6, 2) := by decide +kernel
theorem dX8_pushed_11 : decode cX8_pushed 11 = .ok (.iload 6, 2) := by decide +kernel
theorem dX8_pushed_13 : decode cX8_pushed 13 = .ok (.iconst 3, 1) := by decide +kernel
theorem dX8_pushed_14 : decode cX8_pushed 14 = .ok (.if_icmp .ge 125, 3) := by decide +kernel
theorem dX8_pushed_17 : decode cX8_pushed 17 = .ok (.iconst 0, 1) := by decide +kernel
theorem dX8_pushed_18 : decode cX8_pushed 18 = .ok (.istore 7, 2) := by decide +kernel
theorem dX8_pushed_20 : decode cX8_pushed 20 = .ok (.iconst 0, 1) := by decide +kernel
theorem dX8_pushed_21 : decode cX8_pushed 21 = .ok (.istore 8, 2) := by decide +kernel
theorem dX8_pushed_23 : decode cX8_pushed 23 = .ok (.iconst 0, 1) := by decide +kernel
theorem dX8_pushed_24 : decode cX8_pushed 24 = .ok (.istore 9, 2) := by decide +kernel
theorem dX8_pushed_26 : decode cX8_pushed 26 = .ok (.iload 9, 2) := by decide +kernel
theorem dX8_pushed_28 : decode cX8_pushed 28 = .ok (.iconst 3, 1) := by decide +kernel
theorem dX8_pushed_29 : decode cX8_pushed 29 = .ok (.if_icmp .ge 104, 3) := by decide +kernel
theorem dX8_pushed_32 : decode cX8_pushed 32 = .ok (.lload_n 1, 1) := by decide +kernel
theorem dX8_pushed_33 : decode cX8_pushed 33 = .ok (.iload_n 3, 1) := by decide +kernel
theorem dX8_pushed_34 : decode cX8_pushed 34 = .ok (.iload 6, 2) := by decide +kernel
theorem dX8_pushed_36 : decode cX8_pushed 36 = .ok (.iload 9, 2) := by decide +kernel
theorem dX8_pushed_38 : decode cX8_pushed 38 = .ok (.invokestatic 116, 3) := by decide +kernel
theorem dX8_pushed_41 : decode cX8_pushed 41 = .ok (.invokestatic 120, 3) := by decide +kernel
theorem dX8_pushed_44 : decode cX8_pushed 44 = .ok (.istore 10, 2) := by decide +kernel
theorem dX8_pushed_46 : decode cX8_pushed 46 = .ok (.iload 10, 2) := by decide +kernel
theorem dX8_pushed_48 : decode cX8_pushed 48 = .ok (.ifCond .ne 6, 3) := by decide +kernel
theorem dX8_pushed_51 : decode cX8_pushed 51 = .ok (.goto 76, 3) := by decide +kernel
theorem dX8_pushed_54 : decode cX8_pushed 54 = .ok (.iload 10, 2) := by decide +kernel
theorem dX8_pushed_56 : decode cX8_pushed 56 = .ok (.iload 8, 2) := by decide +kernel
theorem dX8_pushed_58 : decode cX8_pushed 58 = .ok (.if_icmp .ne 43, 3) := by decide +kernel
theorem dX8_pushed_61 : decode cX8_pushed 61 = .ok (.lload 4, 2) := by decide +kernel
theorem dX8_pushed_63 : decode cX8_pushed 63 = .ok (.lconst 1, 1) := by decide +kernel
theorem dX8_pushed_64 : decode cX8_pushed 64 = .ok (.iconst 4, 1) := by decide +kernel
theorem dX8_pushed_65 : decode cX8_pushed 65 = .ok (.iload_n 3, 1) := by decide +kernel
theorem dX8_pushed_66 : decode cX8_pushed 66 = .ok (.iload 6, 2) := by decide +kernel
theorem dX8_pushed_68 : decode cX8_pushed 68 = .ok (.iload 7, 2) := by decide +kernel
theorem dX8_pushed_70 : decode cX8_pushed 70 = .ok (.iconst 1, 1) := by decide +kernel
theorem dX8_pushed_71 : decode cX8_pushed 71 = .ok (.isub, 1) := by decide +kernel
theorem dX8_pushed_72 : decode cX8_pushed 72 = .ok (.invokestatic 116, 3) := by decide +kernel
theorem dX8_pushed_75 : decode cX8_pushed 75 = .ok (.imul, 1) := by decide +kernel
theorem dX8_pushed_76 : decode cX8_pushed 76 = .ok (.lshl, 1) := by decide +kernel
theorem dX8_pushed_77 : decode cX8_pushed 77 = .ok (.ladd, 1) := by decide +kernel
theorem dX8_pushed_78 : decode cX8_pushed 78 = .ok (.lstore 4, 2) := by decide +kernel
theorem dX8_pushed_80 : decode cX8_pushed 80 = .ok (.aload_n 0, 1) := by decide +kernel
theorem dX8_pushed_81 : decode cX8_pushed 81 = .ok (.dup, 1) := by decide +kernel
theorem dX8_pushed_82 : decode cX8_pushed 82 = .ok (.getfield 113, 3) := by decide +kernel
theorem dX8_pushed_85 : decode cX8_pushed 85 = .ok (.iconst 1, 1) := by decide +kernel
theorem dX8_pushed_86 : decode cX8_pushed 86 = .ok (.iload 10, 2) := by decide +kernel
theorem dX8_pushed_88 : decode cX8_pushed 88 = .ok (.iconst 1, 1) := by decide +kernel
theorem dX8_pushed_89 : decode cX8_pushed 89 = .ok (.iadd, 1) := by decide +kernel
theorem dX8_pushed_90 : decode cX8_pushed 90 = .ok (.ishl, 1) := by decide +kernel
theorem dX8_pushed_91 : decode cX8_pushed 91 = .ok (.iadd, 1) := by decide +kernel
theorem dX8_pushed_92 : decode cX8_pushed 92 = .ok (.putfield 113, 3) := by decide +kernel
theorem dX8_pushed_95 : decode cX8_pushed 95 = .ok (.iconst 0, 1) := by decide +kernel
theorem dX8_pushed_96 : decode cX8_pushed 96 = .ok (.istore 8, 2) := by decide +kernel
theorem dX8_pushed_98 : decode cX8_pushed 98 = .ok (.goto 29, 3) := by decide +kernel
theorem dX8_pushed_101 : decode cX8_pushed 101 = .ok (.lload 4, 2) := by decide +kernel
theorem dX8_pushed_103 : decode cX8_pushed 103 = .ok (.iload 10, 2) := by decide +kernel
theorem dX8_pushed_105 : decode cX8_pushed 105 = .ok (.i2l, 1) := by decide +kernel
theorem dX8_pushed_106 : decode cX8_pushed 106 = .ok (.iconst 4, 1) := by decide +kernel
theorem dX8_pushed_107 : decode cX8_pushed 107 = .ok (.iload_n 3, 1) := by decide +kernel
theorem dX8_pushed_108 : decode cX8_pushed 108 = .ok (.iload 6, 2) := by decide +kernel
theorem dX8_pushed_110 : decode cX8_pushed 110 = .ok (.iload 7, 2) := by decide +kernel
theorem dX8_pushed_112 : decode cX8_pushed 112 = .ok (.invokestatic 116, 3) := by decide +kernel
theorem dX8_pushed_115 : decode cX8_pushed 115 = .ok (.imul, 1) := by decide +kernel
theorem dX8_pushed_116 : decode cX8_pushed 116 = .ok (.lshl, 1) := by decide +kernel
theorem dX8_pushed_117 : decode cX8_pushed 117 = .ok (.ladd, 1) := by decide +kernel
theorem dX8_pushed_118 : decode cX8_pushed 118 = .ok (.lstore 4, 2) := by decide +kernel
theorem dX8_pushed_120 : decode cX8_pushed 120 = .ok (.iload 10, 2) := by decide +kernel
theorem dX8_pushed_122 : decode cX8_pushed 122 = .ok (.istore 8, 2) := by decide +kernel
theorem dX8_pushed_124 : decode cX8_pushed 124 = .ok (.iinc 7 1, 3) := by decide +kernel
theorem dX8_pushed_127 : decode cX8_pushed 127 = .ok (.iinc 9 1, 3) := by decide +kernel
theorem dX8_pushed_130 : decode cX8_pushed 130 = .ok (.goto (-104), 3) := by decide +kernel
theorem dX8_pushed_133 : decode cX8_pushed 133 = .ok (.iinc 6 1, 3) := by decide +kernel
theorem dX8_pushed_136 : decode cX8_pushed 136 = .ok (.goto (-125), 3) := by decide +kernel
theorem dX8_pushed_139 : decode cX8_pushed 139 = .ok (.lload 4, 2) := by decide +kernel
theorem dX8_pushed_141 : decode cX8_pushed 141 = .ok (.lreturn, 1) := by decide +kernel
theorem dX8_next_0 : decode cX8_next 0 = .ok (.iload_n 0, 1) := by decide +kernel
theorem dX8_next_1 : decode cX8_next 1 = .ok (.i2l, 1) := by decide +kernel
theorem dX8_next_2 : decode cX8_next 2 = .ok (.ldc2_w 124, 3) := by decide +kernel
theorem dX8_next_5 : decode cX8_next 5 = .ok (.lmul, 1) := by decide +kernel
theorem dX8_next_6 : decode cX8_next 6 = .ok (.ldc2_w 126, 3) := by decide +kernel
theorem dX8_next_9 : decode cX8_next 9 = .ok (.ladd, 1) := by decide +kernel
theorem dX8_next_10 : decode cX8_next 10 = .ok (.ldc2_w 128, 3) := by decide +kernel
theorem dX8_next_13 : decode cX8_next 13 = .ok (.land, 1) := by decide +kernel
theorem dX8_next_14 : decode cX8_next 14 = .ok (.l2i, 1) := by decide +kernel
theorem dX8_next_15 : decode cX8_next 15 = .ok (.ireturn, 1) := by decide +kernel
theorem dX8_drawn_0 : decode cX8_drawn 0 = .ok (.iconst 0, 1) := by decide +kernel
theorem dX8_drawn_1 : decode cX8_drawn 1 = .ok (.istore 4, 2) := by decide +kernel
theorem dX8_drawn_3 : decode cX8_drawn 3 = .ok (.iconst 0, 1) := by decide +kernel
theorem dX8_drawn_4 : decode cX8_drawn 4 = .ok (.istore 5, 2) := by decide +kernel
theorem dX8_drawn_6 : decode cX8_drawn 6 = .ok (.iload 5, 2) := by decide +kernel
theorem dX8_drawn_8 : decode cX8_drawn 8 = .ok (.bipush 9, 2) := by decide +kernel
theorem dX8_drawn_10 : decode cX8_drawn 10 = .ok (.if_icmp .ge 28, 3) := by decide +kernel
theorem dX8_drawn_13 : decode cX8_drawn 13 = .ok (.iload 4, 2) := by decide +kernel
theorem dX8_drawn_15 : decode cX8_drawn 15 = .ok (.lload_n 1, 1) := by decide +kernel
theorem dX8_drawn_16 : decode cX8_drawn 16 = .ok (.iload 5, 2) := by decide +kernel
theorem dX8_drawn_18 : decode cX8_drawn 18 = .ok (.invokestatic 120, 3) := by decide +kernel
theorem dX8_drawn_21 : decode cX8_drawn 21 = .ok (.ifCond .ne 7, 3) := by decide +kernel
theorem dX8_drawn_24 : decode cX8_drawn 24 = .ok (.iconst 1, 1) := by decide +kernel
theorem dX8_drawn_25 : decode cX8_drawn 25 = .ok (.goto 4, 3) := by decide +kernel
theorem dX8_drawn_28 : decode cX8_drawn 28 = .ok (.iconst 0, 1) := by decide +kernel
theorem dX8_drawn_29 : decode cX8_drawn 29 = .ok (.iadd, 1) := by decide +kernel
theorem dX8_drawn_30 : decode cX8_drawn 30 = .ok (.istore 4, 2) := by decide +kernel
theorem dX8_drawn_32 : decode cX8_drawn 32 = .ok (.iinc 5 1, 3) := by decide +kernel
theorem dX8_drawn_35 : decode cX8_drawn 35 = .ok (.goto (-29), 3) := by decide +kernel
theorem dX8_drawn_38 : decode cX8_drawn 38 = .ok (.iload_n 3, 1) := by decide +kernel
theorem dX8_drawn_39 : decode cX8_drawn 39 = .ok (.invokestatic 130, 3) := by decide +kernel
theorem dX8_drawn_42 : decode cX8_drawn 42 = .ok (.ldc 134, 2) := by decide +kernel
theorem dX8_drawn_44 : decode cX8_drawn 44 = .ok (.idiv, 1) := by decide +kernel
theorem dX8_drawn_45 : decode cX8_drawn 45 = .ok (.iload 4, 2) := by decide +kernel
theorem dX8_drawn_47 : decode cX8_drawn 47 = .ok (.irem, 1) := by decide +kernel
theorem dX8_drawn_48 : decode cX8_drawn 48 = .ok (.istore 5, 2) := by decide +kernel
theorem dX8_drawn_50 : decode cX8_drawn 50 = .ok (.aload_n 0, 1) := by decide +kernel
theorem dX8_drawn_51 : decode cX8_drawn 51 = .ok (.iload_n 3, 1) := by decide +kernel
theorem dX8_drawn_52 : decode cX8_drawn 52 = .ok (.invokestatic 130, 3) := by decide +kernel
theorem dX8_drawn_55 : decode cX8_drawn 55 = .ok (.invokestatic 130, 3) := by decide +kernel
theorem dX8_drawn_58 : decode cX8_drawn 58 = .ok (.putfield 135, 3) := by decide +kernel
theorem dX8_drawn_61 : decode cX8_drawn 61 = .ok (.aload_n 0, 1) := by decide +kernel
theorem dX8_drawn_62 : decode cX8_drawn 62 = .ok (.getfield 135, 3) := by decide +kernel
theorem dX8_drawn_65 : decode cX8_drawn 65 = .ok (.ldc 134, 2) := by decide +kernel
theorem dX8_drawn_67 : decode cX8_drawn 67 = .ok (.idiv, 1) := by decide +kernel
theorem dX8_drawn_68 : decode cX8_drawn 68 = .ok (.bipush 10, 2) := by decide +kernel
theorem dX8_drawn_70 : decode cX8_drawn 70 = .ok (.irem, 1) := by decide +kernel
theorem dX8_drawn_71 : decode cX8_drawn 71 = .ok (.ifCond .ne 9, 3) := by decide +kernel
theorem dX8_drawn_74 : decode cX8_drawn 74 = .ok (.ldc2_w 138, 3) := by decide +kernel
theorem dX8_drawn_77 : decode cX8_drawn 77 = .ok (.goto 4, 3) := by decide +kernel
theorem dX8_drawn_80 : decode cX8_drawn 80 = .ok (.lconst 1, 1) := by decide +kernel
theorem dX8_drawn_81 : decode cX8_drawn 81 = .ok (.lstore 6, 2) := by decide +kernel
theorem dX8_drawn_83 : decode cX8_drawn 83 = .ok (.iconst 0, 1) := by decide +kernel
theorem dX8_drawn_84 : decode cX8_drawn 84 = .ok (.istore 8, 2) := by decide +kernel
theorem dX8_drawn_86 : decode cX8_drawn 86 = .ok (.iload 8, 2) := by decide +kernel
theorem dX8_drawn_88 : decode cX8_drawn 88 = .ok (.bipush 9, 2) := by decide +kernel
theorem dX8_drawn_90 : decode cX8_drawn 90 = .ok (.if_icmp .ge 39, 3) := by decide +kernel
theorem dX8_drawn_93 : decode cX8_drawn 93 = .ok (.lload_n 1, 1) := by decide +kernel
theorem dX8_drawn_94 : decode cX8_drawn 94 = .ok (.iload 8, 2) := by decide +kernel
theorem dX8_drawn_96 : decode cX8_drawn 96 = .ok (.invokestatic 120, 3) := by decide +kernel
theorem dX8_drawn_99 : decode cX8_drawn 99 = .ok (.ifCond .eq 6, 3) := by decide +kernel
theorem dX8_drawn_102 : decode cX8_drawn 102 = .ok (.goto 21, 3) := by decide +kernel
theorem dX8_drawn_105 : decode cX8_drawn 105 = .ok (.iload 5, 2) := by decide +kernel
theorem dX8_drawn_107 : decode cX8_drawn 107 = .ok (.ifCond .ne 13, 3) := by decide +kernel
theorem dX8_drawn_110 : decode cX8_drawn 110 = .ok (.lload_n 1, 1) := by decide +kernel
theorem dX8_drawn_111 : decode cX8_drawn 111 = .ok (.lload 6, 2) := by decide +kernel
theorem dX8_drawn_113 : decode cX8_drawn 113 = .ok (.iconst 4, 1) := by decide +kernel
theorem dX8_drawn_114 : decode cX8_drawn 114 = .ok (.iload 8, 2) := by decide +kernel
theorem dX8_drawn_116 : decode cX8_drawn 116 = .ok (.imul, 1) := by decide +kernel
theorem dX8_drawn_117 : decode cX8_drawn 117 = .ok (.lshl, 1) := by decide +kernel
theorem dX8_drawn_118 : decode cX8_drawn 118 = .ok (.ladd, 1) := by decide +kernel
theorem dX8_drawn_119 : decode cX8_drawn 119 = .ok (.lreturn, 1) := by decide +kernel
theorem dX8_drawn_120 : decode cX8_drawn 120 = .ok (.iinc 5 (-1), 3) := by decide +kernel
theorem dX8_drawn_123 : decode cX8_drawn 123 = .ok (.iinc 8 1, 3) := by decide +kernel
theorem dX8_drawn_126 : decode cX8_drawn 126 = .ok (.goto (-40), 3) := by decide +kernel
theorem dX8_drawn_129 : decode cX8_drawn 129 = .ok (.lload_n 1, 1) := by decide +kernel
theorem dX8_drawn_130 : decode cX8_drawn 130 = .ok (.lreturn, 1) := by decide +kernel
theorem dX8_can_0 : decode cX8_can 0 = .ok (.aload_n 0, 1) := by decide +kernel
theorem dX8_can_1 : decode cX8_can 1 = .ok (.lload_n 1, 1) := by decide +kernel
theorem dX8_can_2 : decode cX8_can 2 = .ok (.iload_n 3, 1) := by decide +kernel
theorem dX8_can_3 : decode cX8_can 3 = .ok (.invokevirtual 140, 3) := by decide +kernel
theorem dX8_can_6 : decode cX8_can 6 = .ok (.lload_n 1, 1) := by decide +kernel
theorem dX8_can_7 : decode cX8_can 7 = .ok (.lcmp, 1) := by decide +kernel
theorem dX8_can_8 : decode cX8_can 8 = .ok (.ifCond .eq 7, 3) := by decide +kernel
theorem dX8_can_11 : decode cX8_can 11 = .ok (.iconst 1, 1) := by decide +kernel
theorem dX8_can_12 : decode cX8_can 12 = .ok (.goto 4, 3) := by decide +kernel
theorem dX8_can_15 : decode cX8_can 15 = .ok (.iconst 0, 1) := by decide +kernel
theorem dX8_can_16 : decode cX8_can 16 = .ok (.ireturn, 1) := by decide +kernel
theorem dX8_over_0 : decode cX8_over 0 = .ok (.aload_n 0, 1) := by decide +kernel
theorem dX8_over_1 : decode cX8_over 1 = .ok (.lload_n 1, 1) := by decide +kernel
theorem dX8_over_2 : decode cX8_over 2 = .ok (.iconst 0, 1) := by decide +kernel
theorem dX8_over_3 : decode cX8_over 3 = .ok (.invokevirtual 144, 3) := by decide +kernel
theorem dX8_over_6 : decode cX8_over 6 = .ok (.ifCond .ne 34, 3) := by decide +kernel
theorem dX8_over_9 : decode cX8_over 9 = .ok (.aload_n 0, 1) := by decide +kernel
theorem dX8_over_10 : decode cX8_over 10 = .ok (.lload_n 1, 1) := by decide +kernel
theorem dX8_over_11 : decode cX8_over 11 = .ok (.iconst 1, 1) := by decide +kernel
theorem dX8_over_12 : decode cX8_over 12 = .ok (.invokevirtual 144, 3) := by decide +kernel
theorem dX8_over_15 : decode cX8_over 15 = .ok (.ifCond .ne 25, 3) := by decide +kernel
theorem dX8_over_18 : decode cX8_over 18 = .ok (.aload_n 0, 1) := by decide +kernel
theorem dX8_over_19 : decode cX8_over 19 = .ok (.lload_n 1, 1) := by decide +kernel
theorem dX8_over_20 : decode cX8_over 20 = .ok (.iconst 2, 1) := by decide +kernel
theorem dX8_over_21 : decode cX8_over 21 = .ok (.invokevirtual 144, 3) := by decide +kernel
theorem dX8_over_24 : decode cX8_over 24 = .ok (.ifCond .ne 16, 3) := by decide +kernel
theorem dX8_over_27 : decode cX8_over 27 = .ok (.aload_n 0, 1) := by decide +kernel
theorem dX8_over_28 : decode cX8_over 28 = .ok (.lload_n 1, 1) := by decide +kernel
theorem dX8_over_29 : decode cX8_over 29 = .ok (.iconst 3, 1) := by decide +kernel
theorem dX8_over_30 : decode cX8_over 30 = .ok (.invokevirtual 144, 3) := by decide +kernel
theorem dX8_over_33 : decode cX8_over 33 = .ok (.ifCond .ne 7, 3) := by decide +kernel
theorem dX8_over_36 : decode cX8_over 36 = .ok (.iconst 1, 1) := by decide +kernel
theorem dX8_over_37 : decode cX8_over 37 = .ok (.goto 4, 3) := by decide +kernel
theorem dX8_over_40 : decode cX8_over 40 = .ok (.iconst 0, 1) := by decide +kernel
theorem dX8_over_41 : decode cX8_over 41 = .ok (.ireturn, 1) := by decide +kernel
theorem dX8_addPlayer_0 : decode cX8_addPlayer 0 = .ok (.aload_n 0, 1) := by decide +kernel
theorem dX8_addPlayer_1 : decode cX8_addPlayer 1 = .ok (.iload_n 1, 1) := by decide +kernel
theorem dX8_addPlayer_2 : decode cX8_addPlayer 2 = .ok (.ifCond .lt 14, 3) := by decide +kernel
theorem dX8_addPlayer_5 : decode cX8_addPlayer 5 = .ok (.iload_n 1, 1) := by decide +kernel
theorem dX8_addPlayer_6 : decode cX8_addPlayer 6 = .ok (.sipush 9999, 3) := by decide +kernel
theorem dX8_addPlayer_9 : decode cX8_addPlayer 9 = .ok (.if_icmp .gt 7, 3) := by decide +kernel
theorem dX8_addPlayer_12 : decode cX8_addPlayer 12 = .ok (.iconst 1, 1) := by decide +kernel
theorem dX8_addPlayer_13 : decode cX8_addPlayer 13 = .ok (.goto 4, 3) := by decide +kernel
theorem dX8_addPlayer_16 : decode cX8_addPlayer 16 = .ok (.iconst 0, 1) := by decide +kernel
theorem dX8_addPlayer_17 : decode cX8_addPlayer 17 = .ok (.iconst 1, 1) := by decide +kernel
theorem dX8_addPlayer_18 : decode cX8_addPlayer 18 = .ok (.invokevirtual 109, 3) := by decide +kernel
theorem dX8_addPlayer_21 : decode cX8_addPlayer 21 = .ok (.ifCond .ne 24, 3) := by decide +kernel
theorem dX8_addPlayer_24 : decode cX8_addPlayer 24 = .ok (.aload_n 0, 1) := by decide +kernel
theorem dX8_addPlayer_25 : decode cX8_addPlayer 25 = .ok (.aload_n 0, 1) := by decide +kernel
theorem dX8_addPlayer_26 : decode cX8_addPlayer 26 = .ok (.getfield 148, 3) := by decide +kernel
theorem dX8_addPlayer_29 : decode cX8_addPlayer 29 = .ok (.iconst 4, 1) := by decide +kernel
theorem dX8_addPlayer_30 : decode cX8_addPlayer 30 = .ok (.if_icmp .ge 7, 3) := by decide +kernel
theorem dX8_addPlayer_33 : decode cX8_addPlayer 33 = .ok (.iconst 1, 1) := by decide +kernel
theorem dX8_addPlayer_34 : decode cX8_addPlayer 34 = .ok (.goto 4, 3) := by decide +kernel
theorem dX8_addPlayer_37 : decode cX8_addPlayer 37 = .ok (.iconst 0, 1) := by decide +kernel
theorem dX8_addPlayer_38 : decode cX8_addPlayer 38 = .ok (.iconst 2, 1) := by decide +kernel
theorem dX8_addPlayer_39 : decode cX8_addPlayer 39 = .ok (.invokevirtual 109, 3) := by decide +kernel
theorem dX8_addPlayer_42 : decode cX8_addPlayer 42 = .ok (.ifCond .eq 5, 3) := by decide +kernel
theorem dX8_addPlayer_45 : decode cX8_addPlayer 45 = .ok (.iconst 0, 1) := by decide +kernel
theorem dX8_addPlayer_46 : decode cX8_addPlayer 46 = .ok (.ireturn, 1) := by decide +kernel
theorem dX8_addPlayer_47 : decode cX8_addPlayer 47 = .ok (.aload_n 0, 1) := by decide +kernel
theorem dX8_addPlayer_48 : decode cX8_addPlayer 48 = .ok (.getfield 7, 3) := by decide +kernel
theorem dX8_addPlayer_51 : decode cX8_addPlayer 51 = .ok (.aload_n 0, 1) := by decide +kernel
theorem dX8_addPlayer_52 : decode cX8_addPlayer 52 = .ok (.getfield 148, 3) := by decide +kernel
theorem dX8_addPlayer_55 : decode cX8_addPlayer 55 = .ok (.iload_n 1, 1) := by decide +kernel
theorem dX8_addPlayer_56 : decode cX8_addPlayer 56 = .ok (.iastore, 1) := by decide +kernel
theorem dX8_addPlayer_57 : decode cX8_addPlayer 57 = .ok (.aload_n 0, 1) := by decide +kernel
theorem dX8_addPlayer_58 : decode cX8_addPlayer 58 = .ok (.dup, 1) := by decide +kernel
theorem dX8_addPlayer_59 : decode cX8_addPlayer 59 = .ok (.getfield 148, 3) := by decide +kernel
theorem dX8_addPlayer_62 : decode cX8_addPlayer 62 = .ok (.dup_x1, 1) := by decide +kernel
theorem dX8_addPlayer_63 : decode cX8_addPlayer 63 = .ok (.iconst 1, 1) := by decide +kernel
theorem dX8_addPlayer_64 : decode cX8_addPlayer 64 = .ok (.iadd, 1) := by decide +kernel
theorem dX8_addPlayer_65 : decode cX8_addPlayer 65 = .ok (.putfield 148, 3) := by decide +kernel
theorem dX8_addPlayer_68 : decode cX8_addPlayer 68 = .ok (.ireturn, 1) := by decide +kernel
theorem dX8_open_0 : decode cX8_open 0 = .ok (.aload_n 0, 1) := by decide +kernel
theorem dX8_open_1 : decode cX8_open 1 = .ok (.iload_n 1, 1) := by decide +kernel
theorem dX8_open_2 : decode cX8_open 2 = .ok (.ifCond .lt 15, 3) := by decide +kernel
theorem dX8_open_5 : decode cX8_open 5 = .ok (.iload_n 1, 1) := by decide +kernel
theorem dX8_open_6 : decode cX8_open 6 = .ok (.aload_n 0, 1) := by decide +kernel
theorem dX8_open_7 : decode cX8_open 7 = .ok (.getfield 148, 3) := by decide +kernel
theorem dX8_open_10 : decode cX8_open 10 = .ok (.if_icmp .ge 7, 3) := by decide +kernel
theorem dX8_open_13 : decode cX8_open 13 = .ok (.iconst 1, 1) := by decide +kernel
theorem dX8_open_14 : decode cX8_open 14 = .ok (.goto 4, 3) := by decide +kernel
theorem dX8_open_17 : decode cX8_open 17 = .ok (.iconst 0, 1) := by decide +kernel
theorem dX8_open_18 : decode cX8_open 18 = .ok (.iconst 1, 1) := by decide +kernel
theorem dX8_open_19 : decode cX8_open 19 = .ok (.invokevirtual 109, 3) := by decide +kernel
theorem dX8_open_22 : decode cX8_open 22 = .ok (.ifCond .ne 42, 3) := by decide +kernel
theorem dX8_open_25 : decode cX8_open 25 = .ok (.aload_n 0, 1) := by decide +kernel
theorem dX8_open_26 : decode cX8_open 26 = .ok (.iload_n 2, 1) := by decide +kernel
theorem dX8_open_27 : decode cX8_open 27 = .ok (.ifCond .lt 7, 3) := by decide +kernel
theorem dX8_open_30 : decode cX8_open 30 = .ok (.iconst 1, 1) := by decide +kernel
theorem dX8_open_31 : decode cX8_open 31 = .ok (.goto 4, 3) := by decide +kernel
theorem dX8_open_34 : decode cX8_open 34 = .ok (.iconst 0, 1) := by decide +kernel
theorem dX8_open_35 : decode cX8_open 35 = .ok (.iconst 2, 1) := by decide +kernel
theorem dX8_open_36 : decode cX8_open 36 = .ok (.invokevirtual 109, 3) := by decide +kernel
theorem dX8_open_39 : decode cX8_open 39 = .ok (.ifCond .ne 25, 3) := by decide +kernel
theorem dX8_open_42 : decode cX8_open 42 = .ok (.aload_n 0, 1) := by decide +kernel
theorem dX8_open_43 : decode cX8_open 43 = .ok (.aload_n 0, 1) := by decide +kernel
theorem dX8_open_44 : decode cX8_open 44 = .ok (.getfield 106, 3) := by decide +kernel
theorem dX8_open_47 : decode cX8_open 47 = .ok (.bipush 8, 2) := by decide +kernel
theorem dX8_open_49 : decode cX8_open 49 = .ok (.if_icmp .ge 7, 3) := by decide +kernel
theorem dX8_open_52 : decode cX8_open 52 = .ok (.iconst 1, 1) := by decide +kernel
theorem dX8_open_53 : decode cX8_open 53 = .ok (.goto 4, 3) := by decide +kernel
theorem dX8_open_56 : decode cX8_open 56 = .ok (.iconst 0, 1) := by decide +kernel
theorem dX8_open_57 : decode cX8_open 57 = .ok (.iconst 3, 1) := by decide +kernel
theorem dX8_open_58 : decode cX8_open 58 = .ok (.invokevirtual 109, 3) := by decide +kernel
theorem dX8_open_61 : decode cX8_open 61 = .ok (.ifCond .eq 5, 3) := by decide +kernel
theorem dX8_open_64 : decode cX8_open 64 = .ok (.iconst 0, 1) := by decide +kernel
theorem dX8_open_65 : decode cX8_open 65 = .ok (.ireturn, 1) := by decide +kernel
theorem dX8_open_66 : decode cX8_open 66 = .ok (.aload_n 0, 1) := by decide +kernel
theorem dX8_open_67 : decode cX8_open 67 = .ok (.getfield 20, 3) := by decide +kernel
theorem dX8_open_70 : decode cX8_open 70 = .ok (.aload_n 0, 1) := by decide +kernel
theorem dX8_open_71 : decode cX8_open 71 = .ok (.getfield 106, 3) := by decide +kernel
theorem dX8_open_74 : decode cX8_open 74 = .ok (.iload_n 1, 1) := by decide +kernel
theorem dX8_open_75 : decode cX8_open 75 = .ok (.iastore, 1) := by decide +kernel
theorem dX8_open_76 : decode cX8_open 76 = .ok (.aload_n 0, 1) := by decide +kernel
theorem dX8_open_77 : decode cX8_open 77 = .ok (.lconst 0, 1) := by decide +kernel
theorem dX8_open_78 : decode cX8_open 78 = .ok (.iload_n 2, 1) := by decide +kernel
theorem dX8_open_79 : decode cX8_open 79 = .ok (.invokevirtual 151, 3) := by decide +kernel
theorem dX8_open_82 : decode cX8_open 82 = .ok (.lstore_n 3, 1) := by decide +kernel
theorem dX8_open_83 : decode cX8_open 83 = .ok (.aload_n 0, 1) := by decide +kernel
theorem dX8_open_84 : decode cX8_open 84 = .ok (.getfield 13, 3) := by decide +kernel
theorem dX8_open_87 : decode cX8_open 87 = .ok (.aload_n 0, 1) := by decide +kernel
theorem dX8_open_88 : decode cX8_open 88 = .ok (.getfield 106, 3) := by decide +kernel
theorem dX8_open_91 : decode cX8_open 91 = .ok (.aload_n 0, 1) := by decide +kernel
theorem dX8_open_92 : decode cX8_open 92 = .ok (.lload_n 3, 1) := by decide +kernel
theorem dX8_open_93 : decode cX8_open 93 = .ok (.aload_n 0, 1) := by decide +kernel
theorem dX8_open_94 : decode cX8_open 94 = .ok (.getfield 135, 3) := by decide +kernel
theorem dX8_open_97 : decode cX8_open 97 = .ok (.invokevirtual 151, 3) := by decide +kernel
theorem dX8_open_100 : decode cX8_open 100 = .ok (.lastore, 1) := by decide +kernel
theorem dX8_open_101 : decode cX8_open 101 = .ok (.aload_n 0, 1) := by decide +kernel
theorem dX8_open_102 : decode cX8_open 102 = .ok (.getfield 17, 3) := by decide +kernel
theorem dX8_open_105 : decode cX8_open 105 = .ok (.aload_n 0, 1) := by decide +kernel
theorem dX8_open_106 : decode cX8_open 106 = .ok (.getfield 106, 3) := by decide +kernel
theorem dX8_open_109 : decode cX8_open 109 = .ok (.aload_n 0, 1) := by decide +kernel
theorem dX8_open_110 : decode cX8_open 110 = .ok (.getfield 135, 3) := by decide +kernel
theorem dX8_open_113 : decode cX8_open 113 = .ok (.iastore, 1) := by decide +kernel
theorem dX8_open_114 : decode cX8_open 114 = .ok (.aload_n 0, 1) := by decide +kernel
theorem dX8_open_115 : decode cX8_open 115 = .ok (.dup, 1) := by decide +kernel
theorem dX8_open_116 : decode cX8_open 116 = .ok (.getfield 106, 3) := by decide +kernel
theorem dX8_open_119 : decode cX8_open 119 = .ok (.dup_x1, 1) := by decide +kernel
theorem dX8_open_120 : decode cX8_open 120 = .ok (.iconst 1, 1) := by decide +kernel
theorem dX8_open_121 : decode cX8_open 121 = .ok (.iadd, 1) := by decide +kernel
theorem dX8_open_122 : decode cX8_open 122 = .ok (.putfield 106, 3) := by decide +kernel
theorem dX8_open_125 : decode cX8_open 125 = .ok (.ireturn, 1) := by decide +kernel
theorem dX8_push_0 : decode cX8_push 0 = .ok (.aload_n 0, 1) := by decide +kernel
theorem dX8_push_1 : decode cX8_push 1 = .ok (.iload_n 1, 1) := by decide +kernel
theorem dX8_push_2 : decode cX8_push 2 = .ok (.invokevirtual 154, 3) := by decide +kernel
theorem dX8_push_5 : decode cX8_push 5 = .ok (.ifCond .ne 61, 3) := by decide +kernel
theorem dX8_push_8 : decode cX8_push 8 = .ok (.aload_n 0, 1) := by decide +kernel
theorem dX8_push_9 : decode cX8_push 9 = .ok (.iload_n 2, 1) := by decide +kernel
theorem dX8_push_10 : decode cX8_push 10 = .ok (.ifCond .lt 12, 3) := by decide +kernel
theorem dX8_push_13 : decode cX8_push 13 = .ok (.iload_n 2, 1) := by decide +kernel
theorem dX8_push_14 : decode cX8_push 14 = .ok (.iconst 4, 1) := by decide +kernel
theorem dX8_push_15 : decode cX8_push 15 = .ok (.if_icmp .ge 7, 3) := by decide +kernel
theorem dX8_push_18 : decode cX8_push 18 = .ok (.iconst 1, 1) := by decide +kernel
theorem dX8_push_19 : decode cX8_push 19 = .ok (.goto 4, 3) := by decide +kernel
theorem dX8_push_22 : decode cX8_push 22 = .ok (.iconst 0, 1) := by decide +kernel
theorem dX8_push_23 : decode cX8_push 23 = .ok (.iconst 2, 1) := by decide +kernel
theorem dX8_push_24 : decode cX8_push 24 = .ok (.invokevirtual 109, 3) := by decide +kernel
theorem dX8_push_27 : decode cX8_push 27 = .ok (.ifCond .ne 39, 3) := by decide +kernel
theorem dX8_push_30 : decode cX8_push 30 = .ok (.aload_n 0, 1) := by decide +kernel
theorem dX8_push_31 : decode cX8_push 31 = .ok (.aload_n 0, 1) := by decide +kernel
theorem dX8_push_32 : decode cX8_push 32 = .ok (.getfield 38, 3) := by decide +kernel
theorem dX8_push_35 : decode cX8_push 35 = .ok (.iload_n 1, 1) := by decide +kernel
theorem dX8_push_36 : decode cX8_push 36 = .ok (.baload, 1) := by decide +kernel
theorem dX8_push_37 : decode cX8_push 37 = .ok (.ifCond .ne 21, 3) := by decide +kernel
theorem dX8_push_40 : decode cX8_push 40 = .ok (.aload_n 0, 1) := by decide +kernel
theorem dX8_push_41 : decode cX8_push 41 = .ok (.aload_n 0, 1) := by decide +kernel
theorem dX8_push_42 : decode cX8_push 42 = .ok (.getfield 13, 3) := by decide +kernel
theorem dX8_push_45 : decode cX8_push 45 = .ok (.iload_n 1, 1) := by decide +kernel
theorem dX8_push_46 : decode cX8_push 46 = .ok (.laload, 1) := by decide +kernel
theorem dX8_push_47 : decode cX8_push 47 = .ok (.iload_n 2, 1) := by decide +kernel
theorem dX8_push_48 : decode cX8_push 48 = .ok (.invokevirtual 144, 3) := by decide +kernel
theorem dX8_push_51 : decode cX8_push 51 = .ok (.ifCond .eq 7, 3) := by decide +kernel
theorem dX8_push_54 : decode cX8_push 54 = .ok (.iconst 1, 1) := by decide +kernel
theorem dX8_push_55 : decode cX8_push 55 = .ok (.goto 4, 3) := by decide +kernel
theorem dX8_push_58 : decode cX8_push 58 = .ok (.iconst 0, 1) := by decide +kernel
theorem dX8_push_59 : decode cX8_push 59 = .ok (.iconst 3, 1) := by decide +kernel
theorem dX8_push_60 : decode cX8_push 60 = .ok (.invokevirtual 109, 3) := by decide +kernel
theorem dX8_push_63 : decode cX8_push 63 = .ok (.ifCond .eq 5, 3) := by decide +kernel
theorem dX8_push_66 : decode cX8_push 66 = .ok (.iconst 0, 1) := by decide +kernel
theorem dX8_push_67 : decode cX8_push 67 = .ok (.ireturn, 1) := by decide +kernel
theorem dX8_push_68 : decode cX8_push 68 = .ok (.aload_n 0, 1) := by decide +kernel
theorem dX8_push_69 : decode cX8_push 69 = .ok (.getfield 29, 3) := by decide +kernel
theorem dX8_push_72 : decode cX8_push 72 = .ok (.iload_n 1, 1) := by decide +kernel
theorem dX8_push_73 : decode cX8_push 73 = .ok (.aload_n 0, 1) := by decide +kernel
theorem dX8_push_74 : decode cX8_push 74 = .ok (.aload_n 0, 1) := by decide +kernel
theorem dX8_push_75 : decode cX8_push 75 = .ok (.getfield 13, 3) := by decide +kernel
theorem dX8_push_78 : decode cX8_push 78 = .ok (.iload_n 1, 1) := by decide +kernel
theorem dX8_push_79 : decode cX8_push 79 = .ok (.laload, 1) := by decide +kernel
theorem dX8_push_80 : decode cX8_push 80 = .ok (.aload_n 0, 1) := by decide +kernel
theorem dX8_push_81 : decode cX8_push 81 = .ok (.getfield 17, 3) := by decide +kernel
theorem dX8_push_84 : decode cX8_push 84 = .ok (.iload_n 1, 1) := by decide +kernel
theorem dX8_push_85 : decode cX8_push 85 = .ok (.iaload, 1) := by decide +kernel
theorem dX8_push_86 : decode cX8_push 86 = .ok (.aload_n 0, 1) := by decide +kernel
theorem dX8_push_87 : decode cX8_push 87 = .ok (.getfield 20, 3) := by decide +kernel
theorem dX8_push_90 : decode cX8_push 90 = .ok (.iload_n 1, 1) := by decide +kernel
theorem dX8_push_91 : decode cX8_push 91 = .ok (.iaload, 1) := by decide +kernel
theorem dX8_push_92 : decode cX8_push 92 = .ok (.iload_n 2, 1) := by decide +kernel
theorem dX8_push_93 : decode cX8_push 93 = .ok (.invokevirtual 158, 3) := by decide +kernel
theorem dX8_push_96 : decode cX8_push 96 = .ok (.ifCond .eq 14, 3) := by decide +kernel
theorem dX8_push_99 : decode cX8_push 99 = .ok (.aload_n 0, 1) := by decide +kernel
theorem dX8_push_100 : decode cX8_push 100 = .ok (.getfield 29, 3) := by decide +kernel
theorem dX8_push_103 : decode cX8_push 103 = .ok (.iload_n 1, 1) := by decide +kernel
theorem dX8_push_104 : decode cX8_push 104 = .ok (.iaload, 1) := by decide +kernel
theorem dX8_push_105 : decode cX8_push 105 = .ok (.iconst 1, 1) := by decide +kernel
theorem dX8_push_106 : decode cX8_push 106 = .ok (.iadd, 1) := by decide +kernel
theorem dX8_push_107 : decode cX8_push 107 = .ok (.goto 4, 3) := by decide +kernel
theorem dX8_push_110 : decode cX8_push 110 = .ok (.iconst 0, 1) := by decide +kernel
theorem dX8_push_111 : decode cX8_push 111 = .ok (.iastore, 1) := by decide +kernel
theorem dX8_push_112 : decode cX8_push 112 = .ok (.aload_n 0, 1) := by decide +kernel
theorem dX8_push_113 : decode cX8_push 113 = .ok (.getfield 29, 3) := by decide +kernel
theorem dX8_push_116 : decode cX8_push 116 = .ok (.iload_n 1, 1) := by decide +kernel
theorem dX8_push_117 : decode cX8_push 117 = .ok (.iaload, 1) := by decide +kernel
theorem dX8_push_118 : decode cX8_push 118 = .ok (.aload_n 0, 1) := by decide +kernel
theorem dX8_push_119 : decode cX8_push 119 = .ok (.getfield 32, 3) := by decide +kernel
theorem dX8_push_122 : decode cX8_push 122 = .ok (.iload_n 1, 1) := by decide +kernel
theorem dX8_push_123 : decode cX8_push 123 = .ok (.iaload, 1) := by decide +kernel
theorem dX8_push_124 : decode cX8_push 124 = .ok (.if_icmp .le 15, 3) := by decide +kernel
theorem dX8_push_127 : decode cX8_push 127 = .ok (.aload_n 0, 1) := by decide +kernel
theorem dX8_push_128 : decode cX8_push 128 = .ok (.getfield 32, 3) := by decide +kernel
theorem dX8_push_131 : decode cX8_push 131 = .ok (.iload_n 1, 1) := by decide +kernel
theorem dX8_push_132 : decode cX8_push 132 = .ok (.aload_n 0, 1) := by decide +kernel
theorem dX8_push_133 : decode cX8_push 133 = .ok (.getfield 29, 3) := by decide +kernel
theorem dX8_push_136 : decode cX8_push 136 = .ok (.iload_n 1, 1) := by decide +kernel
theorem dX8_push_137 : decode cX8_push 137 = .ok (.iaload, 1) := by decide +kernel
theorem dX8_push_138 : decode cX8_push 138 = .ok (.iastore, 1) := by decide +kernel
theorem dX8_push_139 : decode cX8_push 139 = .ok (.aload_n 0, 1) := by decide +kernel
theorem dX8_push_140 : decode cX8_push 140 = .ok (.aload_n 0, 1) := by decide +kernel
theorem dX8_push_141 : decode cX8_push 141 = .ok (.getfield 13, 3) := by decide +kernel
theorem dX8_push_144 : decode cX8_push 144 = .ok (.iload_n 1, 1) := by decide +kernel
theorem dX8_push_145 : decode cX8_push 145 = .ok (.laload, 1) := by decide +kernel
theorem dX8_push_146 : decode cX8_push 146 = .ok (.iload_n 2, 1) := by decide +kernel
theorem dX8_push_147 : decode cX8_push 147 = .ok (.invokevirtual 140, 3) := by decide +kernel
theorem dX8_push_150 : decode cX8_push 150 = .ok (.lstore_n 3, 1) := by decide +kernel
theorem dX8_push_151 : decode cX8_push 151 = .ok (.aload_n 0, 1) := by decide +kernel
theorem dX8_push_152 : decode cX8_push 152 = .ok (.getfield 113, 3) := by decide +kernel
theorem dX8_push_155 : decode cX8_push 155 = .ok (.istore 5, 2) := by decide +kernel
theorem dX8_push_157 : decode cX8_push 157 = .ok (.aload_n 0, 1) := by decide +kernel
theorem dX8_push_158 : decode cX8_push 158 = .ok (.getfield 13, 3) := by decide +kernel
theorem dX8_push_161 : decode cX8_push 161 = .ok (.iload_n 1, 1) := by decide +kernel
theorem dX8_push_162 : decode cX8_push 162 = .ok (.aload_n 0, 1) := by decide +kernel
theorem dX8_push_163 : decode cX8_push 163 = .ok (.lload_n 3, 1) := by decide +kernel
theorem dX8_push_164 : decode cX8_push 164 = .ok (.aload_n 0, 1) := by decide +kernel
theorem dX8_push_165 : decode cX8_push 165 = .ok (.getfield 17, 3) := by decide +kernel
theorem dX8_push_168 : decode cX8_push 168 = .ok (.iload_n 1, 1) := by decide +kernel
theorem dX8_push_169 : decode cX8_push 169 = .ok (.iaload, 1) := by decide +kernel
theorem dX8_push_170 : decode cX8_push 170 = .ok (.invokevirtual 151, 3) := by decide +kernel
theorem dX8_push_173 : decode cX8_push 173 = .ok (.lastore, 1) := by decide +kernel
theorem dX8_push_174 : decode cX8_push 174 = .ok (.aload_n 0, 1) := by decide +kernel
theorem dX8_push_175 : decode cX8_push 175 = .ok (.getfield 17, 3) := by decide +kernel
theorem dX8_push_178 : decode cX8_push 178 = .ok (.iload_n 1, 1) := by decide +kernel
theorem dX8_push_179 : decode cX8_push 179 = .ok (.aload_n 0, 1) := by decide +kernel
theorem dX8_push_180 : decode cX8_push 180 = .ok (.getfield 135, 3) := by decide +kernel
theorem dX8_push_183 : decode cX8_push 183 = .ok (.iastore, 1) := by decide +kernel
theorem dX8_push_184 : decode cX8_push 184 = .ok (.aload_n 0, 1) := by decide +kernel
theorem dX8_push_185 : decode cX8_push 185 = .ok (.getfield 23, 3) := by decide +kernel
theorem dX8_push_188 : decode cX8_push 188 = .ok (.iload_n 1, 1) := by decide +kernel
theorem dX8_push_189 : decode cX8_push 189 = .ok (.dup2, 1) := by decide +kernel
theorem dX8_push_190 : decode cX8_push 190 = .ok (.iaload, 1) := by decide +kernel
theorem dX8_push_191 : decode cX8_push 191 = .ok (.iload 5, 2) := by decide +kernel
theorem dX8_push_193 : decode cX8_push 193 = .ok (.iadd, 1) := by decide +kernel
theorem dX8_push_194 : decode cX8_push 194 = .ok (.iastore, 1) := by decide +kernel
theorem dX8_push_195 : decode cX8_push 195 = .ok (.aload_n 0, 1) := by decide +kernel
theorem dX8_push_196 : decode cX8_push 196 = .ok (.getfield 26, 3) := by decide +kernel
theorem dX8_push_199 : decode cX8_push 199 = .ok (.iload_n 1, 1) := by decide +kernel
theorem dX8_push_200 : decode cX8_push 200 = .ok (.dup2, 1) := by decide +kernel
theorem dX8_push_201 : decode cX8_push 201 = .ok (.iaload, 1) := by decide +kernel
theorem dX8_push_202 : decode cX8_push 202 = .ok (.iconst 1, 1) := by decide +kernel
theorem dX8_push_203 : decode cX8_push 203 = .ok (.iadd, 1) := by decide +kernel
theorem dX8_push_204 : decode cX8_push 204 = .ok (.iastore, 1) := by decide +kernel
theorem dX8_push_205 : decode cX8_push 205 = .ok (.iload 5, 2) := by decide +kernel
theorem dX8_push_207 : decode cX8_push 207 = .ok (.ireturn, 1) := by decide +kernel
theorem dX8_led_0 : decode cX8_led 0 = .ok (.iconst 0, 1) := by decide +kernel
theorem dX8_led_1 : decode cX8_led 1 = .ok (.istore 6, 2) := by decide +kernel
theorem dX8_led_3 : decode cX8_led 3 = .ok (.iconst 0, 1) := by decide +kernel
theorem dX8_led_4 : decode cX8_led 4 = .ok (.istore 7, 2) := by decide +kernel
theorem dX8_led_6 : decode cX8_led 6 = .ok (.iconst 0, 1) := by decide +kernel
theorem dX8_led_7 : decode cX8_led 7 = .ok (.istore 8, 2) := by decide +kernel
theorem dX8_led_9 : decode cX8_led 9 = .ok (.iload 8, 2) := by decide +kernel
theorem dX8_led_11 : decode cX8_led 11 = .ok (.aload_n 0, 1) := by decide +kernel
theorem dX8_led_12 : decode cX8_led 12 = .ok (.getfield 162, 3) := by decide +kernel
theorem dX8_led_15 : decode cX8_led 15 = .ok (.if_icmp .ge 105, 3) := by decide +kernel
theorem dX8_led_18 : decode cX8_led 18 = .ok (.aload_n 0, 1) := by decide +kernel
theorem dX8_led_19 : decode cX8_led 19 = .ok (.getfield 42, 3) := by decide +kernel
theorem dX8_led_22 : decode cX8_led 22 = .ok (.iload 8, 2) := by decide +kernel
theorem dX8_led_24 : decode cX8_led 24 = .ok (.laload, 1) := by decide +kernel
theorem dX8_led_25 : decode cX8_led 25 = .ok (.lload_n 1, 1) := by decide +kernel
theorem dX8_led_26 : decode cX8_led 26 = .ok (.lcmp, 1) := by decide +kernel
theorem dX8_led_27 : decode cX8_led 27 = .ok (.ifCond .ne 18, 3) := by decide +kernel
theorem dX8_led_30 : decode cX8_led 30 = .ok (.aload_n 0, 1) := by decide +kernel
theorem dX8_led_31 : decode cX8_led 31 = .ok (.getfield 45, 3) := by decide +kernel
theorem dX8_led_34 : decode cX8_led 34 = .ok (.iload 8, 2) := by decide +kernel
theorem dX8_led_36 : decode cX8_led 36 = .ok (.iaload, 1) := by decide +kernel
theorem dX8_led_37 : decode cX8_led 37 = .ok (.iload_n 3, 1) := by decide +kernel
theorem dX8_led_38 : decode cX8_led 38 = .ok (.if_icmp .ne 7, 3) := by decide +kernel
theorem dX8_led_41 : decode cX8_led 41 = .ok (.iconst 1, 1) := by decide +kernel
theorem dX8_led_42 : decode cX8_led 42 = .ok (.goto 4, 3) := by decide +kernel
theorem dX8_led_45 : decode cX8_led 45 = .ok (.iconst 0, 1) := by decide +kernel
theorem dX8_led_46 : decode cX8_led 46 = .ok (.istore 9, 2) := by decide +kernel
theorem dX8_led_48 : decode cX8_led 48 = .ok (.iload 6, 2) := by decide +kernel
theorem dX8_led_50 : decode cX8_led 50 = .ok (.iload 9, 2) := by decide +kernel
theorem dX8_led_52 : decode cX8_led 52 = .ok (.ifCond .eq 31, 3) := by decide +kernel
theorem dX8_led_55 : decode cX8_led 55 = .ok (.aload_n 0, 1) := by decide +kernel
theorem dX8_led_56 : decode cX8_led 56 = .ok (.getfield 48, 3) := by decide +kernel
theorem dX8_led_59 : decode cX8_led 59 = .ok (.iload 8, 2) := by decide +kernel
theorem dX8_led_61 : decode cX8_led 61 = .ok (.iaload, 1) := by decide +kernel
theorem dX8_led_62 : decode cX8_led 62 = .ok (.iload 4, 2) := by decide +kernel
theorem dX8_led_64 : decode cX8_led 64 = .ok (.if_icmp .eq 19, 3) := by decide +kernel
theorem dX8_led_67 : decode cX8_led 67 = .ok (.aload_n 0, 1) := by decide +kernel
theorem dX8_led_68 : decode cX8_led 68 = .ok (.getfield 51, 3) := by decide +kernel
theorem dX8_led_71 : decode cX8_led 71 = .ok (.iload 8, 2) := by decide +kernel
theorem dX8_led_73 : decode cX8_led 73 = .ok (.iaload, 1) := by decide +kernel
theorem dX8_led_74 : decode cX8_led 74 = .ok (.iload 5, 2) := by decide +kernel
theorem dX8_led_76 : decode cX8_led 76 = .ok (.if_icmp .ne 7, 3) := by decide +kernel
theorem dX8_led_79 : decode cX8_led 79 = .ok (.iconst 1, 1) := by decide +kernel
theorem dX8_led_80 : decode cX8_led 80 = .ok (.goto 4, 3) := by decide +kernel
theorem dX8_led_83 : decode cX8_led 83 = .ok (.iconst 0, 1) := by decide +kernel
theorem dX8_led_84 : decode cX8_led 84 = .ok (.ior, 1) := by decide +kernel
theorem dX8_led_85 : decode cX8_led 85 = .ok (.istore 6, 2) := by decide +kernel
theorem dX8_led_87 : decode cX8_led 87 = .ok (.iload 7, 2) := by decide +kernel
theorem dX8_led_89 : decode cX8_led 89 = .ok (.iload 9, 2) := by decide +kernel
theorem dX8_led_91 : decode cX8_led 91 = .ok (.ifCond .eq 19, 3) := by decide +kernel
theorem dX8_led_94 : decode cX8_led 94 = .ok (.aload_n 0, 1) := by decide +kernel
theorem dX8_led_95 : decode cX8_led 95 = .ok (.getfield 48, 3) := by decide +kernel
theorem dX8_led_98 : decode cX8_led 98 = .ok (.iload 8, 2) := by decide +kernel
theorem dX8_led_100 : decode cX8_led 100 = .ok (.iaload, 1) := by decide +kernel
theorem dX8_led_101 : decode cX8_led 101 = .ok (.iload 4, 2) := by decide +kernel
theorem dX8_led_103 : decode cX8_led 103 = .ok (.if_icmp .ne 7, 3) := by decide +kernel
theorem dX8_led_106 : decode cX8_led 106 = .ok (.iconst 1, 1) := by decide +kernel
theorem dX8_led_107 : decode cX8_led 107 = .ok (.goto 4, 3) := by decide +kernel
theorem dX8_led_110 : decode cX8_led 110 = .ok (.iconst 0, 1) := by decide +kernel
theorem dX8_led_111 : decode cX8_led 111 = .ok (.ior, 1) := by decide +kernel
theorem dX8_led_112 : decode cX8_led 112 = .ok (.istore 7, 2) := by decide +kernel
theorem dX8_led_114 : decode cX8_led 114 = .ok (.iinc 8 1, 3) := by decide +kernel
theorem dX8_led_117 : decode cX8_led 117 = .ok (.goto (-108), 3) := by decide +kernel
theorem dX8_led_120 : decode cX8_led 120 = .ok (.iload 6, 2) := by decide +kernel
theorem dX8_led_122 : decode cX8_led 122 = .ok (.ifCond .eq 12, 3) := by decide +kernel
theorem dX8_led_125 : decode cX8_led 125 = .ok (.iload 7, 2) := by decide +kernel
theorem dX8_led_127 : decode cX8_led 127 = .ok (.ifCond .ne 7, 3) := by decide +kernel
theorem dX8_led_130 : decode cX8_led 130 = .ok (.iconst 1, 1) := by decide +kernel
theorem dX8_led_131 : decode cX8_led 131 = .ok (.goto 4, 3) := by decide +kernel
theorem dX8_led_134 : decode cX8_led 134 = .ok (.iconst 0, 1) := by decide +kernel
theorem dX8_led_135 : decode cX8_led 135 = .ok (.ireturn, 1) := by decide +kernel
theorem dX8_at_0 : decode cX8_at 0 = .ok (.aload_n 0, 1) := by decide +kernel
theorem dX8_at_1 : decode cX8_at 1 = .ok (.iload_n 1, 1) := by decide +kernel
theorem dX8_at_2 : decode cX8_at 2 = .ok (.invokevirtual 154, 3) := by decide +kernel
theorem dX8_at_5 : decode cX8_at 5 = .ok (.ifCond .ne 34, 3) := by decide +kernel
theorem dX8_at_8 : decode cX8_at 8 = .ok (.aload_n 0, 1) := by decide +kernel
theorem dX8_at_9 : decode cX8_at 9 = .ok (.iload_n 2, 1) := by decide +kernel
theorem dX8_at_10 : decode cX8_at 10 = .ok (.ifCond .lt 21, 3) := by decide +kernel
theorem dX8_at_13 : decode cX8_at 13 = .ok (.iload_n 2, 1) := by decide +kernel
theorem dX8_at_14 : decode cX8_at 14 = .ok (.iconst 3, 1) := by decide +kernel
theorem dX8_at_15 : decode cX8_at 15 = .ok (.if_icmp .ge 16, 3) := by decide +kernel
theorem dX8_at_18 : decode cX8_at 18 = .ok (.iload_n 3, 1) := by decide +kernel
theorem dX8_at_19 : decode cX8_at 19 = .ok (.ifCond .lt 12, 3) := by decide +kernel
theorem dX8_at_22 : decode cX8_at 22 = .ok (.iload_n 3, 1) := by decide +kernel
theorem dX8_at_23 : decode cX8_at 23 = .ok (.iconst 3, 1) := by decide +kernel
theorem dX8_at_24 : decode cX8_at 24 = .ok (.if_icmp .ge 7, 3) := by decide +kernel
theorem dX8_at_27 : decode cX8_at 27 = .ok (.iconst 1, 1) := by decide +kernel
theorem dX8_at_28 : decode cX8_at 28 = .ok (.goto 4, 3) := by decide +kernel
theorem dX8_at_31 : decode cX8_at 31 = .ok (.iconst 0, 1) := by decide +kernel
theorem dX8_at_32 : decode cX8_at 32 = .ok (.iconst 2, 1) := by decide +kernel
theorem dX8_at_33 : decode cX8_at 33 = .ok (.invokevirtual 109, 3) := by decide +kernel
theorem dX8_at_36 : decode cX8_at 36 = .ok (.ifCond .eq 7, 3) := by decide +kernel
theorem dX8_at_39 : decode cX8_at 39 = .ok (.iconst 0, 1) := by decide +kernel
theorem dX8_at_40 : decode cX8_at 40 = .ok (.goto 17, 3) := by decide +kernel
theorem dX8_at_43 : decode cX8_at 43 = .ok (.aload_n 0, 1) := by decide +kernel
theorem dX8_at_44 : decode cX8_at 44 = .ok (.getfield 13, 3) := by decide +kernel
theorem dX8_at_47 : decode cX8_at 47 = .ok (.iload_n 1, 1) := by decide +kernel
theorem dX8_at_48 : decode cX8_at 48 = .ok (.laload, 1) := by decide +kernel
theorem dX8_at_49 : decode cX8_at 49 = .ok (.iconst 3, 1) := by decide +kernel
theorem dX8_at_50 : decode cX8_at 50 = .ok (.iload_n 2, 1) := by decide +kernel
theorem dX8_at_51 : decode cX8_at 51 = .ok (.imul, 1) := by decide +kernel
theorem dX8_at_52 : decode cX8_at 52 = .ok (.iload_n 3, 1) := by decide +kernel
theorem dX8_at_53 : decode cX8_at 53 = .ok (.iadd, 1) := by decide +kernel
theorem dX8_at_54 : decode cX8_at 54 = .ok (.invokestatic 120, 3) := by decide +kernel
theorem dX8_at_57 : decode cX8_at 57 = .ok (.ireturn, 1) := by decide +kernel
theorem dX8_score_0 : decode cX8_score 0 = .ok (.aload_n 0, 1) := by decide +kernel
theorem dX8_score_1 : decode cX8_score 1 = .ok (.iload_n 1, 1) := by decide +kernel
theorem dX8_score_2 : decode cX8_score 2 = .ok (.invokevirtual 154, 3) := by decide +kernel
theorem dX8_score_5 : decode cX8_score 5 = .ok (.ifCond .eq 7, 3) := by decide +kernel
theorem dX8_score_8 : decode cX8_score 8 = .ok (.iconst 0, 1) := by decide +kernel
theorem dX8_score_9 : decode cX8_score 9 = .ok (.goto 9, 3) := by decide +kernel
theorem dX8_score_12 : decode cX8_score 12 = .ok (.aload_n 0, 1) := by decide +kernel
theorem dX8_score_13 : decode cX8_score 13 = .ok (.getfield 23, 3) := by decide +kernel
theorem dX8_score_16 : decode cX8_score 16 = .ok (.iload_n 1, 1) := by decide +kernel
theorem dX8_score_17 : decode cX8_score 17 = .ok (.iaload, 1) := by decide +kernel
theorem dX8_score_18 : decode cX8_score 18 = .ok (.ireturn, 1) := by decide +kernel
theorem dX8_pushes_0 : decode cX8_pushes 0 = .ok (.aload_n 0, 1) := by decide +kernel
theorem dX8_pushes_1 : decode cX8_pushes 1 = .ok (.iload_n 1, 1) := by decide +kernel
theorem dX8_pushes_2 : decode cX8_pushes 2 = .ok (.invokevirtual 154, 3) := by decide +kernel
theorem dX8_pushes_5 : decode cX8_pushes 5 = .ok (.ifCond .eq 7, 3) := by decide +kernel
theorem dX8_pushes_8 : decode cX8_pushes 8 = .ok (.iconst 0, 1) := by decide +kernel
theorem dX8_pushes_9 : decode cX8_pushes 9 = .ok (.goto 9, 3) := by decide +kernel
theorem dX8_pushes_12 : decode cX8_pushes 12 = .ok (.aload_n 0, 1) := by decide +kernel
theorem dX8_pushes_13 : decode cX8_pushes 13 = .ok (.getfield 26, 3) := by decide +kernel
theorem dX8_pushes_16 : decode cX8_pushes 16 = .ok (.iload_n 1, 1) := by decide +kernel
theorem dX8_pushes_17 : decode cX8_pushes 17 = .ok (.iaload, 1) := by decide +kernel
theorem dX8_pushes_18 : decode cX8_pushes 18 = .ok (.ireturn, 1) := by decide +kernel
theorem dX8_canPush_0 : decode cX8_canPush 0 = .ok (.aload_n 0, 1) := by decide +kernel
theorem dX8_canPush_1 : decode cX8_canPush 1 = .ok (.iload_n 1, 1) := by decide +kernel
theorem dX8_canPush_2 : decode cX8_canPush 2 = .ok (.invokevirtual 154, 3) := by decide +kernel
theorem dX8_canPush_5 : decode cX8_canPush 5 = .ok (.ifCond .ne 43, 3) := by decide +kernel
theorem dX8_canPush_8 : decode cX8_canPush 8 = .ok (.aload_n 0, 1) := by decide +kernel
theorem dX8_canPush_9 : decode cX8_canPush 9 = .ok (.iload_n 2, 1) := by decide +kernel
theorem dX8_canPush_10 : decode cX8_canPush 10 = .ok (.ifCond .lt 12, 3) := by decide +kernel
theorem dX8_canPush_13 : decode cX8_canPush 13 = .ok (.iload_n 2, 1) := by decide +kernel
theorem dX8_canPush_14 : decode cX8_canPush 14 = .ok (.iconst 4, 1) := by decide +kernel
theorem dX8_canPush_15 : decode cX8_canPush 15 = .ok (.if_icmp .ge 7, 3) := by decide +kernel
theorem dX8_canPush_18 : decode cX8_canPush 18 = .ok (.iconst 1, 1) := by decide +kernel
theorem dX8_canPush_19 : decode cX8_canPush 19 = .ok (.goto 4, 3) := by decide +kernel
theorem dX8_canPush_22 : decode cX8_canPush 22 = .ok (.iconst 0, 1) := by decide +kernel
theorem dX8_canPush_23 : decode cX8_canPush 23 = .ok (.iconst 2, 1) := by decide +kernel
theorem dX8_canPush_24 : decode cX8_canPush 24 = .ok (.invokevirtual 109, 3) := by decide +kernel
theorem dX8_canPush_27 : decode cX8_canPush 27 = .ok (.ifCond .ne 21, 3) := by decide +kernel
theorem dX8_canPush_30 : decode cX8_canPush 30 = .ok (.aload_n 0, 1) := by decide +kernel
theorem dX8_canPush_31 : decode cX8_canPush 31 = .ok (.aload_n 0, 1) := by decide +kernel
theorem dX8_canPush_32 : decode cX8_canPush 32 = .ok (.getfield 13, 3) := by decide +kernel
theorem dX8_canPush_35 : decode cX8_canPush 35 = .ok (.iload_n 1, 1) := by decide +kernel
theorem dX8_canPush_36 : decode cX8_canPush 36 = .ok (.laload, 1) := by decide +kernel
theorem dX8_canPush_37 : decode cX8_canPush 37 = .ok (.iload_n 2, 1) := by decide +kernel
theorem dX8_canPush_38 : decode cX8_canPush 38 = .ok (.invokevirtual 144, 3) := by decide +kernel
theorem dX8_canPush_41 : decode cX8_canPush 41 = .ok (.ifCond .eq 7, 3) := by decide +kernel
theorem dX8_canPush_44 : decode cX8_canPush 44 = .ok (.iconst 1, 1) := by decide +kernel
theorem dX8_canPush_45 : decode cX8_canPush 45 = .ok (.goto 4, 3) := by decide +kernel
theorem dX8_canPush_48 : decode cX8_canPush 48 = .ok (.iconst 0, 1) := by decide +kernel
theorem dX8_canPush_49 : decode cX8_canPush 49 = .ok (.ireturn, 1) := by decide +kernel
theorem dX8_isOver_0 : decode cX8_isOver 0 = .ok (.aload_n 0, 1) := by decide +kernel
theorem dX8_isOver_1 : decode cX8_isOver 1 = .ok (.iload_n 1, 1) := by decide +kernel
theorem dX8_isOver_2 : decode cX8_isOver 2 = .ok (.invokevirtual 154, 3) := by decide +kernel
theorem dX8_isOver_5 : decode cX8_isOver 5 = .ok (.ifCond .ne 20, 3) := by decide +kernel
theorem dX8_isOver_8 : decode cX8_isOver 8 = .ok (.aload_n 0, 1) := by decide +kernel
theorem dX8_isOver_9 : decode cX8_isOver 9 = .ok (.aload_n 0, 1) := by decide +kernel
theorem dX8_isOver_10 : decode cX8_isOver 10 = .ok (.getfield 13, 3) := by decide +kernel
theorem dX8_isOver_13 : decode cX8_isOver 13 = .ok (.iload_n 1, 1) := by decide +kernel
theorem dX8_isOver_14 : decode cX8_isOver 14 = .ok (.laload, 1) := by decide +kernel
theorem dX8_isOver_15 : decode cX8_isOver 15 = .ok (.invokevirtual 165, 3) := by decide +kernel
theorem dX8_isOver_18 : decode cX8_isOver 18 = .ok (.ifCond .eq 7, 3) := by decide +kernel
theorem dX8_isOver_21 : decode cX8_isOver 21 = .ok (.iconst 1, 1) := by decide +kernel
theorem dX8_isOver_22 : decode cX8_isOver 22 = .ok (.goto 4, 3) := by decide +kernel
theorem dX8_isOver_25 : decode cX8_isOver 25 = .ok (.iconst 0, 1) := by decide +kernel
theorem dX8_isOver_26 : decode cX8_isOver 26 = .ok (.ireturn, 1) := by decide +kernel
theorem dX8_find_0 : decode cX8_find 0 = .ok (.iconst 0, 1) := by decide +kernel
theorem dX8_find_1 : decode cX8_find 1 = .ok (.istore 5, 2) := by decide +kernel
theorem dX8_find_3 : decode cX8_find 3 = .ok (.iload 5, 2) := by decide +kernel
theorem dX8_find_5 : decode cX8_find 5 = .ok (.aload_n 0, 1) := by decide +kernel
theorem dX8_find_6 : decode cX8_find 6 = .ok (.getfield 169, 3) := by decide +kernel
theorem dX8_find_9 : decode cX8_find 9 = .ok (.if_icmp .ge 47, 3) := by decide +kernel
theorem dX8_find_12 : decode cX8_find 12 = .ok (.aload_n 0, 1) := by decide +kernel
theorem dX8_find_13 : decode cX8_find 13 = .ok (.getfield 54, 3) := by decide +kernel
theorem dX8_find_16 : decode cX8_find 16 = .ok (.iload 5, 2) := by decide +kernel
theorem dX8_find_18 : decode cX8_find 18 = .ok (.laload, 1) := by decide +kernel
theorem dX8_find_19 : decode cX8_find 19 = .ok (.lload_n 1, 1) := by decide +kernel
theorem dX8_find_20 : decode cX8_find 20 = .ok (.lcmp, 1) := by decide +kernel
theorem dX8_find_21 : decode cX8_find 21 = .ok (.ifCond .ne 29, 3) := by decide +kernel
theorem dX8_find_24 : decode cX8_find 24 = .ok (.aload_n 0, 1) := by decide +kernel
theorem dX8_find_25 : decode cX8_find 25 = .ok (.getfield 57, 3) := by decide +kernel
theorem dX8_find_28 : decode cX8_find 28 = .ok (.iload 5, 2) := by decide +kernel
theorem dX8_find_30 : decode cX8_find 30 = .ok (.iaload, 1) := by decide +kernel
theorem dX8_find_31 : decode cX8_find 31 = .ok (.iload_n 3, 1) := by decide +kernel
theorem dX8_find_32 : decode cX8_find 32 = .ok (.if_icmp .ne 18, 3) := by decide +kernel
theorem dX8_find_35 : decode cX8_find 35 = .ok (.aload_n 0, 1) := by decide +kernel
theorem dX8_find_36 : decode cX8_find 36 = .ok (.getfield 60, 3) := by decide +kernel
theorem dX8_find_39 : decode cX8_find 39 = .ok (.iload 5, 2) := by decide +kernel
theorem dX8_find_41 : decode cX8_find 41 = .ok (.iaload, 1) := by decide +kernel
theorem dX8_find_42 : decode cX8_find 42 = .ok (.iload 4, 2) := by decide +kernel
theorem dX8_find_44 : decode cX8_find 44 = .ok (.if_icmp .ne 6, 3) := by decide +kernel
theorem dX8_find_47 : decode cX8_find 47 = .ok (.iload 5, 2) := by decide +kernel
theorem dX8_find_49 : decode cX8_find 49 = .ok (.ireturn, 1) := by decide +kernel
theorem dX8_find_50 : decode cX8_find 50 = .ok (.iinc 5 1, 3) := by decide +kernel
theorem dX8_find_53 : decode cX8_find 53 = .ok (.goto (-50), 3) := by decide +kernel
theorem dX8_find_56 : decode cX8_find 56 = .ok (.iconst (-1), 1) := by decide +kernel
theorem dX8_find_57 : decode cX8_find 57 = .ok (.ireturn, 1) := by decide +kernel
theorem dX8_oldest_0 : decode cX8_oldest 0 = .ok (.iconst (-1), 1) := by decide +kernel
theorem dX8_oldest_1 : decode cX8_oldest 1 = .ok (.istore_n 1, 1) := by decide +kernel
theorem dX8_oldest_2 : decode cX8_oldest 2 = .ok (.iconst 0, 1) := by decide +kernel
theorem dX8_oldest_3 : decode cX8_oldest 3 = .ok (.istore_n 2, 1) := by decide +kernel
theorem dX8_oldest_4 : decode cX8_oldest 4 = .ok (.iload_n 2, 1) := by decide +kernel
theorem dX8_oldest_5 : decode cX8_oldest 5 = .ok (.aload_n 0, 1) := by decide +kernel
theorem dX8_oldest_6 : decode cX8_oldest 6 = .ok (.getfield 169, 3) := by decide +kernel
theorem dX8_oldest_9 : decode cX8_oldest 9 = .ok (.if_icmp .ge 40, 3) := by decide +kernel
theorem dX8_oldest_12 : decode cX8_oldest 12 = .ok (.aload_n 0, 1) := by decide +kernel
theorem dX8_oldest_13 : decode cX8_oldest 13 = .ok (.getfield 72, 3) := by decide +kernel
theorem dX8_oldest_16 : decode cX8_oldest 16 = .ok (.iload_n 2, 1) := by decide +kernel
theorem dX8_oldest_17 : decode cX8_oldest 17 = .ok (.iaload, 1) := by decide +kernel
theorem dX8_oldest_18 : decode cX8_oldest 18 = .ok (.ifCond .ne 25, 3) := by decide +kernel
theorem dX8_oldest_21 : decode cX8_oldest 21 = .ok (.iload_n 1, 1) := by decide +kernel
theorem dX8_oldest_22 : decode cX8_oldest 22 = .ok (.iconst (-1), 1) := by decide +kernel
theorem dX8_oldest_23 : decode cX8_oldest 23 = .ok (.if_icmp .eq 18, 3) := by decide +kernel
theorem dX8_oldest_26 : decode cX8_oldest 26 = .ok (.aload_n 0, 1) := by decide +kernel
theorem dX8_oldest_27 : decode cX8_oldest 27 = .ok (.getfield 69, 3) := by decide +kernel
theorem dX8_oldest_30 : decode cX8_oldest 30 = .ok (.iload_n 2, 1) := by decide +kernel
theorem dX8_oldest_31 : decode cX8_oldest 31 = .ok (.iaload, 1) := by decide +kernel
theorem dX8_oldest_32 : decode cX8_oldest 32 = .ok (.aload_n 0, 1) := by decide +kernel
theorem dX8_oldest_33 : decode cX8_oldest 33 = .ok (.getfield 69, 3) := by decide +kernel
theorem dX8_oldest_36 : decode cX8_oldest 36 = .ok (.iload_n 1, 1) := by decide +kernel
theorem dX8_oldest_37 : decode cX8_oldest 37 = .ok (.iaload, 1) := by decide +kernel
theorem dX8_oldest_38 : decode cX8_oldest 38 = .ok (.if_icmp .ge 5, 3) := by decide +kernel
theorem dX8_oldest_41 : decode cX8_oldest 41 = .ok (.iload_n 2, 1) := by decide +kernel
theorem dX8_oldest_42 : decode cX8_oldest 42 = .ok (.istore_n 1, 1) := by decide +kernel
theorem dX8_oldest_43 : decode cX8_oldest 43 = .ok (.iinc 2 1, 3) := by decide +kernel
theorem dX8_oldest_46 : decode cX8_oldest 46 = .ok (.goto (-42), 3) := by decide +kernel
theorem dX8_oldest_49 : decode cX8_oldest 49 = .ok (.iload_n 1, 1) := by decide +kernel
theorem dX8_oldest_50 : decode cX8_oldest 50 = .ok (.ireturn, 1) := by decide +kernel
theorem dX8_drop_0 : decode cX8_drop 0 = .ok (.aload_n 0, 1) := by decide +kernel
theorem dX8_drop_1 : decode cX8_drop 1 = .ok (.dup, 1) := by decide +kernel
theorem dX8_drop_2 : decode cX8_drop 2 = .ok (.getfield 169, 3) := by decide +kernel
theorem dX8_drop_5 : decode cX8_drop 5 = .ok (.iconst 1, 1) := by decide +kernel
theorem dX8_drop_6 : decode cX8_drop 6 = .ok (.isub, 1) := by decide +kernel
theorem dX8_drop_7 : decode cX8_drop 7 = .ok (.putfield 169, 3) := by decide +kernel
theorem dX8_drop_10 : decode cX8_drop 10 = .ok (.aload_n 0, 1) := by decide +kernel
theorem dX8_drop_11 : decode cX8_drop 11 = .ok (.getfield 54, 3) := by decide +kernel
theorem dX8_drop_14 : decode cX8_drop 14 = .ok (.iload_n 1, 1) := by decide +kernel
theorem dX8_drop_15 : decode cX8_drop 15 = .ok (.aload_n 0, 1) := by decide +kernel
theorem dX8_drop_16 : decode cX8_drop 16 = .ok (.getfield 54, 3) := by decide +kernel
theorem dX8_drop_19 : decode cX8_drop 19 = .ok (.aload_n 0, 1) := by decide +kernel
theorem dX8_drop_20 : decode cX8_drop 20 = .ok (.getfield 169, 3) := by decide +kernel
theorem dX8_drop_23 : decode cX8_drop 23 = .ok (.laload, 1) := by decide +kernel
theorem dX8_drop_24 : decode cX8_drop 24 = .ok (.lastore, 1) := by decide +kernel
theorem dX8_drop_25 : decode cX8_drop 25 = .ok (.aload_n 0, 1) := by decide +kernel
theorem dX8_drop_26 : decode cX8_drop 26 = .ok (.getfield 57, 3) := by decide +kernel
theorem dX8_drop_29 : decode cX8_drop 29 = .ok (.iload_n 1, 1) := by decide +kernel
theorem dX8_drop_30 : decode cX8_drop 30 = .ok (.aload_n 0, 1) := by decide +kernel
theorem dX8_drop_31 : decode cX8_drop 31 = .ok (.getfield 57, 3) := by decide +kernel
theorem dX8_drop_34 : decode cX8_drop 34 = .ok (.aload_n 0, 1) := by decide +kernel
theorem dX8_drop_35 : decode cX8_drop 35 = .ok (.getfield 169, 3) := by decide +kernel
theorem dX8_drop_38 : decode cX8_drop 38 = .ok (.iaload, 1) := by decide +kernel
theorem dX8_drop_39 : decode cX8_drop 39 = .ok (.iastore, 1) := by decide +kernel
theorem dX8_drop_40 : decode cX8_drop 40 = .ok (.aload_n 0, 1) := by decide +kernel
theorem dX8_drop_41 : decode cX8_drop 41 = .ok (.getfield 60, 3) := by decide +kernel
theorem dX8_drop_44 : decode cX8_drop 44 = .ok (.iload_n 1, 1) := by decide +kernel
theorem dX8_drop_45 : decode cX8_drop 45 = .ok (.aload_n 0, 1) := by decide +kernel
theorem dX8_drop_46 : decode cX8_drop 46 = .ok (.getfield 60, 3) := by decide +kernel
theorem dX8_drop_49 : decode cX8_drop 49 = .ok (.aload_n 0, 1) := by decide +kernel
theorem dX8_drop_50 : decode cX8_drop 50 = .ok (.getfield 169, 3) := by decide +kernel
theorem dX8_drop_53 : decode cX8_drop 53 = .ok (.iaload, 1) := by decide +kernel
theorem dX8_drop_54 : decode cX8_drop 54 = .ok (.iastore, 1) := by decide +kernel
theorem dX8_drop_55 : decode cX8_drop 55 = .ok (.aload_n 0, 1) := by decide +kernel
theorem dX8_drop_56 : decode cX8_drop 56 = .ok (.getfield 63, 3) := by decide +kernel
theorem dX8_drop_59 : decode cX8_drop 59 = .ok (.iload_n 1, 1) := by decide +kernel
theorem dX8_drop_60 : decode cX8_drop 60 = .ok (.aload_n 0, 1) := by decide +kernel
theorem dX8_drop_61 : decode cX8_drop 61 = .ok (.getfield 63, 3) := by decide +kernel
theorem dX8_drop_64 : decode cX8_drop 64 = .ok (.aload_n 0, 1) := by decide +kernel
theorem dX8_drop_65 : decode cX8_drop 65 = .ok (.getfield 169, 3) := by decide +kernel
theorem dX8_drop_68 : decode cX8_drop 68 = .ok (.iaload, 1) := by decide +kernel
theorem dX8_drop_69 : decode cX8_drop 69 = .ok (.iastore, 1) := by decide +kernel
theorem dX8_drop_70 : decode cX8_drop 70 = .ok (.aload_n 0, 1) := by decide +kernel
theorem dX8_drop_71 : decode cX8_drop 71 = .ok (.getfield 66, 3) := by decide +kernel
theorem dX8_drop_74 : decode cX8_drop 74 = .ok (.iload_n 1, 1) := by decide +kernel
theorem dX8_drop_75 : decode cX8_drop 75 = .ok (.aload_n 0, 1) := by decide +kernel
theorem dX8_drop_76 : decode cX8_drop 76 = .ok (.getfield 66, 3) := by decide +kernel
theorem dX8_drop_79 : decode cX8_drop 79 = .ok (.aload_n 0, 1) := by decide +kernel
theorem dX8_drop_80 : decode cX8_drop 80 = .ok (.getfield 169, 3) := by decide +kernel
theorem dX8_drop_83 : decode cX8_drop 83 = .ok (.iaload, 1) := by decide +kernel
theorem dX8_drop_84 : decode cX8_drop 84 = .ok (.iastore, 1) := by decide +kernel
theorem dX8_drop_85 : decode cX8_drop 85 = .ok (.aload_n 0, 1) := by decide +kernel
theorem dX8_drop_86 : decode cX8_drop 86 = .ok (.getfield 69, 3) := by decide +kernel
theorem dX8_drop_89 : decode cX8_drop 89 = .ok (.iload_n 1, 1) := by decide +kernel
theorem dX8_drop_90 : decode cX8_drop 90 = .ok (.aload_n 0, 1) := by decide +kernel
theorem dX8_drop_91 : decode cX8_drop 91 = .ok (.getfield 69, 3) := by decide +kernel
theorem dX8_drop_94 : decode cX8_drop 94 = .ok (.aload_n 0, 1) := by decide +kernel
theorem dX8_drop_95 : decode cX8_drop 95 = .ok (.getfield 169, 3) := by decide +kernel
theorem dX8_drop_98 : decode cX8_drop 98 = .ok (.iaload, 1) := by decide +kernel
theorem dX8_drop_99 : decode cX8_drop 99 = .ok (.iastore, 1) := by decide +kernel
theorem dX8_drop_100 : decode cX8_drop 100 = .ok (.aload_n 0, 1) := by decide +kernel
theorem dX8_drop_101 : decode cX8_drop 101 = .ok (.getfield 72, 3) := by decide +kernel
theorem dX8_drop_104 : decode cX8_drop 104 = .ok (.iload_n 1, 1) := by decide +kernel
theorem dX8_drop_105 : decode cX8_drop 105 = .ok (.aload_n 0, 1) := by decide +kernel
theorem dX8_drop_106 : decode cX8_drop 106 = .ok (.getfield 72, 3) := by decide +kernel
theorem dX8_drop_109 : decode cX8_drop 109 = .ok (.aload_n 0, 1) := by decide +kernel
theorem dX8_drop_110 : decode cX8_drop 110 = .ok (.getfield 169, 3) := by decide +kernel
theorem dX8_drop_113 : decode cX8_drop 113 = .ok (.iaload, 1) := by decide +kernel
theorem dX8_drop_114 : decode cX8_drop 114 = .ok (.iastore, 1) := by decide +kernel
theorem dX8_drop_115 : decode cX8_drop 115 = .ok (.return_, 1) := by decide +kernel
theorem dX8_keep_0 : decode cX8_keep 0 = .ok (.aload_n 0, 1) := by decide +kernel
theorem dX8_keep_1 : decode cX8_keep 1 = .ok (.getfield 169, 3) := by decide +kernel
theorem dX8_keep_4 : decode cX8_keep 4 = .ok (.aload_n 0, 1) := by decide +kernel
theorem dX8_keep_5 : decode cX8_keep 5 = .ok (.getfield 96, 3) := by decide +kernel
theorem dX8_keep_8 : decode cX8_keep 8 = .ok (.if_icmp .ne 19, 3) := by decide +kernel
theorem dX8_keep_11 : decode cX8_keep 11 = .ok (.aload_n 0, 1) := by decide +kernel
theorem dX8_keep_12 : decode cX8_keep 12 = .ok (.invokevirtual 172, 3) := by decide +kernel
theorem dX8_keep_15 : decode cX8_keep 15 = .ok (.istore_n 2, 1) := by decide +kernel
theorem dX8_keep_16 : decode cX8_keep 16 = .ok (.iload_n 2, 1) := by decide +kernel
theorem dX8_keep_17 : decode cX8_keep 17 = .ok (.iconst (-1), 1) := by decide +kernel
theorem dX8_keep_18 : decode cX8_keep 18 = .ok (.if_icmp .ne 4, 3) := by decide +kernel
theorem dX8_keep_21 : decode cX8_keep 21 = .ok (.return_, 1) := by decide +kernel
theorem dX8_keep_22 : decode cX8_keep 22 = .ok (.aload_n 0, 1) := by decide +kernel
theorem dX8_keep_23 : decode cX8_keep 23 = .ok (.iload_n 2, 1) := by decide +kernel
theorem dX8_keep_24 : decode cX8_keep 24 = .ok (.invokevirtual 176, 3) := by decide +kernel
theorem dX8_keep_27 : decode cX8_keep 27 = .ok (.aload_n 0, 1) := by decide +kernel
theorem dX8_keep_28 : decode cX8_keep 28 = .ok (.getfield 54, 3) := by decide +kernel
theorem dX8_keep_31 : decode cX8_keep 31 = .ok (.aload_n 0, 1) := by decide +kernel
theorem dX8_keep_32 : decode cX8_keep 32 = .ok (.getfield 169, 3) := by decide +kernel
theorem dX8_keep_35 : decode cX8_keep 35 = .ok (.aload_n 0, 1) := by decide +kernel
theorem dX8_keep_36 : decode cX8_keep 36 = .ok (.getfield 75, 3) := by decide +kernel
theorem dX8_keep_39 : decode cX8_keep 39 = .ok (.iload_n 1, 1) := by decide +kernel
theorem dX8_keep_40 : decode cX8_keep 40 = .ok (.laload, 1) := by decide +kernel
theorem dX8_keep_41 : decode cX8_keep 41 = .ok (.lastore, 1) := by decide +kernel
theorem dX8_keep_42 : decode cX8_keep 42 = .ok (.aload_n 0, 1) := by decide +kernel
theorem dX8_keep_43 : decode cX8_keep 43 = .ok (.getfield 57, 3) := by decide +kernel
theorem dX8_keep_46 : decode cX8_keep 46 = .ok (.aload_n 0, 1) := by decide +kernel
theorem dX8_keep_47 : decode cX8_keep 47 = .ok (.getfield 169, 3) := by decide +kernel
theorem dX8_keep_50 : decode cX8_keep 50 = .ok (.aload_n 0, 1) := by decide +kernel
theorem dX8_keep_51 : decode cX8_keep 51 = .ok (.getfield 78, 3) := by decide +kernel
theorem dX8_keep_54 : decode cX8_keep 54 = .ok (.iload_n 1, 1) := by decide +kernel
theorem dX8_keep_55 : decode cX8_keep 55 = .ok (.iaload, 1) := by decide +kernel
theorem dX8_keep_56 : decode cX8_keep 56 = .ok (.iastore, 1) := by decide +kernel
theorem dX8_keep_57 : decode cX8_keep 57 = .ok (.aload_n 0, 1) := by decide +kernel
theorem dX8_keep_58 : decode cX8_keep 58 = .ok (.getfield 60, 3) := by decide +kernel
theorem dX8_keep_61 : decode cX8_keep 61 = .ok (.aload_n 0, 1) := by decide +kernel
theorem dX8_keep_62 : decode cX8_keep 62 = .ok (.getfield 169, 3) := by decide +kernel
theorem dX8_keep_65 : decode cX8_keep 65 = .ok (.aload_n 0, 1) := by decide +kernel
theorem dX8_keep_66 : decode cX8_keep 66 = .ok (.getfield 81, 3) := by decide +kernel
theorem dX8_keep_69 : decode cX8_keep 69 = .ok (.iload_n 1, 1) := by decide +kernel
theorem dX8_keep_70 : decode cX8_keep 70 = .ok (.iaload, 1) := by decide +kernel
theorem dX8_keep_71 : decode cX8_keep 71 = .ok (.iastore, 1) := by decide +kernel
theorem dX8_keep_72 : decode cX8_keep 72 = .ok (.aload_n 0, 1) := by decide +kernel
theorem dX8_keep_73 : decode cX8_keep 73 = .ok (.getfield 63, 3) := by decide +kernel
theorem dX8_keep_76 : decode cX8_keep 76 = .ok (.aload_n 0, 1) := by decide +kernel
theorem dX8_keep_77 : decode cX8_keep 77 = .ok (.getfield 169, 3) := by decide +kernel
theorem dX8_keep_80 : decode cX8_keep 80 = .ok (.aload_n 0, 1) := by decide +kernel
theorem dX8_keep_81 : decode cX8_keep 81 = .ok (.getfield 87, 3) := by decide +kernel
theorem dX8_keep_84 : decode cX8_keep 84 = .ok (.iload_n 1, 1) := by decide +kernel
theorem dX8_keep_85 : decode cX8_keep 85 = .ok (.iaload, 1) := by decide +kernel
theorem dX8_keep_86 : decode cX8_keep 86 = .ok (.iastore, 1) := by decide +kernel
theorem dX8_keep_87 : decode cX8_keep 87 = .ok (.aload_n 0, 1) := by decide +kernel
theorem dX8_keep_88 : decode cX8_keep 88 = .ok (.getfield 66, 3) := by decide +kernel
theorem dX8_keep_91 : decode cX8_keep 91 = .ok (.aload_n 0, 1) := by decide +kernel
theorem dX8_keep_92 : decode cX8_keep 92 = .ok (.getfield 169, 3) := by decide +kernel
theorem dX8_keep_95 : decode cX8_keep 95 = .ok (.aload_n 0, 1) := by decide +kernel
theorem dX8_keep_96 : decode cX8_keep 96 = .ok (.getfield 90, 3) := by decide +kernel
theorem dX8_keep_99 : decode cX8_keep 99 = .ok (.iload_n 1, 1) := by decide +kernel
theorem dX8_keep_100 : decode cX8_keep 100 = .ok (.iaload, 1) := by decide +kernel
theorem dX8_keep_101 : decode cX8_keep 101 = .ok (.iastore, 1) := by decide +kernel
theorem dX8_keep_102 : decode cX8_keep 102 = .ok (.aload_n 0, 1) := by decide +kernel
theorem dX8_keep_103 : decode cX8_keep 103 = .ok (.getfield 69, 3) := by decide +kernel
theorem dX8_keep_106 : decode cX8_keep 106 = .ok (.aload_n 0, 1) := by decide +kernel
theorem dX8_keep_107 : decode cX8_keep 107 = .ok (.getfield 169, 3) := by decide +kernel
theorem dX8_keep_110 : decode cX8_keep 110 = .ok (.aload_n 0, 1) := by decide +kernel
theorem dX8_keep_111 : decode cX8_keep 111 = .ok (.dup, 1) := by decide +kernel
theorem dX8_keep_112 : decode cX8_keep 112 = .ok (.getfield 180, 3) := by decide +kernel
theorem dX8_keep_115 : decode cX8_keep 115 = .ok (.iconst 1, 1) := by decide +kernel
theorem dX8_keep_116 : decode cX8_keep 116 = .ok (.iadd, 1) := by decide +kernel
theorem dX8_keep_117 : decode cX8_keep 117 = .ok (.dup_x1, 1) := by decide +kernel
theorem dX8_keep_118 : decode cX8_keep 118 = .ok (.putfield 180, 3) := by decide +kernel
theorem dX8_keep_121 : decode cX8_keep 121 = .ok (.iastore, 1) := by decide +kernel
theorem dX8_keep_122 : decode cX8_keep 122 = .ok (.aload_n 0, 1) := by decide +kernel
theorem dX8_keep_123 : decode cX8_keep 123 = .ok (.getfield 72, 3) := by decide +kernel
theorem dX8_keep_126 : decode cX8_keep 126 = .ok (.aload_n 0, 1) := by decide +kernel
theorem dX8_keep_127 : decode cX8_keep 127 = .ok (.getfield 169, 3) := by decide +kernel
theorem dX8_keep_130 : decode cX8_keep 130 = .ok (.iconst 0, 1) := by decide +kernel
theorem dX8_keep_131 : decode cX8_keep 131 = .ok (.iastore, 1) := by decide +kernel
theorem dX8_keep_132 : decode cX8_keep 132 = .ok (.aload_n 0, 1) := by decide +kernel
theorem dX8_keep_133 : decode cX8_keep 133 = .ok (.dup, 1) := by decide +kernel
theorem dX8_keep_134 : decode cX8_keep 134 = .ok (.getfield 169, 3) := by decide +kernel
theorem dX8_keep_137 : decode cX8_keep 137 = .ok (.iconst 1, 1) := by decide +kernel
theorem dX8_keep_138 : decode cX8_keep 138 = .ok (.iadd, 1) := by decide +kernel
theorem dX8_keep_139 : decode cX8_keep 139 = .ok (.putfield 169, 3) := by decide +kernel
theorem dX8_keep_142 : decode cX8_keep 142 = .ok (.return_, 1) := by decide +kernel
theorem dX8_worthOf_0 : decode cX8_worthOf 0 = .ok (.iconst 0, 1) := by decide +kernel
theorem dX8_worthOf_1 : decode cX8_worthOf 1 = .ok (.istore 6, 2) := by decide +kernel
theorem dX8_worthOf_3 : decode cX8_worthOf 3 = .ok (.iconst (-1), 1) := by decide +kernel
theorem dX8_worthOf_4 : decode cX8_worthOf 4 = .ok (.istore 7, 2) := by decide +kernel
theorem dX8_worthOf_6 : decode cX8_worthOf 6 = .ok (.iconst 1, 1) := by decide +kernel
theorem dX8_worthOf_7 : decode cX8_worthOf 7 = .ok (.istore 8, 2) := by decide +kernel
theorem dX8_worthOf_9 : decode cX8_worthOf 9 = .ok (.aload_n 0, 1) := by decide +kernel
theorem dX8_worthOf_10 : decode cX8_worthOf 10 = .ok (.getfield 75, 3) := by decide +kernel
theorem dX8_worthOf_13 : decode cX8_worthOf 13 = .ok (.iconst 0, 1) := by decide +kernel
theorem dX8_worthOf_14 : decode cX8_worthOf 14 = .ok (.lload_n 1, 1) := by decide +kernel
theorem dX8_worthOf_15 : decode cX8_worthOf 15 = .ok (.lastore, 1) := by decide +kernel
theorem dX8_worthOf_16 : decode cX8_worthOf 16 = .ok (.aload_n 0, 1) := by decide +kernel
theorem dX8_worthOf_17 : decode cX8_worthOf 17 = .ok (.getfield 78, 3) := by decide +kernel
theorem dX8_worthOf_20 : decode cX8_worthOf 20 = .ok (.iconst 0, 1) := by decide +kernel
theorem dX8_worthOf_21 : decode cX8_worthOf 21 = .ok (.iload_n 3, 1) := by decide +kernel
theorem dX8_worthOf_22 : decode cX8_worthOf 22 = .ok (.iastore, 1) := by decide +kernel
theorem dX8_worthOf_23 : decode cX8_worthOf 23 = .ok (.aload_n 0, 1) := by decide +kernel
theorem dX8_worthOf_24 : decode cX8_worthOf 24 = .ok (.getfield 81, 3) := by decide +kernel
theorem dX8_worthOf_27 : decode cX8_worthOf 27 = .ok (.iconst 0, 1) := by decide +kernel
theorem dX8_worthOf_28 : decode cX8_worthOf 28 = .ok (.iload 4, 2) := by decide +kernel
theorem dX8_worthOf_30 : decode cX8_worthOf 30 = .ok (.iastore, 1) := by decide +kernel
theorem dX8_worthOf_31 : decode cX8_worthOf 31 = .ok (.iload 6, 2) := by decide +kernel
theorem dX8_worthOf_33 : decode cX8_worthOf 33 = .ok (.ifCond .lt 467, 3) := by decide +kernel
theorem dX8_worthOf_36 : decode cX8_worthOf 36 = .ok (.iload 8, 2) := by decide +kernel
theorem dX8_worthOf_38 : decode cX8_worthOf 38 = .ok (.ifCond .eq 195, 3) := by decide +kernel
theorem dX8_worthOf_41 : decode cX8_worthOf 41 = .ok (.iconst 0, 1) := by decide +kernel
theorem dX8_worthOf_42 : decode cX8_worthOf 42 = .ok (.istore 8, 2) := by decide +kernel
theorem dX8_worthOf_44 : decode cX8_worthOf 44 = .ok (.iload 5, 2) := by decide +kernel
theorem dX8_worthOf_46 : decode cX8_worthOf 46 = .ok (.ifCond .eq 41, 3) := by decide +kernel
theorem dX8_worthOf_49 : decode cX8_worthOf 49 = .ok (.aload_n 0, 1) := by decide +kernel
theorem dX8_worthOf_50 : decode cX8_worthOf 50 = .ok (.getfield 81, 3) := by decide +kernel
theorem dX8_worthOf_53 : decode cX8_worthOf 53 = .ok (.iload 6, 2) := by decide +kernel
theorem dX8_worthOf_55 : decode cX8_worthOf 55 = .ok (.iaload, 1) := by decide +kernel
theorem dX8_worthOf_56 : decode cX8_worthOf 56 = .ok (.ifCond .le 31, 3) := by decide +kernel
theorem dX8_worthOf_59 : decode cX8_worthOf 59 = .ok (.aload_n 0, 1) := by decide +kernel
theorem dX8_worthOf_60 : decode cX8_worthOf 60 = .ok (.aload_n 0, 1) := by decide +kernel
theorem dX8_worthOf_61 : decode cX8_worthOf 61 = .ok (.getfield 75, 3) := by decide +kernel
theorem dX8_worthOf_64 : decode cX8_worthOf 64 = .ok (.iload 6, 2) := by decide +kernel
theorem dX8_worthOf_66 : decode cX8_worthOf 66 = .ok (.laload, 1) := by decide +kernel
theorem dX8_worthOf_67 : decode cX8_worthOf 67 = .ok (.aload_n 0, 1) := by decide +kernel
theorem dX8_worthOf_68 : decode cX8_worthOf 68 = .ok (.getfield 78, 3) := by decide +kernel
theorem dX8_worthOf_71 : decode cX8_worthOf 71 = .ok (.iload 6, 2) := by decide +kernel
theorem dX8_worthOf_73 : decode cX8_worthOf 73 = .ok (.iaload, 1) := by decide +kernel
theorem dX8_worthOf_74 : decode cX8_worthOf 74 = .ok (.aload_n 0, 1) := by decide +kernel
theorem dX8_worthOf_75 : decode cX8_worthOf 75 = .ok (.getfield 81, 3) := by decide +kernel
theorem dX8_worthOf_78 : decode cX8_worthOf 78 = .ok (.iload 6, 2) := by decide +kernel
theorem dX8_worthOf_80 : decode cX8_worthOf 80 = .ok (.iaload, 1) := by decide +kernel
theorem dX8_worthOf_81 : decode cX8_worthOf 81 = .ok (.invokevirtual 183, 3) := by decide +kernel
theorem dX8_worthOf_84 : decode cX8_worthOf 84 = .ok (.goto 4, 3) := by decide +kernel
theorem dX8_worthOf_87 : decode cX8_worthOf 87 = .ok (.iconst (-1), 1) := by decide +kernel
theorem dX8_worthOf_88 : decode cX8_worthOf 88 = .ok (.istore 9, 2) := by decide +kernel
theorem dX8_worthOf_90 : decode cX8_worthOf 90 = .ok (.aload_n 0, 1) := by decide +kernel
theorem dX8_worthOf_91 : decode cX8_worthOf 91 = .ok (.getfield 81, 3) := by decide +kernel
theorem dX8_worthOf_94 : decode cX8_worthOf 94 = .ok (.iload 6, 2) := by decide +kernel
theorem dX8_worthOf_96 : decode cX8_worthOf 96 = .ok (.iaload, 1) := by decide +kernel
theorem dX8_worthOf_97 : decode cX8_worthOf 97 = .ok (.ifCond .eq 9, 3) := by decide +kernel
theorem dX8_worthOf_100 : decode cX8_worthOf 100 = .ok (.iload 9, 2) := by decide +kernel
theorem dX8_worthOf_102 : decode cX8_worthOf 102 = .ok (.iconst (-1), 1) := by decide +kernel
theorem dX8_worthOf_103 : decode cX8_worthOf 103 = .ok (.if_icmp .eq 93, 3) := by decide +kernel
theorem dX8_worthOf_106 : decode cX8_worthOf 106 = .ok (.iload 9, 2) := by decide +kernel
theorem dX8_worthOf_108 : decode cX8_worthOf 108 = .ok (.iconst (-1), 1) := by decide +kernel
theorem dX8_worthOf_109 : decode cX8_worthOf 109 = .ok (.if_icmp .ne 7, 3) := by decide +kernel
theorem dX8_worthOf_112 : decode cX8_worthOf 112 = .ok (.iconst 0, 1) := by decide +kernel
theorem dX8_worthOf_113 : decode cX8_worthOf 113 = .ok (.goto 10, 3) := by decide +kernel
theorem dX8_worthOf_116 : decode cX8_worthOf 116 = .ok (.aload_n 0, 1) := by decide +kernel
theorem dX8_worthOf_117 : decode cX8_worthOf 117 = .ok (.getfield 63, 3) := by decide +kernel
theorem dX8_worthOf_120 : decode cX8_worthOf 120 = .ok (.iload 9, 2) := by decide +kernel
theorem dX8_worthOf_122 : decode cX8_worthOf 122 = .ok (.iaload, 1) := by decide +kernel
theorem dX8_worthOf_123 : decode cX8_worthOf 123 = .ok (.istore 7, 2) := by decide +kernel
theorem dX8_worthOf_125 : decode cX8_worthOf 125 = .ok (.aload_n 0, 1) := by decide +kernel
theorem dX8_worthOf_126 : decode cX8_worthOf 126 = .ok (.iload 9, 2) := by decide +kernel
theorem dX8_worthOf_128 : decode cX8_worthOf 128 = .ok (.iconst (-1), 1) := by decide +kernel
theorem dX8_worthOf_129 : decode cX8_worthOf 129 = .ok (.if_icmp .ne 7, 3) := by decide +kernel
theorem dX8_worthOf_132 : decode cX8_worthOf 132 = .ok (.iconst (-1), 1) := by decide +kernel
theorem dX8_worthOf_133 : decode cX8_worthOf 133 = .ok (.goto 10, 3) := by decide +kernel
theorem dX8_worthOf_136 : decode cX8_worthOf 136 = .ok (.aload_n 0, 1) := by decide +kernel
theorem dX8_worthOf_137 : decode cX8_worthOf 137 = .ok (.getfield 66, 3) := by decide +kernel
theorem dX8_worthOf_140 : decode cX8_worthOf 140 = .ok (.iload 9, 2) := by decide +kernel
theorem dX8_worthOf_142 : decode cX8_worthOf 142 = .ok (.iaload, 1) := by decide +kernel
theorem dX8_worthOf_143 : decode cX8_worthOf 143 = .ok (.putfield 187, 3) := by decide +kernel
theorem dX8_worthOf_146 : decode cX8_worthOf 146 = .ok (.aload_n 0, 1) := by decide +kernel
theorem dX8_worthOf_147 : decode cX8_worthOf 147 = .ok (.dup, 1) := by decide +kernel
theorem dX8_worthOf_148 : decode cX8_worthOf 148 = .ok (.getfield 190, 3) := by decide +kernel
theorem dX8_worthOf_151 : decode cX8_worthOf 151 = .ok (.iload 9, 2) := by decide +kernel
theorem dX8_worthOf_153 : decode cX8_worthOf 153 = .ok (.iconst (-1), 1) := by decide +kernel
theorem dX8_worthOf_154 : decode cX8_worthOf 154 = .ok (.if_icmp .ne 7, 3) := by decide +kernel
theorem dX8_worthOf_157 : decode cX8_worthOf 157 = .ok (.iconst 0, 1) := by decide +kernel
theorem dX8_worthOf_158 : decode cX8_worthOf 158 = .ok (.goto 4, 3) := by decide +kernel
theorem dX8_worthOf_161 : decode cX8_worthOf 161 = .ok (.iconst 1, 1) := by decide +kernel
theorem dX8_worthOf_162 : decode cX8_worthOf 162 = .ok (.iadd, 1) := by decide +kernel
theorem dX8_worthOf_163 : decode cX8_worthOf 163 = .ok (.putfield 190, 3) := by decide +kernel
theorem dX8_worthOf_166 : decode cX8_worthOf 166 = .ok (.iload 9, 2) := by decide +kernel
theorem dX8_worthOf_168 : decode cX8_worthOf 168 = .ok (.iconst (-1), 1) := by decide +kernel
theorem dX8_worthOf_169 : decode cX8_worthOf 169 = .ok (.if_icmp .eq 21, 3) := by decide +kernel
theorem dX8_worthOf_172 : decode cX8_worthOf 172 = .ok (.aload_n 0, 1) := by decide +kernel
theorem dX8_worthOf_173 : decode cX8_worthOf 173 = .ok (.getfield 69, 3) := by decide +kernel
theorem dX8_worthOf_176 : decode cX8_worthOf 176 = .ok (.iload 9, 2) := by decide +kernel
theorem dX8_worthOf_178 : decode cX8_worthOf 178 = .ok (.aload_n 0, 1) := by decide +kernel
theorem dX8_worthOf_179 : decode cX8_worthOf 179 = .ok (.dup, 1) := by decide +kernel
theorem dX8_worthOf_180 : decode cX8_worthOf 180 = .ok (.getfield 180, 3) := by decide +kernel
theorem dX8_worthOf_183 : decode cX8_worthOf 183 = .ok (.iconst 1, 1) := by decide +kernel
theorem dX8_worthOf_184 : decode cX8_worthOf 184 = .ok (.iadd, 1) := by decide +kernel
theorem dX8_worthOf_185 : decode cX8_worthOf 185 = .ok (.dup_x1, 1) := by decide +kernel
theorem dX8_worthOf_186 : decode cX8_worthOf 186 = .ok (.putfield 180, 3) := by decide +kernel
theorem dX8_worthOf_189 : decode cX8_worthOf 189 = .ok (.iastore, 1) := by decide +kernel
theorem dX8_worthOf_190 : decode cX8_worthOf 190 = .ok (.iinc 6 (-1), 3) := by decide +kernel
theorem dX8_worthOf_193 : decode cX8_worthOf 193 = .ok (.goto (-162), 3) := by decide +kernel
theorem dX8_worthOf_196 : decode cX8_worthOf 196 = .ok (.aload_n 0, 1) := by decide +kernel
theorem dX8_worthOf_197 : decode cX8_worthOf 197 = .ok (.dup, 1) := by decide +kernel
theorem dX8_worthOf_198 : decode cX8_worthOf 198 = .ok (.getfield 193, 3) := by decide +kernel
theorem dX8_worthOf_201 : decode cX8_worthOf 201 = .ok (.iconst 1, 1) := by decide +kernel
theorem dX8_worthOf_202 : decode cX8_worthOf 202 = .ok (.iadd, 1) := by decide +kernel
theorem dX8_worthOf_203 : decode cX8_worthOf 203 = .ok (.putfield 193, 3) := by decide +kernel
theorem dX8_worthOf_206 : decode cX8_worthOf 206 = .ok (.aload_n 0, 1) := by decide +kernel
theorem dX8_worthOf_207 : decode cX8_worthOf 207 = .ok (.getfield 84, 3) := by decide +kernel
theorem dX8_worthOf_210 : decode cX8_worthOf 210 = .ok (.iload 6, 2) := by decide +kernel
theorem dX8_worthOf_212 : decode cX8_worthOf 212 = .ok (.iconst 0, 1) := by decide +kernel
theorem dX8_worthOf_213 : decode cX8_worthOf 213 = .ok (.iastore, 1) := by decide +kernel
theorem dX8_worthOf_214 : decode cX8_worthOf 214 = .ok (.aload_n 0, 1) := by decide +kernel
theorem dX8_worthOf_215 : decode cX8_worthOf 215 = .ok (.getfield 87, 3) := by decide +kernel
theorem dX8_worthOf_218 : decode cX8_worthOf 218 = .ok (.iload 6, 2) := by decide +kernel
theorem dX8_worthOf_220 : decode cX8_worthOf 220 = .ok (.iconst 0, 1) := by decide +kernel
theorem dX8_worthOf_221 : decode cX8_worthOf 221 = .ok (.iastore, 1) := by decide +kernel
theorem dX8_worthOf_222 : decode cX8_worthOf 222 = .ok (.aload_n 0, 1) := by decide +kernel
theorem dX8_worthOf_223 : decode cX8_worthOf 223 = .ok (.getfield 90, 3) := by decide +kernel
theorem dX8_worthOf_226 : decode cX8_worthOf 226 = .ok (.iload 6, 2) := by decide +kernel
theorem dX8_worthOf_228 : decode cX8_worthOf 228 = .ok (.iconst (-1), 1) := by decide +kernel
theorem dX8_worthOf_229 : decode cX8_worthOf 229 = .ok (.iastore, 1) := by decide +kernel
theorem dX8_worthOf_230 : decode cX8_worthOf 230 = .ok (.iconst (-1), 1) := by decide +kernel
theorem dX8_worthOf_231 : decode cX8_worthOf 231 = .ok (.istore 7, 2) := by decide +kernel
theorem dX8_worthOf_233 : decode cX8_worthOf 233 = .ok (.iload 7, 2) := by decide +kernel
theorem dX8_worthOf_235 : decode cX8_worthOf 235 = .ok (.iconst (-1), 1) := by decide +kernel
theorem dX8_worthOf_236 : decode cX8_worthOf 236 = .ok (.if_icmp .eq 66, 3) := by decide +kernel
theorem dX8_worthOf_239 : decode cX8_worthOf 239 = .ok (.aload_n 0, 1) := by decide +kernel
theorem dX8_worthOf_240 : decode cX8_worthOf 240 = .ok (.getfield 93, 3) := by decide +kernel
theorem dX8_worthOf_243 : decode cX8_worthOf 243 = .ok (.iload 6, 2) := by decide +kernel
theorem dX8_worthOf_245 : decode cX8_worthOf 245 = .ok (.iaload, 1) := by decide +kernel
theorem dX8_worthOf_246 : decode cX8_worthOf 246 = .ok (.iload 7, 2) := by decide +kernel
theorem dX8_worthOf_248 : decode cX8_worthOf 248 = .ok (.iadd, 1) := by decide +kernel
theorem dX8_worthOf_249 : decode cX8_worthOf 249 = .ok (.istore 9, 2) := by decide +kernel
theorem dX8_worthOf_251 : decode cX8_worthOf 251 = .ok (.aload_n 0, 1) := by decide +kernel
theorem dX8_worthOf_252 : decode cX8_worthOf 252 = .ok (.getfield 90, 3) := by decide +kernel
theorem dX8_worthOf_255 : decode cX8_worthOf 255 = .ok (.iload 6, 2) := by decide +kernel
theorem dX8_worthOf_257 : decode cX8_worthOf 257 = .ok (.iaload, 1) := by decide +kernel
theorem dX8_worthOf_258 : decode cX8_worthOf 258 = .ok (.iconst (-1), 1) := by decide +kernel
theorem dX8_worthOf_259 : decode cX8_worthOf 259 = .ok (.if_icmp .eq 15, 3) := by decide +kernel
theorem dX8_worthOf_262 : decode cX8_worthOf 262 = .ok (.iload 9, 2) := by decide +kernel
theorem dX8_worthOf_264 : decode cX8_worthOf 264 = .ok (.aload_n 0, 1) := by decide +kernel
theorem dX8_worthOf_265 : decode cX8_worthOf 265 = .ok (.getfield 87, 3) := by decide +kernel
theorem dX8_worthOf_268 : decode cX8_worthOf 268 = .ok (.iload 6, 2) := by decide +kernel
theorem dX8_worthOf_270 : decode cX8_worthOf 270 = .ok (.iaload, 1) := by decide +kernel
theorem dX8_worthOf_271 : decode cX8_worthOf 271 = .ok (.if_icmp .le 28, 3) := by decide +kernel
theorem dX8_worthOf_274 : decode cX8_worthOf 274 = .ok (.aload_n 0, 1) := by decide +kernel
theorem dX8_worthOf_275 : decode cX8_worthOf 275 = .ok (.getfield 87, 3) := by decide +kernel
theorem dX8_worthOf_278 : decode cX8_worthOf 278 = .ok (.iload 6, 2) := by decide +kernel
theorem dX8_worthOf_280 : decode cX8_worthOf 280 = .ok (.iload 9, 2) := by decide +kernel
theorem dX8_worthOf_282 : decode cX8_worthOf 282 = .ok (.iastore, 1) := by decide +kernel
theorem dX8_worthOf_283 : decode cX8_worthOf 283 = .ok (.aload_n 0, 1) := by decide +kernel
theorem dX8_worthOf_284 : decode cX8_worthOf 284 = .ok (.getfield 90, 3) := by decide +kernel
theorem dX8_worthOf_287 : decode cX8_worthOf 287 = .ok (.iload 6, 2) := by decide +kernel
theorem dX8_worthOf_289 : decode cX8_worthOf 289 = .ok (.aload_n 0, 1) := by decide +kernel
theorem dX8_worthOf_290 : decode cX8_worthOf 290 = .ok (.getfield 84, 3) := by decide +kernel
theorem dX8_worthOf_293 : decode cX8_worthOf 293 = .ok (.iload 6, 2) := by decide +kernel
theorem dX8_worthOf_295 : decode cX8_worthOf 295 = .ok (.iaload, 1) := by decide +kernel
theorem dX8_worthOf_296 : decode cX8_worthOf 296 = .ok (.iconst 1, 1) := by decide +kernel
theorem dX8_worthOf_297 : decode cX8_worthOf 297 = .ok (.isub, 1) := by decide +kernel
theorem dX8_worthOf_298 : decode cX8_worthOf 298 = .ok (.iastore, 1) := by decide +kernel
theorem dX8_worthOf_299 : decode cX8_worthOf 299 = .ok (.iconst (-1), 1) := by decide +kernel
theorem dX8_worthOf_300 : decode cX8_worthOf 300 = .ok (.istore 7, 2) := by decide +kernel
theorem dX8_worthOf_302 : decode cX8_worthOf 302 = .ok (.aload_n 0, 1) := by decide +kernel
theorem dX8_worthOf_303 : decode cX8_worthOf 303 = .ok (.getfield 84, 3) := by decide +kernel
theorem dX8_worthOf_306 : decode cX8_worthOf 306 = .ok (.iload 6, 2) := by decide +kernel
theorem dX8_worthOf_308 : decode cX8_worthOf 308 = .ok (.iaload, 1) := by decide +kernel
theorem dX8_worthOf_309 : decode cX8_worthOf 309 = .ok (.iconst 4, 1) := by decide +kernel
theorem dX8_worthOf_310 : decode cX8_worthOf 310 = .ok (.if_icmp .ge 38, 3) := by decide +kernel
theorem dX8_worthOf_313 : decode cX8_worthOf 313 = .ok (.aload_n 0, 1) := by decide +kernel
theorem dX8_worthOf_314 : decode cX8_worthOf 314 = .ok (.aload_n 0, 1) := by decide +kernel
theorem dX8_worthOf_315 : decode cX8_worthOf 315 = .ok (.getfield 75, 3) := by decide +kernel
theorem dX8_worthOf_318 : decode cX8_worthOf 318 = .ok (.iload 6, 2) := by decide +kernel
theorem dX8_worthOf_320 : decode cX8_worthOf 320 = .ok (.laload, 1) := by decide +kernel
theorem dX8_worthOf_321 : decode cX8_worthOf 321 = .ok (.aload_n 0, 1) := by decide +kernel
theorem dX8_worthOf_322 : decode cX8_worthOf 322 = .ok (.getfield 84, 3) := by decide +kernel
theorem dX8_worthOf_325 : decode cX8_worthOf 325 = .ok (.iload 6, 2) := by decide +kernel
theorem dX8_worthOf_327 : decode cX8_worthOf 327 = .ok (.iaload, 1) := by decide +kernel
theorem dX8_worthOf_328 : decode cX8_worthOf 328 = .ok (.invokevirtual 144, 3) := by decide +kernel
theorem dX8_worthOf_331 : decode cX8_worthOf 331 = .ok (.ifCond .ne 17, 3) := by decide +kernel
theorem dX8_worthOf_334 : decode cX8_worthOf 334 = .ok (.aload_n 0, 1) := by decide +kernel
theorem dX8_worthOf_335 : decode cX8_worthOf 335 = .ok (.getfield 84, 3) := by decide +kernel
theorem dX8_worthOf_338 : decode cX8_worthOf 338 = .ok (.iload 6, 2) := by decide +kernel
theorem dX8_worthOf_340 : decode cX8_worthOf 340 = .ok (.dup2, 1) := by decide +kernel
theorem dX8_worthOf_341 : decode cX8_worthOf 341 = .ok (.iaload, 1) := by decide +kernel
theorem dX8_worthOf_342 : decode cX8_worthOf 342 = .ok (.iconst 1, 1) := by decide +kernel
theorem dX8_worthOf_343 : decode cX8_worthOf 343 = .ok (.iadd, 1) := by decide +kernel
theorem dX8_worthOf_344 : decode cX8_worthOf 344 = .ok (.iastore, 1) := by decide +kernel
theorem dX8_worthOf_345 : decode cX8_worthOf 345 = .ok (.goto (-43), 3) := by decide +kernel
theorem dX8_worthOf_348 : decode cX8_worthOf 348 = .ok (.aload_n 0, 1) := by decide +kernel
theorem dX8_worthOf_349 : decode cX8_worthOf 349 = .ok (.getfield 84, 3) := by decide +kernel
theorem dX8_worthOf_352 : decode cX8_worthOf 352 = .ok (.iload 6, 2) := by decide +kernel
theorem dX8_worthOf_354 : decode cX8_worthOf 354 = .ok (.iaload, 1) := by decide +kernel
theorem dX8_worthOf_355 : decode cX8_worthOf 355 = .ok (.iconst 4, 1) := by decide +kernel
theorem dX8_worthOf_356 : decode cX8_worthOf 356 = .ok (.if_icmp .ge 107, 3) := by decide +kernel
theorem dX8_worthOf_359 : decode cX8_worthOf 359 = .ok (.aload_n 0, 1) := by decide +kernel
theorem dX8_worthOf_360 : decode cX8_worthOf 360 = .ok (.aload_n 0, 1) := by decide +kernel
theorem dX8_worthOf_361 : decode cX8_worthOf 361 = .ok (.getfield 75, 3) := by decide +kernel
theorem dX8_worthOf_364 : decode cX8_worthOf 364 = .ok (.iload 6, 2) := by decide +kernel
theorem dX8_worthOf_366 : decode cX8_worthOf 366 = .ok (.laload, 1) := by decide +kernel
theorem dX8_worthOf_367 : decode cX8_worthOf 367 = .ok (.aload_n 0, 1) := by decide +kernel
theorem dX8_worthOf_368 : decode cX8_worthOf 368 = .ok (.getfield 84, 3) := by decide +kernel
theorem dX8_worthOf_371 : decode cX8_worthOf 371 = .ok (.iload 6, 2) := by decide +kernel
theorem dX8_worthOf_373 : decode cX8_worthOf 373 = .ok (.iaload, 1) := by decide +kernel
theorem dX8_worthOf_374 : decode cX8_worthOf 374 = .ok (.invokevirtual 140, 3) := by decide +kernel
theorem dX8_worthOf_377 : decode cX8_worthOf 377 = .ok (.lstore 9, 2) := by decide +kernel
theorem dX8_worthOf_379 : decode cX8_worthOf 379 = .ok (.aload_n 0, 1) := by decide +kernel
theorem dX8_worthOf_380 : decode cX8_worthOf 380 = .ok (.getfield 93, 3) := by decide +kernel
theorem dX8_worthOf_383 : decode cX8_worthOf 383 = .ok (.iload 6, 2) := by decide +kernel
theorem dX8_worthOf_385 : decode cX8_worthOf 385 = .ok (.aload_n 0, 1) := by decide +kernel
theorem dX8_worthOf_386 : decode cX8_worthOf 386 = .ok (.getfield 113, 3) := by decide +kernel
theorem dX8_worthOf_389 : decode cX8_worthOf 389 = .ok (.iastore, 1) := by decide +kernel
theorem dX8_worthOf_390 : decode cX8_worthOf 390 = .ok (.aload_n 0, 1) := by decide +kernel
theorem dX8_worthOf_391 : decode cX8_worthOf 391 = .ok (.getfield 84, 3) := by decide +kernel
theorem dX8_worthOf_394 : decode cX8_worthOf 394 = .ok (.iload 6, 2) := by decide +kernel
theorem dX8_worthOf_396 : decode cX8_worthOf 396 = .ok (.dup2, 1) := by decide +kernel
theorem dX8_worthOf_397 : decode cX8_worthOf 397 = .ok (.iaload, 1) := by decide +kernel
theorem dX8_worthOf_398 : decode cX8_worthOf 398 = .ok (.iconst 1, 1) := by decide +kernel
theorem dX8_worthOf_399 : decode cX8_worthOf 399 = .ok (.iadd, 1) := by decide +kernel
theorem dX8_worthOf_400 : decode cX8_worthOf 400 = .ok (.iastore, 1) := by decide +kernel
theorem dX8_worthOf_401 : decode cX8_worthOf 401 = .ok (.aload_n 0, 1) := by decide +kernel
theorem dX8_worthOf_402 : decode cX8_worthOf 402 = .ok (.getfield 75, 3) := by decide +kernel
theorem dX8_worthOf_405 : decode cX8_worthOf 405 = .ok (.iload 6, 2) := by decide +kernel
theorem dX8_worthOf_407 : decode cX8_worthOf 407 = .ok (.iconst 1, 1) := by decide +kernel
theorem dX8_worthOf_408 : decode cX8_worthOf 408 = .ok (.iadd, 1) := by decide +kernel
theorem dX8_worthOf_409 : decode cX8_worthOf 409 = .ok (.aload_n 0, 1) := by decide +kernel
theorem dX8_worthOf_410 : decode cX8_worthOf 410 = .ok (.lload 9, 2) := by decide +kernel
theorem dX8_worthOf_412 : decode cX8_worthOf 412 = .ok (.aload_n 0, 1) := by decide +kernel
theorem dX8_worthOf_413 : decode cX8_worthOf 413 = .ok (.getfield 78, 3) := by decide +kernel
theorem dX8_worthOf_416 : decode cX8_worthOf 416 = .ok (.iload 6, 2) := by decide +kernel
theorem dX8_worthOf_418 : decode cX8_worthOf 418 = .ok (.iaload, 1) := by decide +kernel
theorem dX8_worthOf_419 : decode cX8_worthOf 419 = .ok (.invokevirtual 151, 3) := by decide +kernel
theorem dX8_worthOf_422 : decode cX8_worthOf 422 = .ok (.lastore, 1) := by decide +kernel
theorem dX8_worthOf_423 : decode cX8_worthOf 423 = .ok (.aload_n 0, 1) := by decide +kernel
theorem dX8_worthOf_424 : decode cX8_worthOf 424 = .ok (.getfield 78, 3) := by decide +kernel
theorem dX8_worthOf_427 : decode cX8_worthOf 427 = .ok (.iload 6, 2) := by decide +kernel
theorem dX8_worthOf_429 : decode cX8_worthOf 429 = .ok (.iconst 1, 1) := by decide +kernel
theorem dX8_worthOf_430 : decode cX8_worthOf 430 = .ok (.iadd, 1) := by decide +kernel
theorem dX8_worthOf_431 : decode cX8_worthOf 431 = .ok (.aload_n 0, 1) := by decide +kernel
theorem dX8_worthOf_432 : decode cX8_worthOf 432 = .ok (.getfield 135, 3) := by decide +kernel
theorem dX8_worthOf_435 : decode cX8_worthOf 435 = .ok (.iastore, 1) := by decide +kernel
theorem dX8_worthOf_436 : decode cX8_worthOf 436 = .ok (.aload_n 0, 1) := by decide +kernel
theorem dX8_worthOf_437 : decode cX8_worthOf 437 = .ok (.getfield 81, 3) := by decide +kernel
theorem dX8_worthOf_440 : decode cX8_worthOf 440 = .ok (.iload 6, 2) := by decide +kernel
theorem dX8_worthOf_442 : decode cX8_worthOf 442 = .ok (.iconst 1, 1) := by decide +kernel
theorem dX8_worthOf_443 : decode cX8_worthOf 443 = .ok (.iadd, 1) := by decide +kernel
theorem dX8_worthOf_444 : decode cX8_worthOf 444 = .ok (.aload_n 0, 1) := by decide +kernel
theorem dX8_worthOf_445 : decode cX8_worthOf 445 = .ok (.getfield 81, 3) := by decide +kernel
theorem dX8_worthOf_448 : decode cX8_worthOf 448 = .ok (.iload 6, 2) := by decide +kernel
theorem dX8_worthOf_450 : decode cX8_worthOf 450 = .ok (.iaload, 1) := by decide +kernel
theorem dX8_worthOf_451 : decode cX8_worthOf 451 = .ok (.iconst 1, 1) := by decide +kernel
theorem dX8_worthOf_452 : decode cX8_worthOf 452 = .ok (.isub, 1) := by decide +kernel
theorem dX8_worthOf_453 : decode cX8_worthOf 453 = .ok (.iastore, 1) := by decide +kernel
theorem dX8_worthOf_454 : decode cX8_worthOf 454 = .ok (.iinc 6 1, 3) := by decide +kernel
theorem dX8_worthOf_457 : decode cX8_worthOf 457 = .ok (.iconst 1, 1) := by decide +kernel
theorem dX8_worthOf_458 : decode cX8_worthOf 458 = .ok (.istore 8, 2) := by decide +kernel
theorem dX8_worthOf_460 : decode cX8_worthOf 460 = .ok (.goto (-429), 3) := by decide +kernel
theorem dX8_worthOf_463 : decode cX8_worthOf 463 = .ok (.iload 5, 2) := by decide +kernel
theorem dX8_worthOf_465 : decode cX8_worthOf 465 = .ok (.ifCond .eq 9, 3) := by decide +kernel
theorem dX8_worthOf_468 : decode cX8_worthOf 468 = .ok (.aload_n 0, 1) := by decide +kernel
theorem dX8_worthOf_469 : decode cX8_worthOf 469 = .ok (.iload 6, 2) := by decide +kernel
theorem dX8_worthOf_471 : decode cX8_worthOf 471 = .ok (.invokevirtual 196, 3) := by decide +kernel
theorem dX8_worthOf_474 : decode cX8_worthOf 474 = .ok (.aload_n 0, 1) := by decide +kernel
theorem dX8_worthOf_475 : decode cX8_worthOf 475 = .ok (.getfield 87, 3) := by decide +kernel
theorem dX8_worthOf_478 : decode cX8_worthOf 478 = .ok (.iload 6, 2) := by decide +kernel
theorem dX8_worthOf_480 : decode cX8_worthOf 480 = .ok (.iaload, 1) := by decide +kernel
theorem dX8_worthOf_481 : decode cX8_worthOf 481 = .ok (.istore 7, 2) := by decide +kernel
theorem dX8_worthOf_483 : decode cX8_worthOf 483 = .ok (.aload_n 0, 1) := by decide +kernel
theorem dX8_worthOf_484 : decode cX8_worthOf 484 = .ok (.aload_n 0, 1) := by decide +kernel
theorem dX8_worthOf_485 : decode cX8_worthOf 485 = .ok (.getfield 90, 3) := by decide +kernel
theorem dX8_worthOf_488 : decode cX8_worthOf 488 = .ok (.iload 6, 2) := by decide +kernel
theorem dX8_worthOf_490 : decode cX8_worthOf 490 = .ok (.iaload, 1) := by decide +kernel
theorem dX8_worthOf_491 : decode cX8_worthOf 491 = .ok (.putfield 187, 3) := by decide +kernel
theorem dX8_worthOf_494 : decode cX8_worthOf 494 = .ok (.iinc 6 (-1), 3) := by decide +kernel
theorem dX8_worthOf_497 : decode cX8_worthOf 497 = .ok (.goto (-466), 3) := by decide +kernel
theorem dX8_worthOf_500 : decode cX8_worthOf 500 = .ok (.iload 7, 2) := by decide +kernel
theorem dX8_worthOf_502 : decode cX8_worthOf 502 = .ok (.ireturn, 1) := by decide +kernel
theorem dX8_noHint_0 : decode cX8_noHint 0 = .ok (.aload_n 0, 1) := by decide +kernel
theorem dX8_noHint_1 : decode cX8_noHint 1 = .ok (.iload_n 1, 1) := by decide +kernel
theorem dX8_noHint_2 : decode cX8_noHint 2 = .ok (.invokevirtual 154, 3) := by decide +kernel
theorem dX8_noHint_5 : decode cX8_noHint 5 = .ok (.ifCond .ne 61, 3) := by decide +kernel
theorem dX8_noHint_8 : decode cX8_noHint 8 = .ok (.aload_n 0, 1) := by decide +kernel
theorem dX8_noHint_9 : decode cX8_noHint 9 = .ok (.iload_n 2, 1) := by decide +kernel
theorem dX8_noHint_10 : decode cX8_noHint 10 = .ok (.iconst 1, 1) := by decide +kernel
theorem dX8_noHint_11 : decode cX8_noHint 11 = .ok (.if_icmp .lt 12, 3) := by decide +kernel
theorem dX8_noHint_14 : decode cX8_noHint 14 = .ok (.iload_n 2, 1) := by decide +kernel
theorem dX8_noHint_15 : decode cX8_noHint 15 = .ok (.iconst 4, 1) := by decide +kernel
theorem dX8_noHint_16 : decode cX8_noHint 16 = .ok (.if_icmp .gt 7, 3) := by decide +kernel
theorem dX8_noHint_19 : decode cX8_noHint 19 = .ok (.iconst 1, 1) := by decide +kernel
theorem dX8_noHint_20 : decode cX8_noHint 20 = .ok (.goto 4, 3) := by decide +kernel
theorem dX8_noHint_23 : decode cX8_noHint 23 = .ok (.iconst 0, 1) := by decide +kernel
theorem dX8_noHint_24 : decode cX8_noHint 24 = .ok (.iconst 2, 1) := by decide +kernel
theorem dX8_noHint_25 : decode cX8_noHint 25 = .ok (.invokevirtual 109, 3) := by decide +kernel
theorem dX8_noHint_28 : decode cX8_noHint 28 = .ok (.ifCond .ne 38, 3) := by decide +kernel
theorem dX8_noHint_31 : decode cX8_noHint 31 = .ok (.aload_n 0, 1) := by decide +kernel
theorem dX8_noHint_32 : decode cX8_noHint 32 = .ok (.aload_n 0, 1) := by decide +kernel
theorem dX8_noHint_33 : decode cX8_noHint 33 = .ok (.getfield 38, 3) := by decide +kernel
theorem dX8_noHint_36 : decode cX8_noHint 36 = .ok (.iload_n 1, 1) := by decide +kernel
theorem dX8_noHint_37 : decode cX8_noHint 37 = .ok (.baload, 1) := by decide +kernel
theorem dX8_noHint_38 : decode cX8_noHint 38 = .ok (.ifCond .ne 20, 3) := by decide +kernel
theorem dX8_noHint_41 : decode cX8_noHint 41 = .ok (.aload_n 0, 1) := by decide +kernel
theorem dX8_noHint_42 : decode cX8_noHint 42 = .ok (.aload_n 0, 1) := by decide +kernel
theorem dX8_noHint_43 : decode cX8_noHint 43 = .ok (.getfield 13, 3) := by decide +kernel
theorem dX8_noHint_46 : decode cX8_noHint 46 = .ok (.iload_n 1, 1) := by decide +kernel
theorem dX8_noHint_47 : decode cX8_noHint 47 = .ok (.laload, 1) := by decide +kernel
theorem dX8_noHint_48 : decode cX8_noHint 48 = .ok (.invokevirtual 165, 3) := by decide +kernel
theorem dX8_noHint_51 : decode cX8_noHint 51 = .ok (.ifCond .ne 7, 3) := by decide +kernel
theorem dX8_noHint_54 : decode cX8_noHint 54 = .ok (.iconst 1, 1) := by decide +kernel
theorem dX8_noHint_55 : decode cX8_noHint 55 = .ok (.goto 4, 3) := by decide +kernel
theorem dX8_noHint_58 : decode cX8_noHint 58 = .ok (.iconst 0, 1) := by decide +kernel
theorem dX8_noHint_59 : decode cX8_noHint 59 = .ok (.iconst 3, 1) := by decide +kernel
theorem dX8_noHint_60 : decode cX8_noHint 60 = .ok (.invokevirtual 109, 3) := by decide +kernel
theorem dX8_noHint_63 : decode cX8_noHint 63 = .ok (.ifCond .eq 7, 3) := by decide +kernel
theorem dX8_noHint_66 : decode cX8_noHint 66 = .ok (.iconst 1, 1) := by decide +kernel
theorem dX8_noHint_67 : decode cX8_noHint 67 = .ok (.goto 4, 3) := by decide +kernel
theorem dX8_noHint_70 : decode cX8_noHint 70 = .ok (.iconst 0, 1) := by decide +kernel
theorem dX8_noHint_71 : decode cX8_noHint 71 = .ok (.ireturn, 1) := by decide +kernel
theorem dX8_priceOf_0 : decode cX8_priceOf 0 = .ok (.aload_n 0, 1) := by decide +kernel
theorem dX8_priceOf_1 : decode cX8_priceOf 1 = .ok (.getfield 54, 3) := by decide +kernel
theorem dX8_priceOf_4 : decode cX8_priceOf 4 = .ok (.invokevirtual 199, 3) := by decide +kernel
theorem dX8_priceOf_7 : decode cX8_priceOf 7 = .ok (.checkcast 200, 3) := by decide +kernel
theorem dX8_priceOf_10 : decode cX8_priceOf 10 = .ok (.astore_n 3, 1) := by decide +kernel
theorem dX8_priceOf_11 : decode cX8_priceOf 11 = .ok (.aload_n 0, 1) := by decide +kernel
theorem dX8_priceOf_12 : decode cX8_priceOf 12 = .ok (.getfield 57, 3) := by decide +kernel
theorem dX8_priceOf_15 : decode cX8_priceOf 15 = .ok (.invokevirtual 204, 3) := by decide +kernel
theorem dX8_priceOf_18 : decode cX8_priceOf 18 = .ok (.checkcast 205, 3) := by decide +kernel
theorem dX8_priceOf_21 : decode cX8_priceOf 21 = .ok (.astore 4, 2) := by decide +kernel
theorem dX8_priceOf_23 : decode cX8_priceOf 23 = .ok (.aload_n 0, 1) := by decide +kernel
theorem dX8_priceOf_24 : decode cX8_priceOf 24 = .ok (.getfield 60, 3) := by decide +kernel
theorem dX8_priceOf_27 : decode cX8_priceOf 27 = .ok (.invokevirtual 204, 3) := by decide +kernel
theorem dX8_priceOf_30 : decode cX8_priceOf 30 = .ok (.checkcast 205, 3) := by decide +kernel
theorem dX8_priceOf_33 : decode cX8_priceOf 33 = .ok (.astore 5, 2) := by decide +kernel
theorem dX8_priceOf_35 : decode cX8_priceOf 35 = .ok (.aload_n 0, 1) := by decide +kernel
theorem dX8_priceOf_36 : decode cX8_priceOf 36 = .ok (.getfield 63, 3) := by decide +kernel
theorem dX8_priceOf_39 : decode cX8_priceOf 39 = .ok (.invokevirtual 204, 3) := by decide +kernel
theorem dX8_priceOf_42 : decode cX8_priceOf 42 = .ok (.checkcast 205, 3) := by decide +kernel
theorem dX8_priceOf_45 : decode cX8_priceOf 45 = .ok (.astore 6, 2) := by decide +kernel
theorem dX8_priceOf_47 : decode cX8_priceOf 47 = .ok (.aload_n 0, 1) := by decide +kernel
theorem dX8_priceOf_48 : decode cX8_priceOf 48 = .ok (.getfield 66, 3) := by decide +kernel
theorem dX8_priceOf_51 : decode cX8_priceOf 51 = .ok (.invokevirtual 204, 3) := by decide +kernel
theorem dX8_priceOf_54 : decode cX8_priceOf 54 = .ok (.checkcast 205, 3) := by decide +kernel
theorem dX8_priceOf_57 : decode cX8_priceOf 57 = .ok (.astore 7, 2) := by decide +kernel
theorem dX8_priceOf_59 : decode cX8_priceOf 59 = .ok (.aload_n 0, 1) := by decide +kernel
theorem dX8_priceOf_60 : decode cX8_priceOf 60 = .ok (.getfield 69, 3) := by decide +kernel
theorem dX8_priceOf_63 : decode cX8_priceOf 63 = .ok (.invokevirtual 204, 3) := by decide +kernel
theorem dX8_priceOf_66 : decode cX8_priceOf 66 = .ok (.checkcast 205, 3) := by decide +kernel
theorem dX8_priceOf_69 : decode cX8_priceOf 69 = .ok (.astore 8, 2) := by decide +kernel
theorem dX8_priceOf_71 : decode cX8_priceOf 71 = .ok (.aload_n 0, 1) := by decide +kernel
theorem dX8_priceOf_72 : decode cX8_priceOf 72 = .ok (.getfield 72, 3) := by decide +kernel
theorem dX8_priceOf_75 : decode cX8_priceOf 75 = .ok (.invokevirtual 204, 3) := by decide +kernel
theorem dX8_priceOf_78 : decode cX8_priceOf 78 = .ok (.checkcast 205, 3) := by decide +kernel
theorem dX8_priceOf_81 : decode cX8_priceOf 81 = .ok (.astore 9, 2) := by decide +kernel
theorem dX8_priceOf_83 : decode cX8_priceOf 83 = .ok (.aload_n 0, 1) := by decide +kernel
theorem dX8_priceOf_84 : decode cX8_priceOf 84 = .ok (.getfield 169, 3) := by decide +kernel
theorem dX8_priceOf_87 : decode cX8_priceOf 87 = .ok (.istore 10, 2) := by decide +kernel
theorem dX8_priceOf_89 : decode cX8_priceOf 89 = .ok (.aload_n 0, 1) := by decide +kernel
theorem dX8_priceOf_90 : decode cX8_priceOf 90 = .ok (.getfield 180, 3) := by decide +kernel
theorem dX8_priceOf_93 : decode cX8_priceOf 93 = .ok (.istore 11, 2) := by decide +kernel
theorem dX8_priceOf_95 : decode cX8_priceOf 95 = .ok (.aload_n 0, 1) := by decide +kernel
theorem dX8_priceOf_96 : decode cX8_priceOf 96 = .ok (.iconst 0, 1) := by decide +kernel
theorem dX8_priceOf_97 : decode cX8_priceOf 97 = .ok (.putfield 193, 3) := by decide +kernel
theorem dX8_priceOf_100 : decode cX8_priceOf 100 = .ok (.aload_n 0, 1) := by decide +kernel
theorem dX8_priceOf_101 : decode cX8_priceOf 101 = .ok (.aload_n 0, 1) := by decide +kernel
theorem dX8_priceOf_102 : decode cX8_priceOf 102 = .ok (.getfield 13, 3) := by decide +kernel
theorem dX8_priceOf_105 : decode cX8_priceOf 105 = .ok (.iload_n 1, 1) := by decide +kernel
theorem dX8_priceOf_106 : decode cX8_priceOf 106 = .ok (.laload, 1) := by decide +kernel
theorem dX8_priceOf_107 : decode cX8_priceOf 107 = .ok (.aload_n 0, 1) := by decide +kernel
theorem dX8_priceOf_108 : decode cX8_priceOf 108 = .ok (.getfield 17, 3) := by decide +kernel
theorem dX8_priceOf_111 : decode cX8_priceOf 111 = .ok (.iload_n 1, 1) := by decide +kernel
theorem dX8_priceOf_112 : decode cX8_priceOf 112 = .ok (.iaload, 1) := by decide +kernel
theorem dX8_priceOf_113 : decode cX8_priceOf 113 = .ok (.iload_n 2, 1) := by decide +kernel
theorem dX8_priceOf_114 : decode cX8_priceOf 114 = .ok (.iconst 1, 1) := by decide +kernel
theorem dX8_priceOf_115 : decode cX8_priceOf 115 = .ok (.invokevirtual 206, 3) := by decide +kernel
theorem dX8_priceOf_118 : decode cX8_priceOf 118 = .ok (.istore 12, 2) := by decide +kernel
theorem dX8_priceOf_120 : decode cX8_priceOf 120 = .ok (.iconst 0, 1) := by decide +kernel
theorem dX8_priceOf_121 : decode cX8_priceOf 121 = .ok (.istore 13, 2) := by decide +kernel
theorem dX8_priceOf_123 : decode cX8_priceOf 123 = .ok (.iload 13, 2) := by decide +kernel
theorem dX8_priceOf_125 : decode cX8_priceOf 125 = .ok (.bipush 64, 2) := by decide +kernel
theorem dX8_priceOf_127 : decode cX8_priceOf 127 = .ok (.if_icmp .ge 92, 3) := by decide +kernel
theorem dX8_priceOf_130 : decode cX8_priceOf 130 = .ok (.aload_n 0, 1) := by decide +kernel
theorem dX8_priceOf_131 : decode cX8_priceOf 131 = .ok (.getfield 54, 3) := by decide +kernel
theorem dX8_priceOf_134 : decode cX8_priceOf 134 = .ok (.iload 13, 2) := by decide +kernel
theorem dX8_priceOf_136 : decode cX8_priceOf 136 = .ok (.aload_n 3, 1) := by decide +kernel
theorem dX8_priceOf_137 : decode cX8_priceOf 137 = .ok (.iload 13, 2) := by decide +kernel
theorem dX8_priceOf_139 : decode cX8_priceOf 139 = .ok (.laload, 1) := by decide +kernel
theorem dX8_priceOf_140 : decode cX8_priceOf 140 = .ok (.lastore, 1) := by decide +kernel
theorem dX8_priceOf_141 : decode cX8_priceOf 141 = .ok (.aload_n 0, 1) := by decide +kernel
theorem dX8_priceOf_142 : decode cX8_priceOf 142 = .ok (.getfield 57, 3) := by decide +kernel
theorem dX8_priceOf_145 : decode cX8_priceOf 145 = .ok (.iload 13, 2) := by decide +kernel
theorem dX8_priceOf_147 : decode cX8_priceOf 147 = .ok (.aload 4, 2) := by decide +kernel
theorem dX8_priceOf_149 : decode cX8_priceOf 149 = .ok (.iload 13, 2) := by decide +kernel
theorem dX8_priceOf_151 : decode cX8_priceOf 151 = .ok (.iaload, 1) := by decide +kernel
theorem dX8_priceOf_152 : decode cX8_priceOf 152 = .ok (.iastore, 1) := by decide +kernel
theorem dX8_priceOf_153 : decode cX8_priceOf 153 = .ok (.aload_n 0, 1) := by decide +kernel
theorem dX8_priceOf_154 : decode cX8_priceOf 154 = .ok (.getfield 60, 3) := by decide +kernel
theorem dX8_priceOf_157 : decode cX8_priceOf 157 = .ok (.iload 13, 2) := by decide +kernel
theorem dX8_priceOf_159 : decode cX8_priceOf 159 = .ok (.aload 5, 2) := by decide +kernel
theorem dX8_priceOf_161 : decode cX8_priceOf 161 = .ok (.iload 13, 2) := by decide +kernel
theorem dX8_priceOf_163 : decode cX8_priceOf 163 = .ok (.iaload, 1) := by decide +kernel
theorem dX8_priceOf_164 : decode cX8_priceOf 164 = .ok (.iastore, 1) := by decide +kernel
theorem dX8_priceOf_165 : decode cX8_priceOf 165 = .ok (.aload_n 0, 1) := by decide +kernel
theorem dX8_priceOf_166 : decode cX8_priceOf 166 = .ok (.getfield 63, 3) := by decide +kernel
theorem dX8_priceOf_169 : decode cX8_priceOf 169 = .ok (.iload 13, 2) := by decide +kernel
theorem dX8_priceOf_171 : decode cX8_priceOf 171 = .ok (.aload 6, 2) := by decide +kernel
theorem dX8_priceOf_173 : decode cX8_priceOf 173 = .ok (.iload 13, 2) := by decide +kernel
theorem dX8_priceOf_175 : decode cX8_priceOf 175 = .ok (.iaload, 1) := by decide +kernel
theorem dX8_priceOf_176 : decode cX8_priceOf 176 = .ok (.iastore, 1) := by decide +kernel
theorem dX8_priceOf_177 : decode cX8_priceOf 177 = .ok (.aload_n 0, 1) := by decide +kernel
theorem dX8_priceOf_178 : decode cX8_priceOf 178 = .ok (.getfield 66, 3) := by decide +kernel
theorem dX8_priceOf_181 : decode cX8_priceOf 181 = .ok (.iload 13, 2) := by decide +kernel
theorem dX8_priceOf_183 : decode cX8_priceOf 183 = .ok (.aload 7, 2) := by decide +kernel
theorem dX8_priceOf_185 : decode cX8_priceOf 185 = .ok (.iload 13, 2) := by decide +kernel
theorem dX8_priceOf_187 : decode cX8_priceOf 187 = .ok (.iaload, 1) := by decide +kernel
theorem dX8_priceOf_188 : decode cX8_priceOf 188 = .ok (.iastore, 1) := by decide +kernel
theorem dX8_priceOf_189 : decode cX8_priceOf 189 = .ok (.aload_n 0, 1) := by decide +kernel
theorem dX8_priceOf_190 : decode cX8_priceOf 190 = .ok (.getfield 69, 3) := by decide +kernel
theorem dX8_priceOf_193 : decode cX8_priceOf 193 = .ok (.iload 13, 2) := by decide +kernel
theorem dX8_priceOf_195 : decode cX8_priceOf 195 = .ok (.aload 8, 2) := by decide +kernel
theorem dX8_priceOf_197 : decode cX8_priceOf 197 = .ok (.iload 13, 2) := by decide +kernel
theorem dX8_priceOf_199 : decode cX8_priceOf 199 = .ok (.iaload, 1) := by decide +kernel
theorem dX8_priceOf_200 : decode cX8_priceOf 200 = .ok (.iastore, 1) := by decide +kernel
theorem dX8_priceOf_201 : decode cX8_priceOf 201 = .ok (.aload_n 0, 1) := by decide +kernel
theorem dX8_priceOf_202 : decode cX8_priceOf 202 = .ok (.getfield 72, 3) := by decide +kernel
theorem dX8_priceOf_205 : decode cX8_priceOf 205 = .ok (.iload 13, 2) := by decide +kernel
theorem dX8_priceOf_207 : decode cX8_priceOf 207 = .ok (.aload 9, 2) := by decide +kernel
theorem dX8_priceOf_209 : decode cX8_priceOf 209 = .ok (.iload 13, 2) := by decide +kernel
theorem dX8_priceOf_211 : decode cX8_priceOf 211 = .ok (.iaload, 1) := by decide +kernel
theorem dX8_priceOf_212 : decode cX8_priceOf 212 = .ok (.iastore, 1) := by decide +kernel
theorem dX8_priceOf_213 : decode cX8_priceOf 213 = .ok (.iinc 13 1, 3) := by decide +kernel
theorem dX8_priceOf_216 : decode cX8_priceOf 216 = .ok (.goto (-93), 3) := by decide +kernel
theorem dX8_priceOf_219 : decode cX8_priceOf 219 = .ok (.aload_n 0, 1) := by decide +kernel
theorem dX8_priceOf_220 : decode cX8_priceOf 220 = .ok (.iload 10, 2) := by decide +kernel
theorem dX8_priceOf_222 : decode cX8_priceOf 222 = .ok (.putfield 169, 3) := by decide +kernel
theorem dX8_priceOf_225 : decode cX8_priceOf 225 = .ok (.aload_n 0, 1) := by decide +kernel
theorem dX8_priceOf_226 : decode cX8_priceOf 226 = .ok (.iload 11, 2) := by decide +kernel
theorem dX8_priceOf_228 : decode cX8_priceOf 228 = .ok (.putfield 180, 3) := by decide +kernel
theorem dX8_priceOf_231 : decode cX8_priceOf 231 = .ok (.iload 12, 2) := by decide +kernel
theorem dX8_priceOf_233 : decode cX8_priceOf 233 = .ok (.ifCond .lt 11, 3) := by decide +kernel
theorem dX8_priceOf_236 : decode cX8_priceOf 236 = .ok (.aload_n 0, 1) := by decide +kernel
theorem dX8_priceOf_237 : decode cX8_priceOf 237 = .ok (.getfield 193, 3) := by decide +kernel
theorem dX8_priceOf_240 : decode cX8_priceOf 240 = .ok (.iconst 1, 1) := by decide +kernel
theorem dX8_priceOf_241 : decode cX8_priceOf 241 = .ok (.if_icmp .ge 7, 3) := by decide +kernel
theorem dX8_priceOf_244 : decode cX8_priceOf 244 = .ok (.iconst 1, 1) := by decide +kernel
theorem dX8_priceOf_245 : decode cX8_priceOf 245 = .ok (.goto 7, 3) := by decide +kernel
theorem dX8_priceOf_248 : decode cX8_priceOf 248 = .ok (.aload_n 0, 1) := by decide +kernel
theorem dX8_priceOf_249 : decode cX8_priceOf 249 = .ok (.getfield 193, 3) := by decide +kernel
theorem dX8_priceOf_252 : decode cX8_priceOf 252 = .ok (.ireturn, 1) := by decide +kernel
theorem dX8_price_0 : decode cX8_price 0 = .ok (.aload_n 0, 1) := by decide +kernel
theorem dX8_price_1 : decode cX8_price 1 = .ok (.iload_n 1, 1) := by decide +kernel
theorem dX8_price_2 : decode cX8_price 2 = .ok (.iload_n 2, 1) := by decide +kernel
theorem dX8_price_3 : decode cX8_price 3 = .ok (.invokevirtual 210, 3) := by decide +kernel
theorem dX8_price_6 : decode cX8_price 6 = .ok (.ifCond .eq 7, 3) := by decide +kernel
theorem dX8_price_9 : decode cX8_price 9 = .ok (.iconst 0, 1) := by decide +kernel
theorem dX8_price_10 : decode cX8_price 10 = .ok (.goto 9, 3) := by decide +kernel
theorem dX8_price_13 : decode cX8_price 13 = .ok (.aload_n 0, 1) := by decide +kernel
theorem dX8_price_14 : decode cX8_price 14 = .ok (.iload_n 1, 1) := by decide +kernel
theorem dX8_price_15 : decode cX8_price 15 = .ok (.iload_n 2, 1) := by decide +kernel
theorem dX8_price_16 : decode cX8_price 16 = .ok (.invokevirtual 214, 3) := by decide +kernel
theorem dX8_price_19 : decode cX8_price 19 = .ok (.ireturn, 1) := by decide +kernel
theorem dX8_hint_0 : decode cX8_hint 0 = .ok (.aload_n 0, 1) := by decide +kernel
theorem dX8_hint_1 : decode cX8_hint 1 = .ok (.iload_n 1, 1) := by decide +kernel
theorem dX8_hint_2 : decode cX8_hint 2 = .ok (.iload_n 2, 1) := by decide +kernel
theorem dX8_hint_3 : decode cX8_hint 3 = .ok (.invokevirtual 210, 3) := by decide +kernel
theorem dX8_hint_6 : decode cX8_hint 6 = .ok (.ifCond .eq 5, 3) := by decide +kernel
theorem dX8_hint_9 : decode cX8_hint 9 = .ok (.iconst 0, 1) := by decide +kernel
theorem dX8_hint_10 : decode cX8_hint 10 = .ok (.ireturn, 1) := by decide +kernel
theorem dX8_hint_11 : decode cX8_hint 11 = .ok (.aload_n 0, 1) := by decide +kernel
theorem dX8_hint_12 : decode cX8_hint 12 = .ok (.iload_n 1, 1) := by decide +kernel
theorem dX8_hint_13 : decode cX8_hint 13 = .ok (.iload_n 2, 1) := by decide +kernel
theorem dX8_hint_14 : decode cX8_hint 14 = .ok (.invokevirtual 214, 3) := by decide +kernel
theorem dX8_hint_17 : decode cX8_hint 17 = .ok (.istore_n 3, 1) := by decide +kernel
theorem dX8_hint_18 : decode cX8_hint 18 = .ok (.aload_n 0, 1) := by decide +kernel
theorem dX8_hint_19 : decode cX8_hint 19 = .ok (.aload_n 0, 1) := by decide +kernel
theorem dX8_hint_20 : decode cX8_hint 20 = .ok (.getfield 7, 3) := by decide +kernel
theorem dX8_hint_23 : decode cX8_hint 23 = .ok (.aload_n 0, 1) := by decide +kernel
theorem dX8_hint_24 : decode cX8_hint 24 = .ok (.getfield 20, 3) := by decide +kernel
theorem dX8_hint_27 : decode cX8_hint 27 = .ok (.iload_n 1, 1) := by decide +kernel
theorem dX8_hint_28 : decode cX8_hint 28 = .ok (.iaload, 1) := by decide +kernel
theorem dX8_hint_29 : decode cX8_hint 29 = .ok (.iaload, 1) := by decide +kernel
theorem dX8_hint_30 : decode cX8_hint 30 = .ok (.iload_n 3, 1) := by decide +kernel
theorem dX8_hint_31 : decode cX8_hint 31 = .ok (.if_icmp .lt 7, 3) := by decide +kernel
theorem dX8_hint_34 : decode cX8_hint 34 = .ok (.iconst 1, 1) := by decide +kernel
theorem dX8_hint_35 : decode cX8_hint 35 = .ok (.goto 4, 3) := by decide +kernel
theorem dX8_hint_38 : decode cX8_hint 38 = .ok (.iconst 0, 1) := by decide +kernel
theorem dX8_hint_39 : decode cX8_hint 39 = .ok (.iconst 4, 1) := by decide +kernel
theorem dX8_hint_40 : decode cX8_hint 40 = .ok (.invokevirtual 109, 3) := by decide +kernel
theorem dX8_hint_43 : decode cX8_hint 43 = .ok (.ifCond .ne 25, 3) := by decide +kernel
theorem dX8_hint_46 : decode cX8_hint 46 = .ok (.aload_n 0, 1) := by decide +kernel
theorem dX8_hint_47 : decode cX8_hint 47 = .ok (.aload_n 0, 1) := by decide +kernel
theorem dX8_hint_48 : decode cX8_hint 48 = .ok (.getfield 162, 3) := by decide +kernel
theorem dX8_hint_51 : decode cX8_hint 51 = .ok (.bipush 60, 2) := by decide +kernel
theorem dX8_hint_53 : decode cX8_hint 53 = .ok (.if_icmp .ge 7, 3) := by decide +kernel
theorem dX8_hint_56 : decode cX8_hint 56 = .ok (.iconst 1, 1) := by decide +kernel
theorem dX8_hint_57 : decode cX8_hint 57 = .ok (.goto 4, 3) := by decide +kernel
theorem dX8_hint_60 : decode cX8_hint 60 = .ok (.iconst 0, 1) := by decide +kernel
theorem dX8_hint_61 : decode cX8_hint 61 = .ok (.iconst 5, 1) := by decide +kernel
theorem dX8_hint_62 : decode cX8_hint 62 = .ok (.invokevirtual 109, 3) := by decide +kernel
theorem dX8_hint_65 : decode cX8_hint 65 = .ok (.ifCond .eq 5, 3) := by decide +kernel
theorem dX8_hint_68 : decode cX8_hint 68 = .ok (.iconst 0, 1) := by decide +kernel
theorem dX8_hint_69 : decode cX8_hint 69 = .ok (.ireturn, 1) := by decide +kernel
theorem dX8_hint_70 : decode cX8_hint 70 = .ok (.aload_n 0, 1) := by decide +kernel
theorem dX8_hint_71 : decode cX8_hint 71 = .ok (.iconst 0, 1) := by decide +kernel
theorem dX8_hint_72 : decode cX8_hint 72 = .ok (.putfield 190, 3) := by decide +kernel
theorem dX8_hint_75 : decode cX8_hint 75 = .ok (.aload_n 0, 1) := by decide +kernel
theorem dX8_hint_76 : decode cX8_hint 76 = .ok (.iconst 0, 1) := by decide +kernel
theorem dX8_hint_77 : decode cX8_hint 77 = .ok (.putfield 193, 3) := by decide +kernel
theorem dX8_hint_80 : decode cX8_hint 80 = .ok (.aload_n 0, 1) := by decide +kernel
theorem dX8_hint_81 : decode cX8_hint 81 = .ok (.aload_n 0, 1) := by decide +kernel
theorem dX8_hint_82 : decode cX8_hint 82 = .ok (.getfield 13, 3) := by decide +kernel
theorem dX8_hint_85 : decode cX8_hint 85 = .ok (.iload_n 1, 1) := by decide +kernel
theorem dX8_hint_86 : decode cX8_hint 86 = .ok (.laload, 1) := by decide +kernel
theorem dX8_hint_87 : decode cX8_hint 87 = .ok (.aload_n 0, 1) := by decide +kernel
theorem dX8_hint_88 : decode cX8_hint 88 = .ok (.getfield 17, 3) := by decide +kernel
theorem dX8_hint_91 : decode cX8_hint 91 = .ok (.iload_n 1, 1) := by decide +kernel
theorem dX8_hint_92 : decode cX8_hint 92 = .ok (.iaload, 1) := by decide +kernel
theorem dX8_hint_93 : decode cX8_hint 93 = .ok (.iload_n 2, 1) := by decide +kernel
theorem dX8_hint_94 : decode cX8_hint 94 = .ok (.iconst 1, 1) := by decide +kernel
theorem dX8_hint_95 : decode cX8_hint 95 = .ok (.invokevirtual 206, 3) := by decide +kernel
theorem dX8_hint_98 : decode cX8_hint 98 = .ok (.istore 4, 2) := by decide +kernel
theorem dX8_hint_100 : decode cX8_hint 100 = .ok (.aload_n 0, 1) := by decide +kernel
theorem dX8_hint_101 : decode cX8_hint 101 = .ok (.dup, 1) := by decide +kernel
theorem dX8_hint_102 : decode cX8_hint 102 = .ok (.getfield 218, 3) := by decide +kernel
theorem dX8_hint_105 : decode cX8_hint 105 = .ok (.iload 4, 2) := by decide +kernel
theorem dX8_hint_107 : decode cX8_hint 107 = .ok (.ifCond .ge 7, 3) := by decide +kernel
theorem dX8_hint_110 : decode cX8_hint 110 = .ok (.iconst 0, 1) := by decide +kernel
theorem dX8_hint_111 : decode cX8_hint 111 = .ok (.goto 7, 3) := by decide +kernel
theorem dX8_hint_114 : decode cX8_hint 114 = .ok (.aload_n 0, 1) := by decide +kernel
theorem dX8_hint_115 : decode cX8_hint 115 = .ok (.getfield 190, 3) := by decide +kernel
theorem dX8_hint_118 : decode cX8_hint 118 = .ok (.iadd, 1) := by decide +kernel
theorem dX8_hint_119 : decode cX8_hint 119 = .ok (.putfield 218, 3) := by decide +kernel
theorem dX8_hint_122 : decode cX8_hint 122 = .ok (.aload_n 0, 1) := by decide +kernel
theorem dX8_hint_123 : decode cX8_hint 123 = .ok (.dup, 1) := by decide +kernel
theorem dX8_hint_124 : decode cX8_hint 124 = .ok (.getfield 221, 3) := by decide +kernel
theorem dX8_hint_127 : decode cX8_hint 127 = .ok (.aload_n 0, 1) := by decide +kernel
theorem dX8_hint_128 : decode cX8_hint 128 = .ok (.getfield 193, 3) := by decide +kernel
theorem dX8_hint_131 : decode cX8_hint 131 = .ok (.iadd, 1) := by decide +kernel
theorem dX8_hint_132 : decode cX8_hint 132 = .ok (.putfield 221, 3) := by decide +kernel
theorem dX8_hint_135 : decode cX8_hint 135 = .ok (.aload_n 0, 1) := by decide +kernel
theorem dX8_hint_136 : decode cX8_hint 136 = .ok (.dup, 1) := by decide +kernel
theorem dX8_hint_137 : decode cX8_hint 137 = .ok (.getfield 224, 3) := by decide +kernel
theorem dX8_hint_140 : decode cX8_hint 140 = .ok (.iconst 1, 1) := by decide +kernel
theorem dX8_hint_141 : decode cX8_hint 141 = .ok (.iadd, 1) := by decide +kernel
theorem dX8_hint_142 : decode cX8_hint 142 = .ok (.putfield 224, 3) := by decide +kernel
theorem dX8_hint_145 : decode cX8_hint 145 = .ok (.aload_n 0, 1) := by decide +kernel
theorem dX8_hint_146 : decode cX8_hint 146 = .ok (.dup, 1) := by decide +kernel
theorem dX8_hint_147 : decode cX8_hint 147 = .ok (.getfield 227, 3) := by decide +kernel
theorem dX8_hint_150 : decode cX8_hint 150 = .ok (.iload_n 3, 1) := by decide +kernel
theorem dX8_hint_151 : decode cX8_hint 151 = .ok (.i2l, 1) := by decide +kernel
theorem dX8_hint_152 : decode cX8_hint 152 = .ok (.ladd, 1) := by decide +kernel
theorem dX8_hint_153 : decode cX8_hint 153 = .ok (.putfield 227, 3) := by decide +kernel
theorem dX8_hint_156 : decode cX8_hint 156 = .ok (.aload_n 0, 1) := by decide +kernel
theorem dX8_hint_157 : decode cX8_hint 157 = .ok (.getfield 7, 3) := by decide +kernel
theorem dX8_hint_160 : decode cX8_hint 160 = .ok (.aload_n 0, 1) := by decide +kernel
theorem dX8_hint_161 : decode cX8_hint 161 = .ok (.getfield 20, 3) := by decide +kernel
theorem dX8_hint_164 : decode cX8_hint 164 = .ok (.iload_n 1, 1) := by decide +kernel
theorem dX8_hint_165 : decode cX8_hint 165 = .ok (.iaload, 1) := by decide +kernel
theorem dX8_hint_166 : decode cX8_hint 166 = .ok (.dup2, 1) := by decide +kernel
theorem dX8_hint_167 : decode cX8_hint 167 = .ok (.iaload, 1) := by decide +kernel
theorem dX8_hint_168 : decode cX8_hint 168 = .ok (.iload_n 3, 1) := by decide +kernel
theorem dX8_hint_169 : decode cX8_hint 169 = .ok (.isub, 1) := by decide +kernel
theorem dX8_hint_170 : decode cX8_hint 170 = .ok (.iastore, 1) := by decide +kernel
theorem dX8_hint_171 : decode cX8_hint 171 = .ok (.aload_n 0, 1) := by decide +kernel
theorem dX8_hint_172 : decode cX8_hint 172 = .ok (.getfield 35, 3) := by decide +kernel
theorem dX8_hint_175 : decode cX8_hint 175 = .ok (.iload_n 1, 1) := by decide +kernel
theorem dX8_hint_176 : decode cX8_hint 176 = .ok (.dup2, 1) := by decide +kernel
theorem dX8_hint_177 : decode cX8_hint 177 = .ok (.iaload, 1) := by decide +kernel
theorem dX8_hint_178 : decode cX8_hint 178 = .ok (.iload_n 3, 1) := by decide +kernel
theorem dX8_hint_179 : decode cX8_hint 179 = .ok (.iadd, 1) := by decide +kernel
theorem dX8_hint_180 : decode cX8_hint 180 = .ok (.iastore, 1) := by decide +kernel
theorem dX8_hint_181 : decode cX8_hint 181 = .ok (.aload_n 0, 1) := by decide +kernel
theorem dX8_hint_182 : decode cX8_hint 182 = .ok (.getfield 42, 3) := by decide +kernel
theorem dX8_hint_185 : decode cX8_hint 185 = .ok (.aload_n 0, 1) := by decide +kernel
theorem dX8_hint_186 : decode cX8_hint 186 = .ok (.getfield 162, 3) := by decide +kernel
theorem dX8_hint_189 : decode cX8_hint 189 = .ok (.aload_n 0, 1) := by decide +kernel
theorem dX8_hint_190 : decode cX8_hint 190 = .ok (.getfield 13, 3) := by decide +kernel
theorem dX8_hint_193 : decode cX8_hint 193 = .ok (.iload_n 1, 1) := by decide +kernel
theorem dX8_hint_194 : decode cX8_hint 194 = .ok (.laload, 1) := by decide +kernel
theorem dX8_hint_195 : decode cX8_hint 195 = .ok (.lastore, 1) := by decide +kernel
theorem dX8_hint_196 : decode cX8_hint 196 = .ok (.aload_n 0, 1) := by decide +kernel
theorem dX8_hint_197 : decode cX8_hint 197 = .ok (.getfield 45, 3) := by decide +kernel
theorem dX8_hint_200 : decode cX8_hint 200 = .ok (.aload_n 0, 1) := by decide +kernel
theorem dX8_hint_201 : decode cX8_hint 201 = .ok (.getfield 162, 3) := by decide +kernel
theorem dX8_hint_204 : decode cX8_hint 204 = .ok (.aload_n 0, 1) := by decide +kernel
theorem dX8_hint_205 : decode cX8_hint 205 = .ok (.getfield 17, 3) := by decide +kernel
theorem dX8_hint_208 : decode cX8_hint 208 = .ok (.iload_n 1, 1) := by decide +kernel
theorem dX8_hint_209 : decode cX8_hint 209 = .ok (.iaload, 1) := by decide +kernel
theorem dX8_hint_210 : decode cX8_hint 210 = .ok (.iastore, 1) := by decide +kernel
theorem dX8_hint_211 : decode cX8_hint 211 = .ok (.aload_n 0, 1) := by decide +kernel
theorem dX8_hint_212 : decode cX8_hint 212 = .ok (.getfield 48, 3) := by decide +kernel
theorem dX8_hint_215 : decode cX8_hint 215 = .ok (.aload_n 0, 1) := by decide +kernel
theorem dX8_hint_216 : decode cX8_hint 216 = .ok (.getfield 162, 3) := by decide +kernel
theorem dX8_hint_219 : decode cX8_hint 219 = .ok (.aload_n 0, 1) := by decide +kernel
theorem dX8_hint_220 : decode cX8_hint 220 = .ok (.getfield 20, 3) := by decide +kernel
theorem dX8_hint_223 : decode cX8_hint 223 = .ok (.iload_n 1, 1) := by decide +kernel
theorem dX8_hint_224 : decode cX8_hint 224 = .ok (.iaload, 1) := by decide +kernel
theorem dX8_hint_225 : decode cX8_hint 225 = .ok (.iastore, 1) := by decide +kernel
theorem dX8_hint_226 : decode cX8_hint 226 = .ok (.aload_n 0, 1) := by decide +kernel
theorem dX8_hint_227 : decode cX8_hint 227 = .ok (.getfield 51, 3) := by decide +kernel
theorem dX8_hint_230 : decode cX8_hint 230 = .ok (.aload_n 0, 1) := by decide +kernel
theorem dX8_hint_231 : decode cX8_hint 231 = .ok (.getfield 162, 3) := by decide +kernel
theorem dX8_hint_234 : decode cX8_hint 234 = .ok (.aload_n 0, 1) := by decide +kernel
theorem dX8_hint_235 : decode cX8_hint 235 = .ok (.getfield 187, 3) := by decide +kernel
theorem dX8_hint_238 : decode cX8_hint 238 = .ok (.iastore, 1) := by decide +kernel
theorem dX8_hint_239 : decode cX8_hint 239 = .ok (.aload_n 0, 1) := by decide +kernel
theorem dX8_hint_240 : decode cX8_hint 240 = .ok (.dup, 1) := by decide +kernel
theorem dX8_hint_241 : decode cX8_hint 241 = .ok (.getfield 162, 3) := by decide +kernel
theorem dX8_hint_244 : decode cX8_hint 244 = .ok (.iconst 1, 1) := by decide +kernel
theorem dX8_hint_245 : decode cX8_hint 245 = .ok (.iadd, 1) := by decide +kernel
theorem dX8_hint_246 : decode cX8_hint 246 = .ok (.putfield 162, 3) := by decide +kernel
theorem dX8_hint_249 : decode cX8_hint 249 = .ok (.aload_n 0, 1) := by decide +kernel
theorem dX8_hint_250 : decode cX8_hint 250 = .ok (.getfield 187, 3) := by decide +kernel
theorem dX8_hint_253 : decode cX8_hint 253 = .ok (.ireturn, 1) := by decide +kernel
theorem dX8_worth_0 : decode cX8_worth 0 = .ok (.aload_n 0, 1) := by decide +kernel
theorem dX8_worth_1 : decode cX8_worth 1 = .ok (.iload_n 1, 1) := by decide +kernel
theorem dX8_worth_2 : decode cX8_worth 2 = .ok (.invokevirtual 154, 3) := by decide +kernel
theorem dX8_worth_5 : decode cX8_worth 5 = .ok (.ifCond .ne 25, 3) := by decide +kernel
theorem dX8_worth_8 : decode cX8_worth 8 = .ok (.aload_n 0, 1) := by decide +kernel
theorem dX8_worth_9 : decode cX8_worth 9 = .ok (.iload_n 2, 1) := by decide +kernel
theorem dX8_worth_10 : decode cX8_worth 10 = .ok (.ifCond .lt 12, 3) := by decide +kernel
theorem dX8_worth_13 : decode cX8_worth 13 = .ok (.iload_n 2, 1) := by decide +kernel
theorem dX8_worth_14 : decode cX8_worth 14 = .ok (.iconst 4, 1) := by decide +kernel
theorem dX8_worth_15 : decode cX8_worth 15 = .ok (.if_icmp .gt 7, 3) := by decide +kernel
theorem dX8_worth_18 : decode cX8_worth 18 = .ok (.iconst 1, 1) := by decide +kernel
theorem dX8_worth_19 : decode cX8_worth 19 = .ok (.goto 4, 3) := by decide +kernel
theorem dX8_worth_22 : decode cX8_worth 22 = .ok (.iconst 0, 1) := by decide +kernel
theorem dX8_worth_23 : decode cX8_worth 23 = .ok (.iconst 2, 1) := by decide +kernel
theorem dX8_worth_24 : decode cX8_worth 24 = .ok (.invokevirtual 109, 3) := by decide +kernel
theorem dX8_worth_27 : decode cX8_worth 27 = .ok (.ifCond .eq 7, 3) := by decide +kernel
theorem dX8_worth_30 : decode cX8_worth 30 = .ok (.iconst 0, 1) := by decide +kernel
theorem dX8_worth_31 : decode cX8_worth 31 = .ok (.goto 21, 3) := by decide +kernel
theorem dX8_worth_34 : decode cX8_worth 34 = .ok (.aload_n 0, 1) := by decide +kernel
theorem dX8_worth_35 : decode cX8_worth 35 = .ok (.aload_n 0, 1) := by decide +kernel
theorem dX8_worth_36 : decode cX8_worth 36 = .ok (.getfield 13, 3) := by decide +kernel
theorem dX8_worth_39 : decode cX8_worth 39 = .ok (.iload_n 1, 1) := by decide +kernel
theorem dX8_worth_40 : decode cX8_worth 40 = .ok (.laload, 1) := by decide +kernel
theorem dX8_worth_41 : decode cX8_worth 41 = .ok (.aload_n 0, 1) := by decide +kernel
theorem dX8_worth_42 : decode cX8_worth 42 = .ok (.getfield 17, 3) := by decide +kernel
theorem dX8_worth_45 : decode cX8_worth 45 = .ok (.iload_n 1, 1) := by decide +kernel
theorem dX8_worth_46 : decode cX8_worth 46 = .ok (.iaload, 1) := by decide +kernel
theorem dX8_worth_47 : decode cX8_worth 47 = .ok (.iload_n 2, 1) := by decide +kernel
theorem dX8_worth_48 : decode cX8_worth 48 = .ok (.iconst 0, 1) := by decide +kernel
theorem dX8_worth_49 : decode cX8_worth 49 = .ok (.invokevirtual 206, 3) := by decide +kernel
theorem dX8_worth_52 : decode cX8_worth 52 = .ok (.ireturn, 1) := by decide +kernel
theorem dX8_money_0 : decode cX8_money 0 = .ok (.aload_n 0, 1) := by decide +kernel
theorem dX8_money_1 : decode cX8_money 1 = .ok (.iload_n 1, 1) := by decide +kernel
theorem dX8_money_2 : decode cX8_money 2 = .ok (.ifCond .lt 15, 3) := by decide +kernel
theorem dX8_money_5 : decode cX8_money 5 = .ok (.iload_n 1, 1) := by decide +kernel
theorem dX8_money_6 : decode cX8_money 6 = .ok (.aload_n 0, 1) := by decide +kernel
theorem dX8_money_7 : decode cX8_money 7 = .ok (.getfield 148, 3) := by decide +kernel
theorem dX8_money_10 : decode cX8_money 10 = .ok (.if_icmp .ge 7, 3) := by decide +kernel
theorem dX8_money_13 : decode cX8_money 13 = .ok (.iconst 1, 1) := by decide +kernel
theorem dX8_money_14 : decode cX8_money 14 = .ok (.goto 4, 3) := by decide +kernel
theorem dX8_money_17 : decode cX8_money 17 = .ok (.iconst 0, 1) := by decide +kernel
theorem dX8_money_18 : decode cX8_money 18 = .ok (.iconst 1, 1) := by decide +kernel
theorem dX8_money_19 : decode cX8_money 19 = .ok (.invokevirtual 109, 3) := by decide +kernel
theorem dX8_money_22 : decode cX8_money 22 = .ok (.ifCond .eq 7, 3) := by decide +kernel
theorem dX8_money_25 : decode cX8_money 25 = .ok (.iconst 0, 1) := by decide +kernel
theorem dX8_money_26 : decode cX8_money 26 = .ok (.goto 9, 3) := by decide +kernel
theorem dX8_money_29 : decode cX8_money 29 = .ok (.aload_n 0, 1) := by decide +kernel
theorem dX8_money_30 : decode cX8_money 30 = .ok (.getfield 7, 3) := by decide +kernel
theorem dX8_money_33 : decode cX8_money 33 = .ok (.iload_n 1, 1) := by decide +kernel
theorem dX8_money_34 : decode cX8_money 34 = .ok (.iaload, 1) := by decide +kernel
theorem dX8_money_35 : decode cX8_money 35 = .ok (.ireturn, 1) := by decide +kernel
theorem dX8_pins_0 : decode cX8_pins 0 = .ok (.iconst 0, 1) := by decide +kernel
theorem dX8_pins_1 : decode cX8_pins 1 = .ok (.istore_n 1, 1) := by decide +kernel
theorem dX8_pins_2 : decode cX8_pins 2 = .ok (.iconst 0, 1) := by decide +kernel
theorem dX8_pins_3 : decode cX8_pins 3 = .ok (.istore_n 2, 1) := by decide +kernel
theorem dX8_pins_4 : decode cX8_pins 4 = .ok (.iload_n 2, 1) := by decide +kernel
theorem dX8_pins_5 : decode cX8_pins 5 = .ok (.aload_n 0, 1) := by decide +kernel
theorem dX8_pins_6 : decode cX8_pins 6 = .ok (.getfield 169, 3) := by decide +kernel
theorem dX8_pins_9 : decode cX8_pins 9 = .ok (.if_icmp .ge 26, 3) := by decide +kernel
theorem dX8_pins_12 : decode cX8_pins 12 = .ok (.iload_n 1, 1) := by decide +kernel
theorem dX8_pins_13 : decode cX8_pins 13 = .ok (.aload_n 0, 1) := by decide +kernel
theorem dX8_pins_14 : decode cX8_pins 14 = .ok (.getfield 72, 3) := by decide +kernel
theorem dX8_pins_17 : decode cX8_pins 17 = .ok (.iload_n 2, 1) := by decide +kernel
theorem dX8_pins_18 : decode cX8_pins 18 = .ok (.iaload, 1) := by decide +kernel
theorem dX8_pins_19 : decode cX8_pins 19 = .ok (.ifCond .eq 7, 3) := by decide +kernel
theorem dX8_pins_22 : decode cX8_pins 22 = .ok (.iconst 1, 1) := by decide +kernel
theorem dX8_pins_23 : decode cX8_pins 23 = .ok (.goto 4, 3) := by decide +kernel
theorem dX8_pins_26 : decode cX8_pins 26 = .ok (.iconst 0, 1) := by decide +kernel
theorem dX8_pins_27 : decode cX8_pins 27 = .ok (.iadd, 1) := by decide +kernel
theorem dX8_pins_28 : decode cX8_pins 28 = .ok (.istore_n 1, 1) := by decide +kernel
theorem dX8_pins_29 : decode cX8_pins 29 = .ok (.iinc 2 1, 3) := by decide +kernel
theorem dX8_pins_32 : decode cX8_pins 32 = .ok (.goto (-28), 3) := by decide +kernel
theorem dX8_pins_35 : decode cX8_pins 35 = .ok (.iload_n 1, 1) := by decide +kernel
theorem dX8_pins_36 : decode cX8_pins 36 = .ok (.ireturn, 1) := by decide +kernel
theorem dX8_setRoom_0 : decode cX8_setRoom 0 = .ok (.aload_n 0, 1) := by decide +kernel
theorem dX8_setRoom_1 : decode cX8_setRoom 1 = .ok (.iload_n 1, 1) := by decide +kernel
theorem dX8_setRoom_2 : decode cX8_setRoom 2 = .ok (.iconst 1, 1) := by decide +kernel
theorem dX8_setRoom_3 : decode cX8_setRoom 3 = .ok (.if_icmp .lt 13, 3) := by decide +kernel
theorem dX8_setRoom_6 : decode cX8_setRoom 6 = .ok (.iload_n 1, 1) := by decide +kernel
theorem dX8_setRoom_7 : decode cX8_setRoom 7 = .ok (.bipush 64, 2) := by decide +kernel
theorem dX8_setRoom_9 : decode cX8_setRoom 9 = .ok (.if_icmp .gt 7, 3) := by decide +kernel
theorem dX8_setRoom_12 : decode cX8_setRoom 12 = .ok (.iconst 1, 1) := by decide +kernel
theorem dX8_setRoom_13 : decode cX8_setRoom 13 = .ok (.goto 4, 3) := by decide +kernel
theorem dX8_setRoom_16 : decode cX8_setRoom 16 = .ok (.iconst 0, 1) := by decide +kernel
theorem dX8_setRoom_17 : decode cX8_setRoom 17 = .ok (.iconst 1, 1) := by decide +kernel
theorem dX8_setRoom_18 : decode cX8_setRoom 18 = .ok (.invokevirtual 109, 3) := by decide +kernel
theorem dX8_setRoom_21 : decode cX8_setRoom 21 = .ok (.ifCond .ne 24, 3) := by decide +kernel
theorem dX8_setRoom_24 : decode cX8_setRoom 24 = .ok (.aload_n 0, 1) := by decide +kernel
theorem dX8_setRoom_25 : decode cX8_setRoom 25 = .ok (.aload_n 0, 1) := by decide +kernel
theorem dX8_setRoom_26 : decode cX8_setRoom 26 = .ok (.invokevirtual 231, 3) := by decide +kernel
theorem dX8_setRoom_29 : decode cX8_setRoom 29 = .ok (.iload_n 1, 1) := by decide +kernel
theorem dX8_setRoom_30 : decode cX8_setRoom 30 = .ok (.if_icmp .gt 7, 3) := by decide +kernel
theorem dX8_setRoom_33 : decode cX8_setRoom 33 = .ok (.iconst 1, 1) := by decide +kernel
theorem dX8_setRoom_34 : decode cX8_setRoom 34 = .ok (.goto 4, 3) := by decide +kernel
theorem dX8_setRoom_37 : decode cX8_setRoom 37 = .ok (.iconst 0, 1) := by decide +kernel
theorem dX8_setRoom_38 : decode cX8_setRoom 38 = .ok (.iconst 2, 1) := by decide +kernel
theorem dX8_setRoom_39 : decode cX8_setRoom 39 = .ok (.invokevirtual 109, 3) := by decide +kernel
theorem dX8_setRoom_42 : decode cX8_setRoom 42 = .ok (.ifCond .eq 5, 3) := by decide +kernel
theorem dX8_setRoom_45 : decode cX8_setRoom 45 = .ok (.iconst 0, 1) := by decide +kernel
theorem dX8_setRoom_46 : decode cX8_setRoom 46 = .ok (.ireturn, 1) := by decide +kernel
theorem dX8_setRoom_47 : decode cX8_setRoom 47 = .ok (.aload_n 0, 1) := by decide +kernel
theorem dX8_setRoom_48 : decode cX8_setRoom 48 = .ok (.iload_n 1, 1) := by decide +kernel
theorem dX8_setRoom_49 : decode cX8_setRoom 49 = .ok (.putfield 96, 3) := by decide +kernel
theorem dX8_setRoom_52 : decode cX8_setRoom 52 = .ok (.aload_n 0, 1) := by decide +kernel
theorem dX8_setRoom_53 : decode cX8_setRoom 53 = .ok (.getfield 169, 3) := by decide +kernel
theorem dX8_setRoom_56 : decode cX8_setRoom 56 = .ok (.aload_n 0, 1) := by decide +kernel
theorem dX8_setRoom_57 : decode cX8_setRoom 57 = .ok (.getfield 96, 3) := by decide +kernel
theorem dX8_setRoom_60 : decode cX8_setRoom 60 = .ok (.if_icmp .le 14, 3) := by decide +kernel
theorem dX8_setRoom_63 : decode cX8_setRoom 63 = .ok (.aload_n 0, 1) := by decide +kernel
theorem dX8_setRoom_64 : decode cX8_setRoom 64 = .ok (.aload_n 0, 1) := by decide +kernel
theorem dX8_setRoom_65 : decode cX8_setRoom 65 = .ok (.invokevirtual 172, 3) := by decide +kernel
theorem dX8_setRoom_68 : decode cX8_setRoom 68 = .ok (.invokevirtual 176, 3) := by decide +kernel
theorem dX8_setRoom_71 : decode cX8_setRoom 71 = .ok (.goto (-19), 3) := by decide +kernel
theorem dX8_setRoom_74 : decode cX8_setRoom 74 = .ok (.aload_n 0, 1) := by decide +kernel
theorem dX8_setRoom_75 : decode cX8_setRoom 75 = .ok (.getfield 169, 3) := by decide +kernel
theorem dX8_setRoom_78 : decode cX8_setRoom 78 = .ok (.ireturn, 1) := by decide +kernel
theorem dX8_entries_0 : decode cX8_entries 0 = .ok (.aload_n 0, 1) := by decide +kernel
theorem dX8_entries_1 : decode cX8_entries 1 = .ok (.getfield 169, 3) := by decide +kernel
theorem dX8_entries_4 : decode cX8_entries 4 = .ok (.ireturn, 1) := by decide +kernel
theorem dX8_noDepth_0 : decode cX8_noDepth 0 = .ok (.aload_n 0, 1) := by decide +kernel
theorem dX8_noDepth_1 : decode cX8_noDepth 1 = .ok (.iload_n 1, 1) := by decide +kernel
theorem dX8_noDepth_2 : decode cX8_noDepth 2 = .ok (.invokevirtual 154, 3) := by decide +kernel
theorem dX8_noDepth_5 : decode cX8_noDepth 5 = .ok (.ifCond .ne 26, 3) := by decide +kernel
theorem dX8_noDepth_8 : decode cX8_noDepth 8 = .ok (.aload_n 0, 1) := by decide +kernel
theorem dX8_noDepth_9 : decode cX8_noDepth 9 = .ok (.iload_n 2, 1) := by decide +kernel
theorem dX8_noDepth_10 : decode cX8_noDepth 10 = .ok (.iconst 1, 1) := by decide +kernel
theorem dX8_noDepth_11 : decode cX8_noDepth 11 = .ok (.if_icmp .lt 12, 3) := by decide +kernel
theorem dX8_noDepth_14 : decode cX8_noDepth 14 = .ok (.iload_n 2, 1) := by decide +kernel
theorem dX8_noDepth_15 : decode cX8_noDepth 15 = .ok (.iconst 4, 1) := by decide +kernel
theorem dX8_noDepth_16 : decode cX8_noDepth 16 = .ok (.if_icmp .gt 7, 3) := by decide +kernel
theorem dX8_noDepth_19 : decode cX8_noDepth 19 = .ok (.iconst 1, 1) := by decide +kernel
theorem dX8_noDepth_20 : decode cX8_noDepth 20 = .ok (.goto 4, 3) := by decide +kernel
theorem dX8_noDepth_23 : decode cX8_noDepth 23 = .ok (.iconst 0, 1) := by decide +kernel
theorem dX8_noDepth_24 : decode cX8_noDepth 24 = .ok (.iconst 2, 1) := by decide +kernel
theorem dX8_noDepth_25 : decode cX8_noDepth 25 = .ok (.invokevirtual 109, 3) := by decide +kernel
theorem dX8_noDepth_28 : decode cX8_noDepth 28 = .ok (.ifCond .eq 7, 3) := by decide +kernel
theorem dX8_noDepth_31 : decode cX8_noDepth 31 = .ok (.iconst 1, 1) := by decide +kernel
theorem dX8_noDepth_32 : decode cX8_noDepth 32 = .ok (.goto 4, 3) := by decide +kernel
theorem dX8_noDepth_35 : decode cX8_noDepth 35 = .ok (.iconst 0, 1) := by decide +kernel
theorem dX8_noDepth_36 : decode cX8_noDepth 36 = .ok (.ireturn, 1) := by decide +kernel
theorem dX8_isCached_0 : decode cX8_isCached 0 = .ok (.aload_n 0, 1) := by decide +kernel
theorem dX8_isCached_1 : decode cX8_isCached 1 = .ok (.iload_n 1, 1) := by decide +kernel
theorem dX8_isCached_2 : decode cX8_isCached 2 = .ok (.iload_n 2, 1) := by decide +kernel
theorem dX8_isCached_3 : decode cX8_isCached 3 = .ok (.invokevirtual 234, 3) := by decide +kernel
theorem dX8_isCached_6 : decode cX8_isCached 6 = .ok (.ifCond .ne 28, 3) := by decide +kernel
theorem dX8_isCached_9 : decode cX8_isCached 9 = .ok (.aload_n 0, 1) := by decide +kernel
theorem dX8_isCached_10 : decode cX8_isCached 10 = .ok (.aload_n 0, 1) := by decide +kernel
theorem dX8_isCached_11 : decode cX8_isCached 11 = .ok (.getfield 13, 3) := by decide +kernel
theorem dX8_isCached_14 : decode cX8_isCached 14 = .ok (.iload_n 1, 1) := by decide +kernel
theorem dX8_isCached_15 : decode cX8_isCached 15 = .ok (.laload, 1) := by decide +kernel
theorem dX8_isCached_16 : decode cX8_isCached 16 = .ok (.aload_n 0, 1) := by decide +kernel
theorem dX8_isCached_17 : decode cX8_isCached 17 = .ok (.getfield 17, 3) := by decide +kernel
theorem dX8_isCached_20 : decode cX8_isCached 20 = .ok (.iload_n 1, 1) := by decide +kernel
theorem dX8_isCached_21 : decode cX8_isCached 21 = .ok (.iaload, 1) := by decide +kernel
theorem dX8_isCached_22 : decode cX8_isCached 22 = .ok (.iload_n 2, 1) := by decide +kernel
theorem dX8_isCached_23 : decode cX8_isCached 23 = .ok (.invokevirtual 183, 3) := by decide +kernel
theorem dX8_isCached_26 : decode cX8_isCached 26 = .ok (.iconst (-1), 1) := by decide +kernel
theorem dX8_isCached_27 : decode cX8_isCached 27 = .ok (.if_icmp .eq 7, 3) := by decide +kernel
theorem dX8_isCached_30 : decode cX8_isCached 30 = .ok (.iconst 1, 1) := by decide +kernel
theorem dX8_isCached_31 : decode cX8_isCached 31 = .ok (.goto 4, 3) := by decide +kernel
theorem dX8_isCached_34 : decode cX8_isCached 34 = .ok (.iconst 0, 1) := by decide +kernel
theorem dX8_isCached_35 : decode cX8_isCached 35 = .ok (.ireturn, 1) := by decide +kernel
theorem dX8_pinsOf_0 : decode cX8_pinsOf 0 = .ok (.iconst 0, 1) := by decide +kernel
theorem dX8_pinsOf_1 : decode cX8_pinsOf 1 = .ok (.istore_n 2, 1) := by decide +kernel
theorem dX8_pinsOf_2 : decode cX8_pinsOf 2 = .ok (.iconst 0, 1) := by decide +kernel
theorem dX8_pinsOf_3 : decode cX8_pinsOf 3 = .ok (.istore_n 3, 1) := by decide +kernel
theorem dX8_pinsOf_4 : decode cX8_pinsOf 4 = .ok (.iload_n 3, 1) := by decide +kernel
theorem dX8_pinsOf_5 : decode cX8_pinsOf 5 = .ok (.aload_n 0, 1) := by decide +kernel
theorem dX8_pinsOf_6 : decode cX8_pinsOf 6 = .ok (.getfield 169, 3) := by decide +kernel
theorem dX8_pinsOf_9 : decode cX8_pinsOf 9 = .ok (.if_icmp .ge 22, 3) := by decide +kernel
theorem dX8_pinsOf_12 : decode cX8_pinsOf 12 = .ok (.iload_n 2, 1) := by decide +kernel
theorem dX8_pinsOf_13 : decode cX8_pinsOf 13 = .ok (.aload_n 0, 1) := by decide +kernel
theorem dX8_pinsOf_14 : decode cX8_pinsOf 14 = .ok (.getfield 72, 3) := by decide +kernel
theorem dX8_pinsOf_17 : decode cX8_pinsOf 17 = .ok (.iload_n 3, 1) := by decide +kernel
theorem dX8_pinsOf_18 : decode cX8_pinsOf 18 = .ok (.iaload, 1) := by decide +kernel
theorem dX8_pinsOf_19 : decode cX8_pinsOf 19 = .ok (.iload_n 1, 1) := by decide +kernel
theorem dX8_pinsOf_20 : decode cX8_pinsOf 20 = .ok (.ishr, 1) := by decide +kernel
theorem dX8_pinsOf_21 : decode cX8_pinsOf 21 = .ok (.iconst 1, 1) := by decide +kernel
theorem dX8_pinsOf_22 : decode cX8_pinsOf 22 = .ok (.iand, 1) := by decide +kernel
theorem dX8_pinsOf_23 : decode cX8_pinsOf 23 = .ok (.iadd, 1) := by decide +kernel
theorem dX8_pinsOf_24 : decode cX8_pinsOf 24 = .ok (.istore_n 2, 1) := by decide +kernel
theorem dX8_pinsOf_25 : decode cX8_pinsOf 25 = .ok (.iinc 3 1, 3) := by decide +kernel
theorem dX8_pinsOf_28 : decode cX8_pinsOf 28 = .ok (.goto (-24), 3) := by decide +kernel
theorem dX8_pinsOf_31 : decode cX8_pinsOf 31 = .ok (.iload_n 2, 1) := by decide +kernel
theorem dX8_pinsOf_32 : decode cX8_pinsOf 32 = .ok (.ireturn, 1) := by decide +kernel
theorem dX8_pin_0 : decode cX8_pin 0 = .ok (.aload_n 0, 1) := by decide +kernel
theorem dX8_pin_1 : decode cX8_pin 1 = .ok (.iload_n 1, 1) := by decide +kernel
theorem dX8_pin_2 : decode cX8_pin 2 = .ok (.iload_n 2, 1) := by decide +kernel
theorem dX8_pin_3 : decode cX8_pin 3 = .ok (.invokevirtual 234, 3) := by decide +kernel
theorem dX8_pin_6 : decode cX8_pin 6 = .ok (.ifCond .ne 25, 3) := by decide +kernel
theorem dX8_pin_9 : decode cX8_pin 9 = .ok (.aload_n 0, 1) := by decide +kernel
theorem dX8_pin_10 : decode cX8_pin 10 = .ok (.aload_n 0, 1) := by decide +kernel
theorem dX8_pin_11 : decode cX8_pin 11 = .ok (.getfield 38, 3) := by decide +kernel
theorem dX8_pin_14 : decode cX8_pin 14 = .ok (.iload_n 1, 1) := by decide +kernel
theorem dX8_pin_15 : decode cX8_pin 15 = .ok (.baload, 1) := by decide +kernel
theorem dX8_pin_16 : decode cX8_pin 16 = .ok (.ifCond .ne 7, 3) := by decide +kernel
theorem dX8_pin_19 : decode cX8_pin 19 = .ok (.iconst 1, 1) := by decide +kernel
theorem dX8_pin_20 : decode cX8_pin 20 = .ok (.goto 4, 3) := by decide +kernel
theorem dX8_pin_23 : decode cX8_pin 23 = .ok (.iconst 0, 1) := by decide +kernel
theorem dX8_pin_24 : decode cX8_pin 24 = .ok (.iconst 3, 1) := by decide +kernel
theorem dX8_pin_25 : decode cX8_pin 25 = .ok (.invokevirtual 109, 3) := by decide +kernel
theorem dX8_pin_28 : decode cX8_pin 28 = .ok (.ifCond .eq 5, 3) := by decide +kernel
theorem dX8_pin_31 : decode cX8_pin 31 = .ok (.iconst 0, 1) := by decide +kernel
theorem dX8_pin_32 : decode cX8_pin 32 = .ok (.ireturn, 1) := by decide +kernel
theorem dX8_pin_33 : decode cX8_pin 33 = .ok (.aload_n 0, 1) := by decide +kernel
theorem dX8_pin_34 : decode cX8_pin 34 = .ok (.aload_n 0, 1) := by decide +kernel
theorem dX8_pin_35 : decode cX8_pin 35 = .ok (.getfield 13, 3) := by decide +kernel
theorem dX8_pin_38 : decode cX8_pin 38 = .ok (.iload_n 1, 1) := by decide +kernel
theorem dX8_pin_39 : decode cX8_pin 39 = .ok (.laload, 1) := by decide +kernel
theorem dX8_pin_40 : decode cX8_pin 40 = .ok (.aload_n 0, 1) := by decide +kernel
theorem dX8_pin_41 : decode cX8_pin 41 = .ok (.getfield 17, 3) := by decide +kernel
theorem dX8_pin_44 : decode cX8_pin 44 = .ok (.iload_n 1, 1) := by decide +kernel
theorem dX8_pin_45 : decode cX8_pin 45 = .ok (.iaload, 1) := by decide +kernel
theorem dX8_pin_46 : decode cX8_pin 46 = .ok (.iload_n 2, 1) := by decide +kernel
theorem dX8_pin_47 : decode cX8_pin 47 = .ok (.invokevirtual 183, 3) := by decide +kernel
theorem dX8_pin_50 : decode cX8_pin 50 = .ok (.istore_n 3, 1) := by decide +kernel
theorem dX8_pin_51 : decode cX8_pin 51 = .ok (.aload_n 0, 1) := by decide +kernel
theorem dX8_pin_52 : decode cX8_pin 52 = .ok (.iload_n 3, 1) := by decide +kernel
theorem dX8_pin_53 : decode cX8_pin 53 = .ok (.iconst (-1), 1) := by decide +kernel
theorem dX8_pin_54 : decode cX8_pin 54 = .ok (.if_icmp .eq 7, 3) := by decide +kernel
theorem dX8_pin_57 : decode cX8_pin 57 = .ok (.iconst 1, 1) := by decide +kernel
theorem dX8_pin_58 : decode cX8_pin 58 = .ok (.goto 4, 3) := by decide +kernel
theorem dX8_pin_61 : decode cX8_pin 61 = .ok (.iconst 0, 1) := by decide +kernel
theorem dX8_pin_62 : decode cX8_pin 62 = .ok (.iconst 4, 1) := by decide +kernel
theorem dX8_pin_63 : decode cX8_pin 63 = .ok (.invokevirtual 109, 3) := by decide +kernel
theorem dX8_pin_66 : decode cX8_pin 66 = .ok (.ifCond .eq 5, 3) := by decide +kernel
theorem dX8_pin_69 : decode cX8_pin 69 = .ok (.iconst 0, 1) := by decide +kernel
theorem dX8_pin_70 : decode cX8_pin 70 = .ok (.ireturn, 1) := by decide +kernel
theorem dX8_pin_71 : decode cX8_pin 71 = .ok (.aload_n 0, 1) := by decide +kernel
theorem dX8_pin_72 : decode cX8_pin 72 = .ok (.getfield 72, 3) := by decide +kernel
theorem dX8_pin_75 : decode cX8_pin 75 = .ok (.iload_n 3, 1) := by decide +kernel
theorem dX8_pin_76 : decode cX8_pin 76 = .ok (.dup2, 1) := by decide +kernel
theorem dX8_pin_77 : decode cX8_pin 77 = .ok (.iaload, 1) := by decide +kernel
theorem dX8_pin_78 : decode cX8_pin 78 = .ok (.iconst 1, 1) := by decide +kernel
theorem dX8_pin_79 : decode cX8_pin 79 = .ok (.iload_n 1, 1) := by decide +kernel
theorem dX8_pin_80 : decode cX8_pin 80 = .ok (.ishl, 1) := by decide +kernel
theorem dX8_pin_81 : decode cX8_pin 81 = .ok (.ior, 1) := by decide +kernel
theorem dX8_pin_82 : decode cX8_pin 82 = .ok (.iastore, 1) := by decide +kernel
theorem dX8_pin_83 : decode cX8_pin 83 = .ok (.aload_n 0, 1) := by decide +kernel
theorem dX8_pin_84 : decode cX8_pin 84 = .ok (.iload_n 1, 1) := by decide +kernel
theorem dX8_pin_85 : decode cX8_pin 85 = .ok (.invokevirtual 237, 3) := by decide +kernel
theorem dX8_pin_88 : decode cX8_pin 88 = .ok (.ireturn, 1) := by decide +kernel
theorem dX8_unpins_0 : decode cX8_unpins 0 = .ok (.aload_n 0, 1) := by decide +kernel
theorem dX8_unpins_1 : decode cX8_unpins 1 = .ok (.iload_n 1, 1) := by decide +kernel
theorem dX8_unpins_2 : decode cX8_unpins 2 = .ok (.invokevirtual 237, 3) := by decide +kernel
theorem dX8_unpins_5 : decode cX8_unpins 5 = .ok (.istore_n 2, 1) := by decide +kernel
theorem dX8_unpins_6 : decode cX8_unpins 6 = .ok (.iconst 0, 1) := by decide +kernel
theorem dX8_unpins_7 : decode cX8_unpins 7 = .ok (.istore_n 3, 1) := by decide +kernel
theorem dX8_unpins_8 : decode cX8_unpins 8 = .ok (.iload_n 3, 1) := by decide +kernel
theorem dX8_unpins_9 : decode cX8_unpins 9 = .ok (.aload_n 0, 1) := by decide +kernel
theorem dX8_unpins_10 : decode cX8_unpins 10 = .ok (.getfield 169, 3) := by decide +kernel
theorem dX8_unpins_13 : decode cX8_unpins 13 = .ok (.if_icmp .ge 23, 3) := by decide +kernel
theorem dX8_unpins_16 : decode cX8_unpins 16 = .ok (.aload_n 0, 1) := by decide +kernel
theorem dX8_unpins_17 : decode cX8_unpins 17 = .ok (.getfield 72, 3) := by decide +kernel
theorem dX8_unpins_20 : decode cX8_unpins 20 = .ok (.iload_n 3, 1) := by decide +kernel
theorem dX8_unpins_21 : decode cX8_unpins 21 = .ok (.dup2, 1) := by decide +kernel
theorem dX8_unpins_22 : decode cX8_unpins 22 = .ok (.iaload, 1) := by decide +kernel
theorem dX8_unpins_23 : decode cX8_unpins 23 = .ok (.iconst 1, 1) := by decide +kernel
theorem dX8_unpins_24 : decode cX8_unpins 24 = .ok (.iload_n 1, 1) := by decide +kernel
theorem dX8_unpins_25 : decode cX8_unpins 25 = .ok (.ishl, 1) := by decide +kernel
theorem dX8_unpins_26 : decode cX8_unpins 26 = .ok (.iconst (-1), 1) := by decide +kernel
theorem dX8_unpins_27 : decode cX8_unpins 27 = .ok (.ixor, 1) := by decide +kernel
theorem dX8_unpins_28 : decode cX8_unpins 28 = .ok (.iand, 1) := by decide +kernel
theorem dX8_unpins_29 : decode cX8_unpins 29 = .ok (.iastore, 1) := by decide +kernel
theorem dX8_unpins_30 : decode cX8_unpins 30 = .ok (.iinc 3 1, 3) := by decide +kernel
theorem dX8_unpins_33 : decode cX8_unpins 33 = .ok (.goto (-25), 3) := by decide +kernel
theorem dX8_unpins_36 : decode cX8_unpins 36 = .ok (.iload_n 2, 1) := by decide +kernel
theorem dX8_unpins_37 : decode cX8_unpins 37 = .ok (.ireturn, 1) := by decide +kernel
theorem dX8_unpin_0 : decode cX8_unpin 0 = .ok (.aload_n 0, 1) := by decide +kernel
theorem dX8_unpin_1 : decode cX8_unpin 1 = .ok (.iload_n 1, 1) := by decide +kernel
theorem dX8_unpin_2 : decode cX8_unpin 2 = .ok (.invokevirtual 154, 3) := by decide +kernel
theorem dX8_unpin_5 : decode cX8_unpin 5 = .ok (.ifCond .eq 7, 3) := by decide +kernel
theorem dX8_unpin_8 : decode cX8_unpin 8 = .ok (.iconst 0, 1) := by decide +kernel
theorem dX8_unpin_9 : decode cX8_unpin 9 = .ok (.goto 8, 3) := by decide +kernel
theorem dX8_unpin_12 : decode cX8_unpin 12 = .ok (.aload_n 0, 1) := by decide +kernel
theorem dX8_unpin_13 : decode cX8_unpin 13 = .ok (.iload_n 1, 1) := by decide +kernel
theorem dX8_unpin_14 : decode cX8_unpin 14 = .ok (.invokevirtual 240, 3) := by decide +kernel
theorem dX8_unpin_17 : decode cX8_unpin 17 = .ok (.ireturn, 1) := by decide +kernel
theorem dX8_pinned_0 : decode cX8_pinned 0 = .ok (.aload_n 0, 1) := by decide +kernel
theorem dX8_pinned_1 : decode cX8_pinned 1 = .ok (.invokevirtual 231, 3) := by decide +kernel
theorem dX8_pinned_4 : decode cX8_pinned 4 = .ok (.ireturn, 1) := by decide +kernel
theorem dX8_follows_0 : decode cX8_follows 0 = .ok (.aload_n 0, 1) := by decide +kernel
theorem dX8_follows_1 : decode cX8_follows 1 = .ok (.iload_n 1, 1) := by decide +kernel
theorem dX8_follows_2 : decode cX8_follows 2 = .ok (.invokevirtual 154, 3) := by decide +kernel
theorem dX8_follows_5 : decode cX8_follows 5 = .ok (.ifCond .eq 7, 3) := by decide +kernel
theorem dX8_follows_8 : decode cX8_follows 8 = .ok (.iconst 0, 1) := by decide +kernel
theorem dX8_follows_9 : decode cX8_follows 9 = .ok (.goto 9, 3) := by decide +kernel
theorem dX8_follows_12 : decode cX8_follows 12 = .ok (.aload_n 0, 1) := by decide +kernel
theorem dX8_follows_13 : decode cX8_follows 13 = .ok (.getfield 32, 3) := by decide +kernel
theorem dX8_follows_16 : decode cX8_follows 16 = .ok (.iload_n 1, 1) := by decide +kernel
theorem dX8_follows_17 : decode cX8_follows 17 = .ok (.iaload, 1) := by decide +kernel
theorem dX8_follows_18 : decode cX8_follows 18 = .ok (.ireturn, 1) := by decide +kernel
theorem dX8_setLimit_0 : decode cX8_setLimit 0 = .ok (.aload_n 0, 1) := by decide +kernel
theorem dX8_setLimit_1 : decode cX8_setLimit 1 = .ok (.iload_n 1, 1) := by decide +kernel
theorem dX8_setLimit_2 : decode cX8_setLimit 2 = .ok (.iconst 1, 1) := by decide +kernel
theorem dX8_setLimit_3 : decode cX8_setLimit 3 = .ok (.if_icmp .lt 13, 3) := by decide +kernel
theorem dX8_setLimit_6 : decode cX8_setLimit 6 = .ok (.iload_n 1, 1) := by decide +kernel
theorem dX8_setLimit_7 : decode cX8_setLimit 7 = .ok (.bipush 9, 2) := by decide +kernel
theorem dX8_setLimit_9 : decode cX8_setLimit 9 = .ok (.if_icmp .gt 7, 3) := by decide +kernel
theorem dX8_setLimit_12 : decode cX8_setLimit 12 = .ok (.iconst 1, 1) := by decide +kernel
theorem dX8_setLimit_13 : decode cX8_setLimit 13 = .ok (.goto 4, 3) := by decide +kernel
theorem dX8_setLimit_16 : decode cX8_setLimit 16 = .ok (.iconst 0, 1) := by decide +kernel
theorem dX8_setLimit_17 : decode cX8_setLimit 17 = .ok (.iconst 1, 1) := by decide +kernel
theorem dX8_setLimit_18 : decode cX8_setLimit 18 = .ok (.invokevirtual 109, 3) := by decide +kernel
theorem dX8_setLimit_21 : decode cX8_setLimit 21 = .ok (.ifCond .eq 5, 3) := by decide +kernel
theorem dX8_setLimit_24 : decode cX8_setLimit 24 = .ok (.iconst 0, 1) := by decide +kernel
theorem dX8_setLimit_25 : decode cX8_setLimit 25 = .ok (.ireturn, 1) := by decide +kernel
theorem dX8_setLimit_26 : decode cX8_setLimit 26 = .ok (.aload_n 0, 1) := by decide +kernel
theorem dX8_setLimit_27 : decode cX8_setLimit 27 = .ok (.getfield 100, 3) := by decide +kernel
theorem dX8_setLimit_30 : decode cX8_setLimit 30 = .ok (.istore_n 2, 1) := by decide +kernel
theorem dX8_setLimit_31 : decode cX8_setLimit 31 = .ok (.aload_n 0, 1) := by decide +kernel
theorem dX8_setLimit_32 : decode cX8_setLimit 32 = .ok (.iload_n 1, 1) := by decide +kernel
theorem dX8_setLimit_33 : decode cX8_setLimit 33 = .ok (.putfield 100, 3) := by decide +kernel
theorem dX8_setLimit_36 : decode cX8_setLimit 36 = .ok (.iload_n 2, 1) := by decide +kernel
theorem dX8_setLimit_37 : decode cX8_setLimit 37 = .ok (.ireturn, 1) := by decide +kernel
theorem dX8_judge_0 : decode cX8_judge 0 = .ok (.aload_n 0, 1) := by decide +kernel
theorem dX8_judge_1 : decode cX8_judge 1 = .ok (.iload_n 1, 1) := by decide +kernel
theorem dX8_judge_2 : decode cX8_judge 2 = .ok (.invokevirtual 154, 3) := by decide +kernel
theorem dX8_judge_5 : decode cX8_judge 5 = .ok (.ifCond .ne 25, 3) := by decide +kernel
theorem dX8_judge_8 : decode cX8_judge 8 = .ok (.aload_n 0, 1) := by decide +kernel
theorem dX8_judge_9 : decode cX8_judge 9 = .ok (.aload_n 0, 1) := by decide +kernel
theorem dX8_judge_10 : decode cX8_judge 10 = .ok (.getfield 38, 3) := by decide +kernel
theorem dX8_judge_13 : decode cX8_judge 13 = .ok (.iload_n 1, 1) := by decide +kernel
theorem dX8_judge_14 : decode cX8_judge 14 = .ok (.baload, 1) := by decide +kernel
theorem dX8_judge_15 : decode cX8_judge 15 = .ok (.ifCond .ne 7, 3) := by decide +kernel
theorem dX8_judge_18 : decode cX8_judge 18 = .ok (.iconst 1, 1) := by decide +kernel
theorem dX8_judge_19 : decode cX8_judge 19 = .ok (.goto 4, 3) := by decide +kernel
theorem dX8_judge_22 : decode cX8_judge 22 = .ok (.iconst 0, 1) := by decide +kernel
theorem dX8_judge_23 : decode cX8_judge 23 = .ok (.iconst 2, 1) := by decide +kernel
theorem dX8_judge_24 : decode cX8_judge 24 = .ok (.invokevirtual 109, 3) := by decide +kernel
theorem dX8_judge_27 : decode cX8_judge 27 = .ok (.ifCond .eq 5, 3) := by decide +kernel
theorem dX8_judge_30 : decode cX8_judge 30 = .ok (.iconst 0, 1) := by decide +kernel
theorem dX8_judge_31 : decode cX8_judge 31 = .ok (.ireturn, 1) := by decide +kernel
theorem dX8_judge_32 : decode cX8_judge 32 = .ok (.aload_n 0, 1) := by decide +kernel
theorem dX8_judge_33 : decode cX8_judge 33 = .ok (.getfield 32, 3) := by decide +kernel
theorem dX8_judge_36 : decode cX8_judge 36 = .ok (.iload_n 1, 1) := by decide +kernel
theorem dX8_judge_37 : decode cX8_judge 37 = .ok (.iaload, 1) := by decide +kernel
theorem dX8_judge_38 : decode cX8_judge 38 = .ok (.aload_n 0, 1) := by decide +kernel
theorem dX8_judge_39 : decode cX8_judge 39 = .ok (.getfield 100, 3) := by decide +kernel
theorem dX8_judge_42 : decode cX8_judge 42 = .ok (.if_icmp .ge 5, 3) := by decide +kernel
theorem dX8_judge_45 : decode cX8_judge 45 = .ok (.iconst (-1), 1) := by decide +kernel
theorem dX8_judge_46 : decode cX8_judge 46 = .ok (.ireturn, 1) := by decide +kernel
theorem dX8_judge_47 : decode cX8_judge 47 = .ok (.aload_n 0, 1) := by decide +kernel
theorem dX8_judge_48 : decode cX8_judge 48 = .ok (.getfield 38, 3) := by decide +kernel
theorem dX8_judge_51 : decode cX8_judge 51 = .ok (.iload_n 1, 1) := by decide +kernel
theorem dX8_judge_52 : decode cX8_judge 52 = .ok (.iconst 1, 1) := by decide +kernel
theorem dX8_judge_53 : decode cX8_judge 53 = .ok (.bastore, 1) := by decide +kernel
theorem dX8_judge_54 : decode cX8_judge 54 = .ok (.aload_n 0, 1) := by decide +kernel
theorem dX8_judge_55 : decode cX8_judge 55 = .ok (.iload_n 1, 1) := by decide +kernel
theorem dX8_judge_56 : decode cX8_judge 56 = .ok (.invokevirtual 240, 3) := by decide +kernel
theorem dX8_judge_59 : decode cX8_judge 59 = .ok (.istore_n 2, 1) := by decide +kernel
theorem dX8_judge_60 : decode cX8_judge 60 = .ok (.aload_n 0, 1) := by decide +kernel
theorem dX8_judge_61 : decode cX8_judge 61 = .ok (.getfield 7, 3) := by decide +kernel
theorem dX8_judge_64 : decode cX8_judge 64 = .ok (.aload_n 0, 1) := by decide +kernel
theorem dX8_judge_65 : decode cX8_judge 65 = .ok (.getfield 20, 3) := by decide +kernel
theorem dX8_judge_68 : decode cX8_judge 68 = .ok (.iload_n 1, 1) := by decide +kernel
theorem dX8_judge_69 : decode cX8_judge 69 = .ok (.iaload, 1) := by decide +kernel
theorem dX8_judge_70 : decode cX8_judge 70 = .ok (.dup2, 1) := by decide +kernel
theorem dX8_judge_71 : decode cX8_judge 71 = .ok (.iaload, 1) := by decide +kernel
theorem dX8_judge_72 : decode cX8_judge 72 = .ok (.iload_n 2, 1) := by decide +kernel
theorem dX8_judge_73 : decode cX8_judge 73 = .ok (.ifCond .ge 7, 3) := by decide +kernel
theorem dX8_judge_76 : decode cX8_judge 76 = .ok (.iconst 0, 1) := by decide +kernel
theorem dX8_judge_77 : decode cX8_judge 77 = .ok (.goto 9, 3) := by decide +kernel
theorem dX8_judge_80 : decode cX8_judge 80 = .ok (.aload_n 0, 1) := by decide +kernel
theorem dX8_judge_81 : decode cX8_judge 81 = .ok (.getfield 35, 3) := by decide +kernel
theorem dX8_judge_84 : decode cX8_judge 84 = .ok (.iload_n 1, 1) := by decide +kernel
theorem dX8_judge_85 : decode cX8_judge 85 = .ok (.iaload, 1) := by decide +kernel
theorem dX8_judge_86 : decode cX8_judge 86 = .ok (.iadd, 1) := by decide +kernel
theorem dX8_judge_87 : decode cX8_judge 87 = .ok (.iastore, 1) := by decide +kernel
theorem dX8_judge_88 : decode cX8_judge 88 = .ok (.aload_n 0, 1) := by decide +kernel
theorem dX8_judge_89 : decode cX8_judge 89 = .ok (.dup, 1) := by decide +kernel
theorem dX8_judge_90 : decode cX8_judge 90 = .ok (.getfield 243, 3) := by decide +kernel
theorem dX8_judge_93 : decode cX8_judge 93 = .ok (.aload_n 0, 1) := by decide +kernel
theorem dX8_judge_94 : decode cX8_judge 94 = .ok (.getfield 35, 3) := by decide +kernel
theorem dX8_judge_97 : decode cX8_judge 97 = .ok (.iload_n 1, 1) := by decide +kernel
theorem dX8_judge_98 : decode cX8_judge 98 = .ok (.iaload, 1) := by decide +kernel
theorem dX8_judge_99 : decode cX8_judge 99 = .ok (.i2l, 1) := by decide +kernel
theorem dX8_judge_100 : decode cX8_judge 100 = .ok (.ladd, 1) := by decide +kernel
theorem dX8_judge_101 : decode cX8_judge 101 = .ok (.putfield 243, 3) := by decide +kernel
theorem dX8_judge_104 : decode cX8_judge 104 = .ok (.aload_n 0, 1) := by decide +kernel
theorem dX8_judge_105 : decode cX8_judge 105 = .ok (.getfield 35, 3) := by decide +kernel
theorem dX8_judge_108 : decode cX8_judge 108 = .ok (.iload_n 1, 1) := by decide +kernel
theorem dX8_judge_109 : decode cX8_judge 109 = .ok (.iaload, 1) := by decide +kernel
theorem dX8_judge_110 : decode cX8_judge 110 = .ok (.ireturn, 1) := by decide +kernel
theorem dX8_isVoid_0 : decode cX8_isVoid 0 = .ok (.aload_n 0, 1) := by decide +kernel
theorem dX8_isVoid_1 : decode cX8_isVoid 1 = .ok (.iload_n 1, 1) := by decide +kernel
theorem dX8_isVoid_2 : decode cX8_isVoid 2 = .ok (.invokevirtual 154, 3) := by decide +kernel
theorem dX8_isVoid_5 : decode cX8_isVoid 5 = .ok (.ifCond .ne 16, 3) := by decide +kernel
theorem dX8_isVoid_8 : decode cX8_isVoid 8 = .ok (.aload_n 0, 1) := by decide +kernel
theorem dX8_isVoid_9 : decode cX8_isVoid 9 = .ok (.getfield 38, 3) := by decide +kernel
theorem dX8_isVoid_12 : decode cX8_isVoid 12 = .ok (.iload_n 1, 1) := by decide +kernel
theorem dX8_isVoid_13 : decode cX8_isVoid 13 = .ok (.baload, 1) := by decide +kernel
theorem dX8_isVoid_14 : decode cX8_isVoid 14 = .ok (.ifCond .eq 7, 3) := by decide +kernel
theorem dX8_isVoid_17 : decode cX8_isVoid 17 = .ok (.iconst 1, 1) := by decide +kernel
theorem dX8_isVoid_18 : decode cX8_isVoid 18 = .ok (.goto 4, 3) := by decide +kernel
theorem dX8_isVoid_21 : decode cX8_isVoid 21 = .ok (.iconst 0, 1) := by decide +kernel
theorem dX8_isVoid_22 : decode cX8_isVoid 22 = .ok (.ireturn, 1) := by decide +kernel
theorem dX8_traces_0 : decode cX8_traces 0 = .ok (.aload_n 0, 1) := by decide +kernel
theorem dX8_traces_1 : decode cX8_traces 1 = .ok (.getfield 162, 3) := by decide +kernel
theorem dX8_traces_4 : decode cX8_traces 4 = .ok (.ireturn, 1) := by decide +kernel
theorem dX8_noTrace_0 : decode cX8_noTrace 0 = .ok (.aload_n 0, 1) := by decide +kernel
theorem dX8_noTrace_1 : decode cX8_noTrace 1 = .ok (.iload_n 1, 1) := by decide +kernel
theorem dX8_noTrace_2 : decode cX8_noTrace 2 = .ok (.ifCond .lt 15, 3) := by decide +kernel
theorem dX8_noTrace_5 : decode cX8_noTrace 5 = .ok (.iload_n 1, 1) := by decide +kernel
theorem dX8_noTrace_6 : decode cX8_noTrace 6 = .ok (.aload_n 0, 1) := by decide +kernel
theorem dX8_noTrace_7 : decode cX8_noTrace 7 = .ok (.getfield 162, 3) := by decide +kernel
theorem dX8_noTrace_10 : decode cX8_noTrace 10 = .ok (.if_icmp .ge 7, 3) := by decide +kernel
theorem dX8_noTrace_13 : decode cX8_noTrace 13 = .ok (.iconst 1, 1) := by decide +kernel
theorem dX8_noTrace_14 : decode cX8_noTrace 14 = .ok (.goto 4, 3) := by decide +kernel
theorem dX8_noTrace_17 : decode cX8_noTrace 17 = .ok (.iconst 0, 1) := by decide +kernel
theorem dX8_noTrace_18 : decode cX8_noTrace 18 = .ok (.iconst 1, 1) := by decide +kernel
theorem dX8_noTrace_19 : decode cX8_noTrace 19 = .ok (.invokevirtual 109, 3) := by decide +kernel
theorem dX8_noTrace_22 : decode cX8_noTrace 22 = .ok (.ireturn, 1) := by decide +kernel
theorem dX8_playerOf_0 : decode cX8_playerOf 0 = .ok (.aload_n 0, 1) := by decide +kernel
theorem dX8_playerOf_1 : decode cX8_playerOf 1 = .ok (.iload_n 1, 1) := by decide +kernel
theorem dX8_playerOf_2 : decode cX8_playerOf 2 = .ok (.invokevirtual 246, 3) := by decide +kernel
theorem dX8_playerOf_5 : decode cX8_playerOf 5 = .ok (.ifCond .eq 7, 3) := by decide +kernel
theorem dX8_playerOf_8 : decode cX8_playerOf 8 = .ok (.iconst 0, 1) := by decide +kernel
theorem dX8_playerOf_9 : decode cX8_playerOf 9 = .ok (.goto 9, 3) := by decide +kernel
theorem dX8_playerOf_12 : decode cX8_playerOf 12 = .ok (.aload_n 0, 1) := by decide +kernel
theorem dX8_playerOf_13 : decode cX8_playerOf 13 = .ok (.getfield 48, 3) := by decide +kernel
theorem dX8_playerOf_16 : decode cX8_playerOf 16 = .ok (.iload_n 1, 1) := by decide +kernel
theorem dX8_playerOf_17 : decode cX8_playerOf 17 = .ok (.iaload, 1) := by decide +kernel
theorem dX8_playerOf_18 : decode cX8_playerOf 18 = .ok (.ireturn, 1) := by decide +kernel
theorem dX8_pushOf_0 : decode cX8_pushOf 0 = .ok (.aload_n 0, 1) := by decide +kernel
theorem dX8_pushOf_1 : decode cX8_pushOf 1 = .ok (.iload_n 1, 1) := by decide +kernel
theorem dX8_pushOf_2 : decode cX8_pushOf 2 = .ok (.invokevirtual 246, 3) := by decide +kernel
theorem dX8_pushOf_5 : decode cX8_pushOf 5 = .ok (.ifCond .eq 7, 3) := by decide +kernel
theorem dX8_pushOf_8 : decode cX8_pushOf 8 = .ok (.iconst 0, 1) := by decide +kernel
theorem dX8_pushOf_9 : decode cX8_pushOf 9 = .ok (.goto 9, 3) := by decide +kernel
theorem dX8_pushOf_12 : decode cX8_pushOf 12 = .ok (.aload_n 0, 1) := by decide +kernel
theorem dX8_pushOf_13 : decode cX8_pushOf 13 = .ok (.getfield 51, 3) := by decide +kernel
theorem dX8_pushOf_16 : decode cX8_pushOf 16 = .ok (.iload_n 1, 1) := by decide +kernel
theorem dX8_pushOf_17 : decode cX8_pushOf 17 = .ok (.iaload, 1) := by decide +kernel
theorem dX8_pushOf_18 : decode cX8_pushOf 18 = .ok (.ireturn, 1) := by decide +kernel
theorem dX8_refunds_0 : decode cX8_refunds 0 = .ok (.aload_n 0, 1) := by decide +kernel
theorem dX8_refunds_1 : decode cX8_refunds 1 = .ok (.getfield 243, 3) := by decide +kernel
theorem dX8_refunds_4 : decode cX8_refunds 4 = .ok (.lreturn, 1) := by decide +kernel
theorem dX8_hitShare_0 : decode cX8_hitShare 0 = .ok (.aload_n 0, 1) := by decide +kernel
theorem dX8_hitShare_1 : decode cX8_hitShare 1 = .ok (.getfield 218, 3) := by decide +kernel
theorem dX8_hitShare_4 : decode cX8_hitShare 4 = .ok (.aload_n 0, 1) := by decide +kernel
theorem dX8_hitShare_5 : decode cX8_hitShare 5 = .ok (.getfield 221, 3) := by decide +kernel
theorem dX8_hitShare_8 : decode cX8_hitShare 8 = .ok (.iadd, 1) := by decide +kernel
theorem dX8_hitShare_9 : decode cX8_hitShare 9 = .ok (.istore_n 1, 1) := by decide +kernel
theorem dX8_hitShare_10 : decode cX8_hitShare 10 = .ok (.iload_n 1, 1) := by decide +kernel
theorem dX8_hitShare_11 : decode cX8_hitShare 11 = .ok (.ifCond .ne 10, 3) := by decide +kernel
theorem dX8_hitShare_14 : decode cX8_hitShare 14 = .ok (.aload_n 0, 1) := by decide +kernel
theorem dX8_hitShare_15 : decode cX8_hitShare 15 = .ok (.iconst 1, 1) := by decide +kernel
theorem dX8_hitShare_16 : decode cX8_hitShare 16 = .ok (.invokevirtual 249, 3) := by decide +kernel
theorem dX8_hitShare_19 : decode cX8_hitShare 19 = .ok (.i2f, 1) := by decide +kernel
theorem dX8_hitShare_20 : decode cX8_hitShare 20 = .ok (.freturn, 1) := by decide +kernel
theorem dX8_hitShare_21 : decode cX8_hitShare 21 = .ok (.aload_n 0, 1) := by decide +kernel
theorem dX8_hitShare_22 : decode cX8_hitShare 22 = .ok (.iconst 0, 1) := by decide +kernel
theorem dX8_hitShare_23 : decode cX8_hitShare 23 = .ok (.putfield 103, 3) := by decide +kernel
theorem dX8_hitShare_26 : decode cX8_hitShare 26 = .ok (.aload_n 0, 1) := by decide +kernel
theorem dX8_hitShare_27 : decode cX8_hitShare 27 = .ok (.getfield 218, 3) := by decide +kernel
theorem dX8_hitShare_30 : decode cX8_hitShare 30 = .ok (.i2f, 1) := by decide +kernel
theorem dX8_hitShare_31 : decode cX8_hitShare 31 = .ok (.iload_n 1, 1) := by decide +kernel
theorem dX8_hitShare_32 : decode cX8_hitShare 32 = .ok (.i2f, 1) := by decide +kernel
theorem dX8_hitShare_33 : decode cX8_hitShare 33 = .ok (.fdiv, 1) := by decide +kernel
theorem dX8_hitShare_34 : decode cX8_hitShare 34 = .ok (.freturn, 1) := by decide +kernel
theorem dX8_meanPrice_0 : decode cX8_meanPrice 0 = .ok (.aload_n 0, 1) := by decide +kernel
theorem dX8_meanPrice_1 : decode cX8_meanPrice 1 = .ok (.aload_n 0, 1) := by decide +kernel
theorem dX8_meanPrice_2 : decode cX8_meanPrice 2 = .ok (.getfield 224, 3) := by decide +kernel
theorem dX8_meanPrice_5 : decode cX8_meanPrice 5 = .ok (.ifCond .le 7, 3) := by decide +kernel
theorem dX8_meanPrice_8 : decode cX8_meanPrice 8 = .ok (.iconst 1, 1) := by decide +kernel
theorem dX8_meanPrice_9 : decode cX8_meanPrice 9 = .ok (.goto 4, 3) := by decide +kernel
theorem dX8_meanPrice_12 : decode cX8_meanPrice 12 = .ok (.iconst 0, 1) := by decide +kernel
theorem dX8_meanPrice_13 : decode cX8_meanPrice 13 = .ok (.iconst 1, 1) := by decide +kernel
theorem dX8_meanPrice_14 : decode cX8_meanPrice 14 = .ok (.invokevirtual 109, 3) := by decide +kernel
theorem dX8_meanPrice_17 : decode cX8_meanPrice 17 = .ok (.ifCond .eq 7, 3) := by decide +kernel
theorem dX8_meanPrice_20 : decode cX8_meanPrice 20 = .ok (.dconst 0, 1) := by decide +kernel
theorem dX8_meanPrice_21 : decode cX8_meanPrice 21 = .ok (.goto 14, 3) := by decide +kernel
theorem dX8_meanPrice_24 : decode cX8_meanPrice 24 = .ok (.aload_n 0, 1) := by decide +kernel
theorem dX8_meanPrice_25 : decode cX8_meanPrice 25 = .ok (.getfield 227, 3) := by decide +kernel
theorem dX8_meanPrice_28 : decode cX8_meanPrice 28 = .ok (.l2d, 1) := by decide +kernel
theorem dX8_meanPrice_29 : decode cX8_meanPrice 29 = .ok (.aload_n 0, 1) := by decide +kernel
theorem dX8_meanPrice_30 : decode cX8_meanPrice 30 = .ok (.getfield 224, 3) := by decide +kernel
theorem dX8_meanPrice_33 : decode cX8_meanPrice 33 = .ok (.i2d, 1) := by decide +kernel
theorem dX8_meanPrice_34 : decode cX8_meanPrice 34 = .ok (.ddiv, 1) := by decide +kernel
theorem dX8_meanPrice_35 : decode cX8_meanPrice 35 = .ok (.dreturn, 1) := by decide +kernel
theorem dX8_isSound_0 : decode cX8_isSound 0 = .ok (.iconst 1, 1) := by decide +kernel
theorem dX8_isSound_1 : decode cX8_isSound 1 = .ok (.ireturn, 1) := by decide +kernel
