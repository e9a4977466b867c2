theorem dX11_within_0 : decode cX11_within 0 = .ok (.lload_n 0, 1) := by decide +kernel
theorem dX11_within_1 : decode cX11_within 1 = .ok (.lload_n 2, 1) := by decide +kernel
theorem dX11_within_2 : decode cX11_within 2 = .ok (.lcmp, 1) := by decide +kernel
theorem dX11_within_3 : decode cX11_within 3 = .ok (.ifCond .lt 14, 3) := by decide +kernel
theorem dX11_within_6 : decode cX11_within 6 = .ok (.lload_n 0, 1) := by decide +kernel
theorem dX11_within_7 : decode cX11_within 7 = .ok (.lload 4, 2) := by decide +kernel
theorem dX11_within_9 : decode cX11_within 9 = .ok (.lcmp, 1) := by decide +kernel
theorem dX11_within_10 : decode cX11_within 10 = .ok (.ifCond .gt 7, 3) := by decide +kernel
theorem dX11_within_13 : decode cX11_within 13 = .ok (.iconst 1, 1) := by decide +kernel
theorem dX11_within_14 : decode cX11_within 14 = .ok (.goto 4, 3) := by decide +kernel
theorem dX11_within_17 : decode cX11_within 17 = .ok (.iconst 0, 1) := by decide +kernel
theorem dX11_within_18 : decode cX11_within 18 = .ok (.ireturn, 1) := by decide +kernel
theorem dX11_isIn_0 : decode cX11_isIn 0 = .ok (.iload_n 0, 1) := by decide +kernel
theorem dX11_isIn_1 : decode cX11_isIn 1 = .ok (.iload_n 1, 1) := by decide +kernel
theorem dX11_isIn_2 : decode cX11_isIn 2 = .ok (.ishr, 1) := by decide +kernel
theorem dX11_isIn_3 : decode cX11_isIn 3 = .ok (.iconst 1, 1) := by decide +kernel
theorem dX11_isIn_4 : decode cX11_isIn 4 = .ok (.iand, 1) := by decide +kernel
theorem dX11_isIn_5 : decode cX11_isIn 5 = .ok (.iconst 1, 1) := by decide +kernel
theorem dX11_isIn_6 : decode cX11_isIn 6 = .ok (.if_icmp .ne 7, 3) := by decide +kernel
theorem dX11_isIn_9 : decode cX11_isIn 9 = .ok (.iconst 1, 1) := by decide +kernel
theorem dX11_isIn_10 : decode cX11_isIn 10 = .ok (.goto 4, 3) := by decide +kernel
theorem dX11_isIn_13 : decode cX11_isIn 13 = .ok (.iconst 0, 1) := by decide +kernel
theorem dX11_isIn_14 : decode cX11_isIn 14 = .ok (.ireturn, 1) := by decide +kernel
theorem dX11_bitsOf_0 : decode cX11_bitsOf 0 = .ok (.iconst 0, 1) := by decide +kernel
theorem dX11_bitsOf_1 : decode cX11_bitsOf 1 = .ok (.istore_n 1, 1) := by decide +kernel
theorem dX11_bitsOf_2 : decode cX11_bitsOf 2 = .ok (.iconst 0, 1) := by decide +kernel
theorem dX11_bitsOf_3 : decode cX11_bitsOf 3 = .ok (.istore_n 2, 1) := by decide +kernel
theorem dX11_bitsOf_4 : decode cX11_bitsOf 4 = .ok (.iload_n 2, 1) := by decide +kernel
theorem dX11_bitsOf_5 : decode cX11_bitsOf 5 = .ok (.bipush 16, 2) := by decide +kernel
theorem dX11_bitsOf_7 : decode cX11_bitsOf 7 = .ok (.if_icmp .ge 17, 3) := by decide +kernel
theorem dX11_bitsOf_10 : decode cX11_bitsOf 10 = .ok (.iload_n 1, 1) := by decide +kernel
theorem dX11_bitsOf_11 : decode cX11_bitsOf 11 = .ok (.iload_n 0, 1) := by decide +kernel
theorem dX11_bitsOf_12 : decode cX11_bitsOf 12 = .ok (.iload_n 2, 1) := by decide +kernel
theorem dX11_bitsOf_13 : decode cX11_bitsOf 13 = .ok (.ishr, 1) := by decide +kernel
theorem dX11_bitsOf_14 : decode cX11_bitsOf 14 = .ok (.iconst 1, 1) := by decide +kernel
theorem dX11_bitsOf_15 : decode cX11_bitsOf 15 = .ok (.iand, 1) := by decide +kernel
theorem dX11_bitsOf_16 : decode cX11_bitsOf 16 = .ok (.iadd, 1) := by decide +kernel
theorem dX11_bitsOf_17 : decode cX11_bitsOf 17 = .ok (.istore_n 1, 1) := by decide +kernel
theorem dX11_bitsOf_18 : decode cX11_bitsOf 18 = .ok (.iinc 2 1, 3) := by decide +kernel
theorem dX11_bitsOf_21 : decode cX11_bitsOf 21 = .ok (.goto (-17), 3) := by decide +kernel
theorem dX11_bitsOf_24 : decode cX11_bitsOf 24 = .ok (.iload_n 1, 1) := by decide +kernel
theorem dX11_bitsOf_25 : decode cX11_bitsOf 25 = .ok (.ireturn, 1) := by decide +kernel
theorem dX11_init_0 : decode cX11_init 0 = .ok (.aload_n 0, 1) := by decide +kernel
theorem dX11_init_1 : decode cX11_init 1 = .ok (.invokespecial 3, 3) := by decide +kernel
theorem dX11_init_4 : decode cX11_init 4 = .ok (.aload_n 0, 1) := by decide +kernel
theorem dX11_init_5 : decode cX11_init 5 = .ok (.bipush 83, 2) := by decide +kernel
theorem dX11_init_7 : decode cX11_init 7 = .ok (.newarray .int, 2) := by decide +kernel
theorem dX11_init_9 : decode cX11_init 9 = .ok (.putfield 9, 3) := by decide +kernel
theorem dX11_init_12 : decode cX11_init 12 = .ok (.aload_n 0, 1) := by decide +kernel
theorem dX11_init_13 : decode cX11_init 13 = .ok (.bipush 40, 2) := by decide +kernel
theorem dX11_init_15 : decode cX11_init 15 = .ok (.newarray .int, 2) := by decide +kernel
theorem dX11_init_17 : decode cX11_init 17 = .ok (.putfield 13, 3) := by decide +kernel
theorem dX11_init_20 : decode cX11_init 20 = .ok (.aload_n 0, 1) := by decide +kernel
theorem dX11_init_21 : decode cX11_init 21 = .ok (.bipush 40, 2) := by decide +kernel
theorem dX11_init_23 : decode cX11_init 23 = .ok (.newarray .int, 2) := by decide +kernel
theorem dX11_init_25 : decode cX11_init 25 = .ok (.putfield 16, 3) := by decide +kernel
theorem dX11_init_28 : decode cX11_init 28 = .ok (.aload_n 0, 1) := by decide +kernel
theorem dX11_init_29 : decode cX11_init 29 = .ok (.bipush 40, 2) := by decide +kernel
theorem dX11_init_31 : decode cX11_init 31 = .ok (.newarray .int, 2) := by decide +kernel
theorem dX11_init_33 : decode cX11_init 33 = .ok (.putfield 19, 3) := by decide +kernel
theorem dX11_init_36 : decode cX11_init 36 = .ok (.aload_n 0, 1) := by decide +kernel
theorem dX11_init_37 : decode cX11_init 37 = .ok (.bipush 120, 2) := by decide +kernel
theorem dX11_init_39 : decode cX11_init 39 = .ok (.newarray .int, 2) := by decide +kernel
theorem dX11_init_41 : decode cX11_init 41 = .ok (.putfield 22, 3) := by decide +kernel
theorem dX11_init_44 : decode cX11_init 44 = .ok (.aload_n 0, 1) := by decide +kernel
theorem dX11_init_45 : decode cX11_init 45 = .ok (.bipush 120, 2) := by decide +kernel
theorem dX11_init_47 : decode cX11_init 47 = .ok (.newarray .int, 2) := by decide +kernel
theorem dX11_init_49 : decode cX11_init 49 = .ok (.putfield 25, 3) := by decide +kernel
theorem dX11_init_52 : decode cX11_init 52 = .ok (.aload_n 0, 1) := by decide +kernel
theorem dX11_init_53 : decode cX11_init 53 = .ok (.bipush 120, 2) := by decide +kernel
theorem dX11_init_55 : decode cX11_init 55 = .ok (.newarray .int, 2) := by decide +kernel
theorem dX11_init_57 : decode cX11_init 57 = .ok (.putfield 28, 3) := by decide +kernel
theorem dX11_init_60 : decode cX11_init 60 = .ok (.aload_n 0, 1) := by decide +kernel
theorem dX11_init_61 : decode cX11_init 61 = .ok (.bipush 120, 2) := by decide +kernel
theorem dX11_init_63 : decode cX11_init 63 = .ok (.newarray .int, 2) := by decide +kernel
theorem dX11_init_65 : decode cX11_init 65 = .ok (.putfield 31, 3) := by decide +kernel
theorem dX11_init_68 : decode cX11_init 68 = .ok (.aload_n 0, 1) := by decide +kernel
theorem dX11_init_69 : decode cX11_init 69 = .ok (.bipush 120, 2) := by decide +kernel
theorem dX11_init_71 : decode cX11_init 71 = .ok (.newarray .int, 2) := by decide +kernel
theorem dX11_init_73 : decode cX11_init 73 = .ok (.putfield 34, 3) := by decide +kernel
theorem dX11_init_76 : decode cX11_init 76 = .ok (.aload_n 0, 1) := by decide +kernel
theorem dX11_init_77 : decode cX11_init 77 = .ok (.bipush 120, 2) := by decide +kernel
theorem dX11_init_79 : decode cX11_init 79 = .ok (.newarray .int, 2) := by decide +kernel
theorem dX11_init_81 : decode cX11_init 81 = .ok (.putfield 37, 3) := by decide +kernel
theorem dX11_init_84 : decode cX11_init 84 = .ok (.aload_n 0, 1) := by decide +kernel
theorem dX11_init_85 : decode cX11_init 85 = .ok (.bipush 120, 2) := by decide +kernel
theorem dX11_init_87 : decode cX11_init 87 = .ok (.newarray .int, 2) := by decide +kernel
theorem dX11_init_89 : decode cX11_init 89 = .ok (.putfield 40, 3) := by decide +kernel
theorem dX11_init_92 : decode cX11_init 92 = .ok (.aload_n 0, 1) := by decide +kernel
theorem dX11_init_93 : decode cX11_init 93 = .ok (.bipush 120, 2) := by decide +kernel
theorem dX11_init_95 : decode cX11_init 95 = .ok (.newarray .int, 2) := by decide +kernel
theorem dX11_init_97 : decode cX11_init 97 = .ok (.putfield 43, 3) := by decide +kernel
theorem dX11_init_100 : decode cX11_init 100 = .ok (.aload_n 0, 1) := by decide +kernel
theorem dX11_init_101 : decode cX11_init 101 = .ok (.bipush 6, 2) := by decide +kernel
theorem dX11_init_103 : decode cX11_init 103 = .ok (.newarray .int, 2) := by decide +kernel
theorem dX11_init_105 : decode cX11_init 105 = .ok (.putfield 46, 3) := by decide +kernel
theorem dX11_init_108 : decode cX11_init 108 = .ok (.aload_n 0, 1) := by decide +kernel
theorem dX11_init_109 : decode cX11_init 109 = .ok (.bipush 10, 2) := by decide +kernel
theorem dX11_init_111 : decode cX11_init 111 = .ok (.newarray .int, 2) := by decide +kernel
theorem dX11_init_113 : decode cX11_init 113 = .ok (.putfield 49, 3) := by decide +kernel
theorem dX11_init_116 : decode cX11_init 116 = .ok (.aload_n 0, 1) := by decide +kernel
theorem dX11_init_117 : decode cX11_init 117 = .ok (.bipush 10, 2) := by decide +kernel
theorem dX11_init_119 : decode cX11_init 119 = .ok (.newarray .boolean, 2) := by decide +kernel
theorem dX11_init_121 : decode cX11_init 121 = .ok (.putfield 52, 3) := by decide +kernel
theorem dX11_init_124 : decode cX11_init 124 = .ok (.aload_n 0, 1) := by decide +kernel
theorem dX11_init_125 : decode cX11_init 125 = .ok (.iconst 4, 1) := by decide +kernel
theorem dX11_init_126 : decode cX11_init 126 = .ok (.newarray .int, 2) := by decide +kernel
theorem dX11_init_128 : decode cX11_init 128 = .ok (.putfield 56, 3) := by decide +kernel
theorem dX11_init_131 : decode cX11_init 131 = .ok (.aload_n 0, 1) := by decide +kernel
theorem dX11_init_132 : decode cX11_init 132 = .ok (.iconst 4, 1) := by decide +kernel
theorem dX11_init_133 : decode cX11_init 133 = .ok (.newarray .int, 2) := by decide +kernel
theorem dX11_init_135 : decode cX11_init 135 = .ok (.putfield 59, 3) := by decide +kernel
theorem dX11_init_138 : decode cX11_init 138 = .ok (.aload_n 0, 1) := by decide +kernel
theorem dX11_init_139 : decode cX11_init 139 = .ok (.iconst 5, 1) := by decide +kernel
theorem dX11_init_140 : decode cX11_init 140 = .ok (.newarray .int, 2) := by decide +kernel
theorem dX11_init_142 : decode cX11_init 142 = .ok (.putfield 62, 3) := by decide +kernel
theorem dX11_init_145 : decode cX11_init 145 = .ok (.aload_n 0, 1) := by decide +kernel
theorem dX11_init_146 : decode cX11_init 146 = .ok (.bipush 83, 2) := by decide +kernel
theorem dX11_init_148 : decode cX11_init 148 = .ok (.newarray .int, 2) := by decide +kernel
theorem dX11_init_150 : decode cX11_init 150 = .ok (.putfield 65, 3) := by decide +kernel
theorem dX11_init_153 : decode cX11_init 153 = .ok (.aload_n 0, 1) := by decide +kernel
theorem dX11_init_154 : decode cX11_init 154 = .ok (.iconst 5, 1) := by decide +kernel
theorem dX11_init_155 : decode cX11_init 155 = .ok (.newarray .int, 2) := by decide +kernel
theorem dX11_init_157 : decode cX11_init 157 = .ok (.putfield 68, 3) := by decide +kernel
theorem dX11_init_160 : decode cX11_init 160 = .ok (.aload_n 0, 1) := by decide +kernel
theorem dX11_init_161 : decode cX11_init 161 = .ok (.bipush 50, 2) := by decide +kernel
theorem dX11_init_163 : decode cX11_init 163 = .ok (.newarray .int, 2) := by decide +kernel
theorem dX11_init_165 : decode cX11_init 165 = .ok (.putfield 71, 3) := by decide +kernel
theorem dX11_init_168 : decode cX11_init 168 = .ok (.aload_n 0, 1) := by decide +kernel
theorem dX11_init_169 : decode cX11_init 169 = .ok (.bipush 24, 2) := by decide +kernel
theorem dX11_init_171 : decode cX11_init 171 = .ok (.newarray .int, 2) := by decide +kernel
theorem dX11_init_173 : decode cX11_init 173 = .ok (.putfield 74, 3) := by decide +kernel
theorem dX11_init_176 : decode cX11_init 176 = .ok (.aload_n 0, 1) := by decide +kernel
theorem dX11_init_177 : decode cX11_init 177 = .ok (.bipush 6, 2) := by decide +kernel
theorem dX11_init_179 : decode cX11_init 179 = .ok (.newarray .int, 2) := by decide +kernel
theorem dX11_init_181 : decode cX11_init 181 = .ok (.putfield 77, 3) := by decide +kernel
theorem dX11_init_184 : decode cX11_init 184 = .ok (.aload_n 0, 1) := by decide +kernel
theorem dX11_init_185 : decode cX11_init 185 = .ok (.bipush 6, 2) := by decide +kernel
theorem dX11_init_187 : decode cX11_init 187 = .ok (.newarray .int, 2) := by decide +kernel
theorem dX11_init_189 : decode cX11_init 189 = .ok (.putfield 80, 3) := by decide +kernel
theorem dX11_init_192 : decode cX11_init 192 = .ok (.aload_n 0, 1) := by decide +kernel
theorem dX11_init_193 : decode cX11_init 193 = .ok (.sipush 360, 3) := by decide +kernel
theorem dX11_init_196 : decode cX11_init 196 = .ok (.newarray .long, 2) := by decide +kernel
theorem dX11_init_198 : decode cX11_init 198 = .ok (.putfield 83, 3) := by decide +kernel
theorem dX11_init_201 : decode cX11_init 201 = .ok (.aload_n 0, 1) := by decide +kernel
theorem dX11_init_202 : decode cX11_init 202 = .ok (.bipush 60, 2) := by decide +kernel
theorem dX11_init_204 : decode cX11_init 204 = .ok (.newarray .long, 2) := by decide +kernel
theorem dX11_init_206 : decode cX11_init 206 = .ok (.putfield 87, 3) := by decide +kernel
theorem dX11_init_209 : decode cX11_init 209 = .ok (.iconst 0, 1) := by decide +kernel
theorem dX11_init_210 : decode cX11_init 210 = .ok (.istore_n 1, 1) := by decide +kernel
theorem dX11_init_211 : decode cX11_init 211 = .ok (.iload_n 1, 1) := by decide +kernel
theorem dX11_init_212 : decode cX11_init 212 = .ok (.bipush 6, 2) := by decide +kernel
theorem dX11_init_214 : decode cX11_init 214 = .ok (.if_icmp .ge 16, 3) := by decide +kernel
theorem dX11_init_217 : decode cX11_init 217 = .ok (.aload_n 0, 1) := by decide +kernel
theorem dX11_init_218 : decode cX11_init 218 = .ok (.getfield 77, 3) := by decide +kernel
theorem dX11_init_221 : decode cX11_init 221 = .ok (.iload_n 1, 1) := by decide +kernel
theorem dX11_init_222 : decode cX11_init 222 = .ok (.iconst (-1), 1) := by decide +kernel
theorem dX11_init_223 : decode cX11_init 223 = .ok (.iastore, 1) := by decide +kernel
theorem dX11_init_224 : decode cX11_init 224 = .ok (.iinc 1 1, 3) := by decide +kernel
theorem dX11_init_227 : decode cX11_init 227 = .ok (.goto (-16), 3) := by decide +kernel
theorem dX11_init_230 : decode cX11_init 230 = .ok (.iconst 0, 1) := by decide +kernel
theorem dX11_init_231 : decode cX11_init 231 = .ok (.istore_n 1, 1) := by decide +kernel
theorem dX11_init_232 : decode cX11_init 232 = .ok (.iload_n 1, 1) := by decide +kernel
theorem dX11_init_233 : decode cX11_init 233 = .ok (.bipush 16, 2) := by decide +kernel
theorem dX11_init_235 : decode cX11_init 235 = .ok (.if_icmp .ge 44, 3) := by decide +kernel
theorem dX11_init_238 : decode cX11_init 238 = .ok (.aload_n 0, 1) := by decide +kernel
theorem dX11_init_239 : decode cX11_init 239 = .ok (.getfield 9, 3) := by decide +kernel
theorem dX11_init_242 : decode cX11_init 242 = .ok (.bipush 50, 2) := by decide +kernel
theorem dX11_init_244 : decode cX11_init 244 = .ok (.iload_n 1, 1) := by decide +kernel
theorem dX11_init_245 : decode cX11_init 245 = .ok (.iadd, 1) := by decide +kernel
theorem dX11_init_246 : decode cX11_init 246 = .ok (.iload_n 1, 1) := by decide +kernel
theorem dX11_init_247 : decode cX11_init 247 = .ok (.bipush 15, 2) := by decide +kernel
theorem dX11_init_249 : decode cX11_init 249 = .ok (.if_icmp .ne 7, 3) := by decide +kernel
theorem dX11_init_252 : decode cX11_init 252 = .ok (.iload_n 1, 1) := by decide +kernel
theorem dX11_init_253 : decode cX11_init 253 = .ok (.goto 6, 3) := by decide +kernel
theorem dX11_init_256 : decode cX11_init 256 = .ok (.iload_n 1, 1) := by decide +kernel
theorem dX11_init_257 : decode cX11_init 257 = .ok (.iconst 1, 1) := by decide +kernel
theorem dX11_init_258 : decode cX11_init 258 = .ok (.iadd, 1) := by decide +kernel
theorem dX11_init_259 : decode cX11_init 259 = .ok (.iastore, 1) := by decide +kernel
theorem dX11_init_260 : decode cX11_init 260 = .ok (.aload_n 0, 1) := by decide +kernel
theorem dX11_init_261 : decode cX11_init 261 = .ok (.getfield 9, 3) := by decide +kernel
theorem dX11_init_264 : decode cX11_init 264 = .ok (.bipush 66, 2) := by decide +kernel
theorem dX11_init_266 : decode cX11_init 266 = .ok (.iload_n 1, 1) := by decide +kernel
theorem dX11_init_267 : decode cX11_init 267 = .ok (.iadd, 1) := by decide +kernel
theorem dX11_init_268 : decode cX11_init 268 = .ok (.iload_n 1, 1) := by decide +kernel
theorem dX11_init_269 : decode cX11_init 269 = .ok (.bipush 10, 2) := by decide +kernel
theorem dX11_init_271 : decode cX11_init 271 = .ok (.irem, 1) := by decide +kernel
theorem dX11_init_272 : decode cX11_init 272 = .ok (.iastore, 1) := by decide +kernel
theorem dX11_init_273 : decode cX11_init 273 = .ok (.iinc 1 1, 3) := by decide +kernel
theorem dX11_init_276 : decode cX11_init 276 = .ok (.goto (-44), 3) := by decide +kernel
theorem dX11_init_279 : decode cX11_init 279 = .ok (.return_, 1) := by decide +kernel
theorem dX11_becomes_0 : decode cX11_becomes 0 = .ok (.aload_n 0, 1) := by decide +kernel
theorem dX11_becomes_1 : decode cX11_becomes 1 = .ok (.getfield 9, 3) := by decide +kernel
theorem dX11_becomes_4 : decode cX11_becomes 4 = .ok (.iload_n 1, 1) := by decide +kernel
theorem dX11_becomes_5 : decode cX11_becomes 5 = .ok (.iaload, 1) := by decide +kernel
theorem dX11_becomes_6 : decode cX11_becomes 6 = .ok (.istore_n 3, 1) := by decide +kernel
theorem dX11_becomes_7 : decode cX11_becomes 7 = .ok (.iload_n 3, 1) := by decide +kernel
theorem dX11_becomes_8 : decode cX11_becomes 8 = .ok (.iload_n 2, 1) := by decide +kernel
theorem dX11_becomes_9 : decode cX11_becomes 9 = .ok (.if_icmp .ne 5, 3) := by decide +kernel
theorem dX11_becomes_12 : decode cX11_becomes 12 = .ok (.iload_n 3, 1) := by decide +kernel
theorem dX11_becomes_13 : decode cX11_becomes 13 = .ok (.ireturn, 1) := by decide +kernel
theorem dX11_becomes_14 : decode cX11_becomes 14 = .ok (.aload_n 0, 1) := by decide +kernel
theorem dX11_becomes_15 : decode cX11_becomes 15 = .ok (.getfield 90, 3) := by decide +kernel
theorem dX11_becomes_18 : decode cX11_becomes 18 = .ok (.bipush 40, 2) := by decide +kernel
theorem dX11_becomes_20 : decode cX11_becomes 20 = .ok (.if_icmp .ne 77, 3) := by decide +kernel
theorem dX11_becomes_23 : decode cX11_becomes 23 = .ok (.iconst 1, 1) := by decide +kernel
theorem dX11_becomes_24 : decode cX11_becomes 24 = .ok (.istore 4, 2) := by decide +kernel
theorem dX11_becomes_26 : decode cX11_becomes 26 = .ok (.iload 4, 2) := by decide +kernel
theorem dX11_becomes_28 : decode cX11_becomes 28 = .ok (.bipush 40, 2) := by decide +kernel
theorem dX11_becomes_30 : decode cX11_becomes 30 = .ok (.if_icmp .ge 57, 3) := by decide +kernel
theorem dX11_becomes_33 : decode cX11_becomes 33 = .ok (.aload_n 0, 1) := by decide +kernel
theorem dX11_becomes_34 : decode cX11_becomes 34 = .ok (.getfield 13, 3) := by decide +kernel
theorem dX11_becomes_37 : decode cX11_becomes 37 = .ok (.iload 4, 2) := by decide +kernel
theorem dX11_becomes_39 : decode cX11_becomes 39 = .ok (.iconst 1, 1) := by decide +kernel
theorem dX11_becomes_40 : decode cX11_becomes 40 = .ok (.isub, 1) := by decide +kernel
theorem dX11_becomes_41 : decode cX11_becomes 41 = .ok (.aload_n 0, 1) := by decide +kernel
theorem dX11_becomes_42 : decode cX11_becomes 42 = .ok (.getfield 13, 3) := by decide +kernel
theorem dX11_becomes_45 : decode cX11_becomes 45 = .ok (.iload 4, 2) := by decide +kernel
theorem dX11_becomes_47 : decode cX11_becomes 47 = .ok (.iaload, 1) := by decide +kernel
theorem dX11_becomes_48 : decode cX11_becomes 48 = .ok (.iastore, 1) := by decide +kernel
theorem dX11_becomes_49 : decode cX11_becomes 49 = .ok (.aload_n 0, 1) := by decide +kernel
theorem dX11_becomes_50 : decode cX11_becomes 50 = .ok (.getfield 16, 3) := by decide +kernel
theorem dX11_becomes_53 : decode cX11_becomes 53 = .ok (.iload 4, 2) := by decide +kernel
theorem dX11_becomes_55 : decode cX11_becomes 55 = .ok (.iconst 1, 1) := by decide +kernel
theorem dX11_becomes_56 : decode cX11_becomes 56 = .ok (.isub, 1) := by decide +kernel
theorem dX11_becomes_57 : decode cX11_becomes 57 = .ok (.aload_n 0, 1) := by decide +kernel
theorem dX11_becomes_58 : decode cX11_becomes 58 = .ok (.getfield 16, 3) := by decide +kernel
theorem dX11_becomes_61 : decode cX11_becomes 61 = .ok (.iload 4, 2) := by decide +kernel
theorem dX11_becomes_63 : decode cX11_becomes 63 = .ok (.iaload, 1) := by decide +kernel
theorem dX11_becomes_64 : decode cX11_becomes 64 = .ok (.iastore, 1) := by decide +kernel
theorem dX11_becomes_65 : decode cX11_becomes 65 = .ok (.aload_n 0, 1) := by decide +kernel
theorem dX11_becomes_66 : decode cX11_becomes 66 = .ok (.getfield 19, 3) := by decide +kernel
theorem dX11_becomes_69 : decode cX11_becomes 69 = .ok (.iload 4, 2) := by decide +kernel
theorem dX11_becomes_71 : decode cX11_becomes 71 = .ok (.iconst 1, 1) := by decide +kernel
theorem dX11_becomes_72 : decode cX11_becomes 72 = .ok (.isub, 1) := by decide +kernel
theorem dX11_becomes_73 : decode cX11_becomes 73 = .ok (.aload_n 0, 1) := by decide +kernel
theorem dX11_becomes_74 : decode cX11_becomes 74 = .ok (.getfield 19, 3) := by decide +kernel
theorem dX11_becomes_77 : decode cX11_becomes 77 = .ok (.iload 4, 2) := by decide +kernel
theorem dX11_becomes_79 : decode cX11_becomes 79 = .ok (.iaload, 1) := by decide +kernel
theorem dX11_becomes_80 : decode cX11_becomes 80 = .ok (.iastore, 1) := by decide +kernel
theorem dX11_becomes_81 : decode cX11_becomes 81 = .ok (.iinc 4 1, 3) := by decide +kernel
theorem dX11_becomes_84 : decode cX11_becomes 84 = .ok (.goto (-58), 3) := by decide +kernel
theorem dX11_becomes_87 : decode cX11_becomes 87 = .ok (.aload_n 0, 1) := by decide +kernel
theorem dX11_becomes_88 : decode cX11_becomes 88 = .ok (.dup, 1) := by decide +kernel
theorem dX11_becomes_89 : decode cX11_becomes 89 = .ok (.getfield 90, 3) := by decide +kernel
theorem dX11_becomes_92 : decode cX11_becomes 92 = .ok (.iconst 1, 1) := by decide +kernel
theorem dX11_becomes_93 : decode cX11_becomes 93 = .ok (.isub, 1) := by decide +kernel
theorem dX11_becomes_94 : decode cX11_becomes 94 = .ok (.putfield 90, 3) := by decide +kernel
theorem dX11_becomes_97 : decode cX11_becomes 97 = .ok (.aload_n 0, 1) := by decide +kernel
theorem dX11_becomes_98 : decode cX11_becomes 98 = .ok (.getfield 13, 3) := by decide +kernel
theorem dX11_becomes_101 : decode cX11_becomes 101 = .ok (.aload_n 0, 1) := by decide +kernel
theorem dX11_becomes_102 : decode cX11_becomes 102 = .ok (.getfield 90, 3) := by decide +kernel
theorem dX11_becomes_105 : decode cX11_becomes 105 = .ok (.iload_n 1, 1) := by decide +kernel
theorem dX11_becomes_106 : decode cX11_becomes 106 = .ok (.iastore, 1) := by decide +kernel
theorem dX11_becomes_107 : decode cX11_becomes 107 = .ok (.aload_n 0, 1) := by decide +kernel
theorem dX11_becomes_108 : decode cX11_becomes 108 = .ok (.getfield 16, 3) := by decide +kernel
theorem dX11_becomes_111 : decode cX11_becomes 111 = .ok (.aload_n 0, 1) := by decide +kernel
theorem dX11_becomes_112 : decode cX11_becomes 112 = .ok (.getfield 90, 3) := by decide +kernel
theorem dX11_becomes_115 : decode cX11_becomes 115 = .ok (.iload_n 3, 1) := by decide +kernel
theorem dX11_becomes_116 : decode cX11_becomes 116 = .ok (.iastore, 1) := by decide +kernel
theorem dX11_becomes_117 : decode cX11_becomes 117 = .ok (.aload_n 0, 1) := by decide +kernel
theorem dX11_becomes_118 : decode cX11_becomes 118 = .ok (.getfield 19, 3) := by decide +kernel
theorem dX11_becomes_121 : decode cX11_becomes 121 = .ok (.aload_n 0, 1) := by decide +kernel
theorem dX11_becomes_122 : decode cX11_becomes 122 = .ok (.getfield 90, 3) := by decide +kernel
theorem dX11_becomes_125 : decode cX11_becomes 125 = .ok (.iload_n 2, 1) := by decide +kernel
theorem dX11_becomes_126 : decode cX11_becomes 126 = .ok (.iastore, 1) := by decide +kernel
theorem dX11_becomes_127 : decode cX11_becomes 127 = .ok (.aload_n 0, 1) := by decide +kernel
theorem dX11_becomes_128 : decode cX11_becomes 128 = .ok (.dup, 1) := by decide +kernel
theorem dX11_becomes_129 : decode cX11_becomes 129 = .ok (.getfield 90, 3) := by decide +kernel
theorem dX11_becomes_132 : decode cX11_becomes 132 = .ok (.iconst 1, 1) := by decide +kernel
theorem dX11_becomes_133 : decode cX11_becomes 133 = .ok (.iadd, 1) := by decide +kernel
theorem dX11_becomes_134 : decode cX11_becomes 134 = .ok (.putfield 90, 3) := by decide +kernel
theorem dX11_becomes_137 : decode cX11_becomes 137 = .ok (.aload_n 0, 1) := by decide +kernel
theorem dX11_becomes_138 : decode cX11_becomes 138 = .ok (.aload_n 0, 1) := by decide +kernel
theorem dX11_becomes_139 : decode cX11_becomes 139 = .ok (.getfield 90, 3) := by decide +kernel
theorem dX11_becomes_142 : decode cX11_becomes 142 = .ok (.putfield 94, 3) := by decide +kernel
theorem dX11_becomes_145 : decode cX11_becomes 145 = .ok (.aload_n 0, 1) := by decide +kernel
theorem dX11_becomes_146 : decode cX11_becomes 146 = .ok (.getfield 9, 3) := by decide +kernel
theorem dX11_becomes_149 : decode cX11_becomes 149 = .ok (.iload_n 1, 1) := by decide +kernel
theorem dX11_becomes_150 : decode cX11_becomes 150 = .ok (.iload_n 2, 1) := by decide +kernel
theorem dX11_becomes_151 : decode cX11_becomes 151 = .ok (.iastore, 1) := by decide +kernel
theorem dX11_becomes_152 : decode cX11_becomes 152 = .ok (.iload_n 3, 1) := by decide +kernel
theorem dX11_becomes_153 : decode cX11_becomes 153 = .ok (.ireturn, 1) := by decide +kernel
theorem dX11_undo_0 : decode cX11_undo 0 = .ok (.aload_n 0, 1) := by decide +kernel
theorem dX11_undo_1 : decode cX11_undo 1 = .ok (.getfield 90, 3) := by decide +kernel
theorem dX11_undo_4 : decode cX11_undo 4 = .ok (.ifCond .ne 6, 3) := by decide +kernel
theorem dX11_undo_7 : decode cX11_undo 7 = .ok (.bipush (-5), 2) := by decide +kernel
theorem dX11_undo_9 : decode cX11_undo 9 = .ok (.ireturn, 1) := by decide +kernel
theorem dX11_undo_10 : decode cX11_undo 10 = .ok (.aload_n 0, 1) := by decide +kernel
theorem dX11_undo_11 : decode cX11_undo 11 = .ok (.dup, 1) := by decide +kernel
theorem dX11_undo_12 : decode cX11_undo 12 = .ok (.getfield 90, 3) := by decide +kernel
theorem dX11_undo_15 : decode cX11_undo 15 = .ok (.iconst 1, 1) := by decide +kernel
theorem dX11_undo_16 : decode cX11_undo 16 = .ok (.isub, 1) := by decide +kernel
theorem dX11_undo_17 : decode cX11_undo 17 = .ok (.putfield 90, 3) := by decide +kernel
theorem dX11_undo_20 : decode cX11_undo 20 = .ok (.aload_n 0, 1) := by decide +kernel
theorem dX11_undo_21 : decode cX11_undo 21 = .ok (.getfield 9, 3) := by decide +kernel
theorem dX11_undo_24 : decode cX11_undo 24 = .ok (.aload_n 0, 1) := by decide +kernel
theorem dX11_undo_25 : decode cX11_undo 25 = .ok (.getfield 13, 3) := by decide +kernel
theorem dX11_undo_28 : decode cX11_undo 28 = .ok (.aload_n 0, 1) := by decide +kernel
theorem dX11_undo_29 : decode cX11_undo 29 = .ok (.getfield 90, 3) := by decide +kernel
theorem dX11_undo_32 : decode cX11_undo 32 = .ok (.iaload, 1) := by decide +kernel
theorem dX11_undo_33 : decode cX11_undo 33 = .ok (.aload_n 0, 1) := by decide +kernel
theorem dX11_undo_34 : decode cX11_undo 34 = .ok (.getfield 16, 3) := by decide +kernel
theorem dX11_undo_37 : decode cX11_undo 37 = .ok (.aload_n 0, 1) := by decide +kernel
theorem dX11_undo_38 : decode cX11_undo 38 = .ok (.getfield 90, 3) := by decide +kernel
theorem dX11_undo_41 : decode cX11_undo 41 = .ok (.iaload, 1) := by decide +kernel
theorem dX11_undo_42 : decode cX11_undo 42 = .ok (.iastore, 1) := by decide +kernel
theorem dX11_undo_43 : decode cX11_undo 43 = .ok (.aload_n 0, 1) := by decide +kernel
theorem dX11_undo_44 : decode cX11_undo 44 = .ok (.getfield 90, 3) := by decide +kernel
theorem dX11_undo_47 : decode cX11_undo 47 = .ok (.ireturn, 1) := by decide +kernel
theorem dX11_redo_0 : decode cX11_redo 0 = .ok (.aload_n 0, 1) := by decide +kernel
theorem dX11_redo_1 : decode cX11_redo 1 = .ok (.getfield 90, 3) := by decide +kernel
theorem dX11_redo_4 : decode cX11_redo 4 = .ok (.aload_n 0, 1) := by decide +kernel
theorem dX11_redo_5 : decode cX11_redo 5 = .ok (.getfield 94, 3) := by decide +kernel
theorem dX11_redo_8 : decode cX11_redo 8 = .ok (.if_icmp .ne 6, 3) := by decide +kernel
theorem dX11_redo_11 : decode cX11_redo 11 = .ok (.bipush (-5), 2) := by decide +kernel
theorem dX11_redo_13 : decode cX11_redo 13 = .ok (.ireturn, 1) := by decide +kernel
theorem dX11_redo_14 : decode cX11_redo 14 = .ok (.aload_n 0, 1) := by decide +kernel
theorem dX11_redo_15 : decode cX11_redo 15 = .ok (.getfield 9, 3) := by decide +kernel
theorem dX11_redo_18 : decode cX11_redo 18 = .ok (.aload_n 0, 1) := by decide +kernel
theorem dX11_redo_19 : decode cX11_redo 19 = .ok (.getfield 13, 3) := by decide +kernel
theorem dX11_redo_22 : decode cX11_redo 22 = .ok (.aload_n 0, 1) := by decide +kernel
theorem dX11_redo_23 : decode cX11_redo 23 = .ok (.getfield 90, 3) := by decide +kernel
theorem dX11_redo_26 : decode cX11_redo 26 = .ok (.iaload, 1) := by decide +kernel
theorem dX11_redo_27 : decode cX11_redo 27 = .ok (.aload_n 0, 1) := by decide +kernel
theorem dX11_redo_28 : decode cX11_redo 28 = .ok (.getfield 19, 3) := by decide +kernel
theorem dX11_redo_31 : decode cX11_redo 31 = .ok (.aload_n 0, 1) := by decide +kernel
theorem dX11_redo_32 : decode cX11_redo 32 = .ok (.getfield 90, 3) := by decide +kernel
theorem dX11_redo_35 : decode cX11_redo 35 = .ok (.iaload, 1) := by decide +kernel
theorem dX11_redo_36 : decode cX11_redo 36 = .ok (.iastore, 1) := by decide +kernel
theorem dX11_redo_37 : decode cX11_redo 37 = .ok (.aload_n 0, 1) := by decide +kernel
theorem dX11_redo_38 : decode cX11_redo 38 = .ok (.dup, 1) := by decide +kernel
theorem dX11_redo_39 : decode cX11_redo 39 = .ok (.getfield 90, 3) := by decide +kernel
theorem dX11_redo_42 : decode cX11_redo 42 = .ok (.iconst 1, 1) := by decide +kernel
theorem dX11_redo_43 : decode cX11_redo 43 = .ok (.iadd, 1) := by decide +kernel
theorem dX11_redo_44 : decode cX11_redo 44 = .ok (.putfield 90, 3) := by decide +kernel
theorem dX11_redo_47 : decode cX11_redo 47 = .ok (.aload_n 0, 1) := by decide +kernel
theorem dX11_redo_48 : decode cX11_redo 48 = .ok (.getfield 94, 3) := by decide +kernel
theorem dX11_redo_51 : decode cX11_redo 51 = .ok (.aload_n 0, 1) := by decide +kernel
theorem dX11_redo_52 : decode cX11_redo 52 = .ok (.getfield 90, 3) := by decide +kernel
theorem dX11_redo_55 : decode cX11_redo 55 = .ok (.isub, 1) := by decide +kernel
theorem dX11_redo_56 : decode cX11_redo 56 = .ok (.ireturn, 1) := by decide +kernel
theorem dX11_isBlock_0 : decode cX11_isBlock 0 = .ok (.lload_n 1, 1) := by decide +kernel
theorem dX11_isBlock_1 : decode cX11_isBlock 1 = .ok (.lconst 0, 1) := by decide +kernel
theorem dX11_isBlock_2 : decode cX11_isBlock 2 = .ok (.aload_n 0, 1) := by decide +kernel
theorem dX11_isBlock_3 : decode cX11_isBlock 3 = .ok (.getfield 97, 3) := by decide +kernel
theorem dX11_isBlock_6 : decode cX11_isBlock 6 = .ok (.iconst 1, 1) := by decide +kernel
theorem dX11_isBlock_7 : decode cX11_isBlock 7 = .ok (.isub, 1) := by decide +kernel
theorem dX11_isBlock_8 : decode cX11_isBlock 8 = .ok (.i2l, 1) := by decide +kernel
theorem dX11_isBlock_9 : decode cX11_isBlock 9 = .ok (.invokestatic 100, 3) := by decide +kernel
theorem dX11_isBlock_12 : decode cX11_isBlock 12 = .ok (.ireturn, 1) := by decide +kernel
theorem dX11_isThought_0 : decode cX11_isThought 0 = .ok (.lload_n 0, 1) := by decide +kernel
theorem dX11_isThought_1 : decode cX11_isThought 1 = .ok (.lconst 0, 1) := by decide +kernel
theorem dX11_isThought_2 : decode cX11_isThought 2 = .ok (.ldc2_w 104, 3) := by decide +kernel
theorem dX11_isThought_5 : decode cX11_isThought 5 = .ok (.invokestatic 100, 3) := by decide +kernel
theorem dX11_isThought_8 : decode cX11_isThought 8 = .ok (.ireturn, 1) := by decide +kernel
theorem dX11_mayCome_0 : decode cX11_mayCome 0 = .ok (.lload_n 0, 1) := by decide +kernel
theorem dX11_mayCome_1 : decode cX11_mayCome 1 = .ok (.lconst 0, 1) := by decide +kernel
theorem dX11_mayCome_2 : decode cX11_mayCome 2 = .ok (.ldc2_w 106, 3) := by decide +kernel
theorem dX11_mayCome_5 : decode cX11_mayCome 5 = .ok (.invokestatic 100, 3) := by decide +kernel
theorem dX11_mayCome_8 : decode cX11_mayCome 8 = .ok (.ifCond .eq 26, 3) := by decide +kernel
theorem dX11_mayCome_11 : decode cX11_mayCome 11 = .ok (.lload_n 2, 1) := by decide +kernel
theorem dX11_mayCome_12 : decode cX11_mayCome 12 = .ok (.invokestatic 108, 3) := by decide +kernel
theorem dX11_mayCome_15 : decode cX11_mayCome 15 = .ok (.ifCond .eq 19, 3) := by decide +kernel
theorem dX11_mayCome_18 : decode cX11_mayCome 18 = .ok (.lload 4, 2) := by decide +kernel
theorem dX11_mayCome_20 : decode cX11_mayCome 20 = .ok (.lconst 0, 1) := by decide +kernel
theorem dX11_mayCome_21 : decode cX11_mayCome 21 = .ok (.ldc2_w 106, 3) := by decide +kernel
theorem dX11_mayCome_24 : decode cX11_mayCome 24 = .ok (.invokestatic 100, 3) := by decide +kernel
theorem dX11_mayCome_27 : decode cX11_mayCome 27 = .ok (.ifCond .eq 7, 3) := by decide +kernel
theorem dX11_mayCome_30 : decode cX11_mayCome 30 = .ok (.iconst 1, 1) := by decide +kernel
theorem dX11_mayCome_31 : decode cX11_mayCome 31 = .ok (.goto 4, 3) := by decide +kernel
theorem dX11_mayCome_34 : decode cX11_mayCome 34 = .ok (.iconst 0, 1) := by decide +kernel
theorem dX11_mayCome_35 : decode cX11_mayCome 35 = .ok (.ireturn, 1) := by decide +kernel
theorem dX11_adds_0 : decode cX11_adds 0 = .ok (.aload_n 0, 1) := by decide +kernel
theorem dX11_adds_1 : decode cX11_adds 1 = .ok (.getfield 9, 3) := by decide +kernel
theorem dX11_adds_4 : decode cX11_adds 4 = .ok (.aload_n 0, 1) := by decide +kernel
theorem dX11_adds_5 : decode cX11_adds 5 = .ok (.getfield 97, 3) := by decide +kernel
theorem dX11_adds_8 : decode cX11_adds 8 = .ok (.iload_n 1, 1) := by decide +kernel
theorem dX11_adds_9 : decode cX11_adds 9 = .ok (.iastore, 1) := by decide +kernel
theorem dX11_adds_10 : decode cX11_adds 10 = .ok (.aload_n 0, 1) := by decide +kernel
theorem dX11_adds_11 : decode cX11_adds 11 = .ok (.getfield 9, 3) := by decide +kernel
theorem dX11_adds_14 : decode cX11_adds 14 = .ok (.bipush 10, 2) := by decide +kernel
theorem dX11_adds_16 : decode cX11_adds 16 = .ok (.aload_n 0, 1) := by decide +kernel
theorem dX11_adds_17 : decode cX11_adds 17 = .ok (.getfield 97, 3) := by decide +kernel
theorem dX11_adds_20 : decode cX11_adds 20 = .ok (.iadd, 1) := by decide +kernel
theorem dX11_adds_21 : decode cX11_adds 21 = .ok (.iload_n 2, 1) := by decide +kernel
theorem dX11_adds_22 : decode cX11_adds 22 = .ok (.iastore, 1) := by decide +kernel
theorem dX11_adds_23 : decode cX11_adds 23 = .ok (.aload_n 0, 1) := by decide +kernel
theorem dX11_adds_24 : decode cX11_adds 24 = .ok (.getfield 9, 3) := by decide +kernel
theorem dX11_adds_27 : decode cX11_adds 27 = .ok (.bipush 20, 2) := by decide +kernel
theorem dX11_adds_29 : decode cX11_adds 29 = .ok (.aload_n 0, 1) := by decide +kernel
theorem dX11_adds_30 : decode cX11_adds 30 = .ok (.getfield 97, 3) := by decide +kernel
theorem dX11_adds_33 : decode cX11_adds 33 = .ok (.iadd, 1) := by decide +kernel
theorem dX11_adds_34 : decode cX11_adds 34 = .ok (.iload_n 3, 1) := by decide +kernel
theorem dX11_adds_35 : decode cX11_adds 35 = .ok (.iastore, 1) := by decide +kernel
theorem dX11_adds_36 : decode cX11_adds 36 = .ok (.aload_n 0, 1) := by decide +kernel
theorem dX11_adds_37 : decode cX11_adds 37 = .ok (.dup, 1) := by decide +kernel
theorem dX11_adds_38 : decode cX11_adds 38 = .ok (.getfield 97, 3) := by decide +kernel
theorem dX11_adds_41 : decode cX11_adds 41 = .ok (.iconst 1, 1) := by decide +kernel
theorem dX11_adds_42 : decode cX11_adds 42 = .ok (.iadd, 1) := by decide +kernel
theorem dX11_adds_43 : decode cX11_adds 43 = .ok (.putfield 97, 3) := by decide +kernel
theorem dX11_adds_46 : decode cX11_adds 46 = .ok (.return_, 1) := by decide +kernel
theorem dX11_block_0 : decode cX11_block 0 = .ok (.iload_n 1, 1) := by decide +kernel
theorem dX11_block_1 : decode cX11_block 1 = .ok (.i2l, 1) := by decide +kernel
theorem dX11_block_2 : decode cX11_block 2 = .ok (.lconst 0, 1) := by decide +kernel
theorem dX11_block_3 : decode cX11_block 3 = .ok (.lconst 0, 1) := by decide +kernel
theorem dX11_block_4 : decode cX11_block 4 = .ok (.invokestatic 112, 3) := by decide +kernel
theorem dX11_block_7 : decode cX11_block 7 = .ok (.ifCond .ne 5, 3) := by decide +kernel
theorem dX11_block_10 : decode cX11_block 10 = .ok (.iconst (-1), 1) := by decide +kernel
theorem dX11_block_11 : decode cX11_block 11 = .ok (.ireturn, 1) := by decide +kernel
theorem dX11_block_12 : decode cX11_block 12 = .ok (.aload_n 0, 1) := by decide +kernel
theorem dX11_block_13 : decode cX11_block 13 = .ok (.getfield 97, 3) := by decide +kernel
theorem dX11_block_16 : decode cX11_block 16 = .ok (.bipush 10, 2) := by decide +kernel
theorem dX11_block_18 : decode cX11_block 18 = .ok (.if_icmp .ne 6, 3) := by decide +kernel
theorem dX11_block_21 : decode cX11_block 21 = .ok (.bipush (-3), 2) := by decide +kernel
theorem dX11_block_23 : decode cX11_block 23 = .ok (.ireturn, 1) := by decide +kernel
theorem dX11_block_24 : decode cX11_block 24 = .ok (.aload_n 0, 1) := by decide +kernel
theorem dX11_block_25 : decode cX11_block 25 = .ok (.iload_n 1, 1) := by decide +kernel
theorem dX11_block_26 : decode cX11_block 26 = .ok (.iconst 0, 1) := by decide +kernel
theorem dX11_block_27 : decode cX11_block 27 = .ok (.iconst 3, 1) := by decide +kernel
theorem dX11_block_28 : decode cX11_block 28 = .ok (.invokevirtual 115, 3) := by decide +kernel
theorem dX11_block_31 : decode cX11_block 31 = .ok (.aload_n 0, 1) := by decide +kernel
theorem dX11_block_32 : decode cX11_block 32 = .ok (.getfield 97, 3) := by decide +kernel
theorem dX11_block_35 : decode cX11_block 35 = .ok (.iconst 1, 1) := by decide +kernel
theorem dX11_block_36 : decode cX11_block 36 = .ok (.isub, 1) := by decide +kernel
theorem dX11_block_37 : decode cX11_block 37 = .ok (.ireturn, 1) := by decide +kernel
theorem dX11_blocks_0 : decode cX11_blocks 0 = .ok (.iload_n 1, 1) := by decide +kernel
theorem dX11_blocks_1 : decode cX11_blocks 1 = .ok (.invokestatic 119, 3) := by decide +kernel
theorem dX11_blocks_4 : decode cX11_blocks 4 = .ok (.ifCond .eq 15, 3) := by decide +kernel
theorem dX11_blocks_7 : decode cX11_blocks 7 = .ok (.iload_n 3, 1) := by decide +kernel
theorem dX11_blocks_8 : decode cX11_blocks 8 = .ok (.i2l, 1) := by decide +kernel
theorem dX11_blocks_9 : decode cX11_blocks 9 = .ok (.lconst 1, 1) := by decide +kernel
theorem dX11_blocks_10 : decode cX11_blocks 10 = .ok (.ldc2_w 123, 3) := by decide +kernel
theorem dX11_blocks_13 : decode cX11_blocks 13 = .ok (.invokestatic 100, 3) := by decide +kernel
theorem dX11_blocks_16 : decode cX11_blocks 16 = .ok (.ifCond .ne 5, 3) := by decide +kernel
theorem dX11_blocks_19 : decode cX11_blocks 19 = .ok (.iconst (-1), 1) := by decide +kernel
theorem dX11_blocks_20 : decode cX11_blocks 20 = .ok (.ireturn, 1) := by decide +kernel
theorem dX11_blocks_21 : decode cX11_blocks 21 = .ok (.aload_n 0, 1) := by decide +kernel
theorem dX11_blocks_22 : decode cX11_blocks 22 = .ok (.getfield 77, 3) := by decide +kernel
theorem dX11_blocks_25 : decode cX11_blocks 25 = .ok (.iload_n 1, 1) := by decide +kernel
theorem dX11_blocks_26 : decode cX11_blocks 26 = .ok (.iaload, 1) := by decide +kernel
theorem dX11_blocks_27 : decode cX11_blocks 27 = .ok (.ifCond .lt 17, 3) := by decide +kernel
theorem dX11_blocks_30 : decode cX11_blocks 30 = .ok (.aload_n 0, 1) := by decide +kernel
theorem dX11_blocks_31 : decode cX11_blocks 31 = .ok (.getfield 77, 3) := by decide +kernel
theorem dX11_blocks_34 : decode cX11_blocks 34 = .ok (.iload_n 1, 1) := by decide +kernel
theorem dX11_blocks_35 : decode cX11_blocks 35 = .ok (.iaload, 1) := by decide +kernel
theorem dX11_blocks_36 : decode cX11_blocks 36 = .ok (.bipush 50, 2) := by decide +kernel
theorem dX11_blocks_38 : decode cX11_blocks 38 = .ok (.if_icmp .eq 6, 3) := by decide +kernel
theorem dX11_blocks_41 : decode cX11_blocks 41 = .ok (.bipush (-12), 2) := by decide +kernel
theorem dX11_blocks_43 : decode cX11_blocks 43 = .ok (.ireturn, 1) := by decide +kernel
theorem dX11_blocks_44 : decode cX11_blocks 44 = .ok (.iconst 0, 1) := by decide +kernel
theorem dX11_blocks_45 : decode cX11_blocks 45 = .ok (.istore 4, 2) := by decide +kernel
theorem dX11_blocks_47 : decode cX11_blocks 47 = .ok (.aload_n 0, 1) := by decide +kernel
theorem dX11_blocks_48 : decode cX11_blocks 48 = .ok (.getfield 77, 3) := by decide +kernel
theorem dX11_blocks_51 : decode cX11_blocks 51 = .ok (.iload_n 1, 1) := by decide +kernel
theorem dX11_blocks_52 : decode cX11_blocks 52 = .ok (.iaload, 1) := by decide +kernel
theorem dX11_blocks_53 : decode cX11_blocks 53 = .ok (.bipush 50, 2) := by decide +kernel
theorem dX11_blocks_55 : decode cX11_blocks 55 = .ok (.if_icmp .ne 11, 3) := by decide +kernel
theorem dX11_blocks_58 : decode cX11_blocks 58 = .ok (.iload_n 2, 1) := by decide +kernel
theorem dX11_blocks_59 : decode cX11_blocks 59 = .ok (.ifCond .lt 7, 3) := by decide +kernel
theorem dX11_blocks_62 : decode cX11_blocks 62 = .ok (.iconst 1, 1) := by decide +kernel
theorem dX11_blocks_63 : decode cX11_blocks 63 = .ok (.goto 4, 3) := by decide +kernel
theorem dX11_blocks_66 : decode cX11_blocks 66 = .ok (.iconst 0, 1) := by decide +kernel
theorem dX11_blocks_67 : decode cX11_blocks 67 = .ok (.istore 5, 2) := by decide +kernel
theorem dX11_blocks_69 : decode cX11_blocks 69 = .ok (.iload 5, 2) := by decide +kernel
theorem dX11_blocks_71 : decode cX11_blocks 71 = .ok (.ifCond .eq 141, 3) := by decide +kernel
theorem dX11_blocks_74 : decode cX11_blocks 74 = .ok (.iload 4, 2) := by decide +kernel
theorem dX11_blocks_76 : decode cX11_blocks 76 = .ok (.iload_n 3, 1) := by decide +kernel
theorem dX11_blocks_77 : decode cX11_blocks 77 = .ok (.if_icmp .ge 135, 3) := by decide +kernel
theorem dX11_blocks_80 : decode cX11_blocks 80 = .ok (.iload_n 2, 1) := by decide +kernel
theorem dX11_blocks_81 : decode cX11_blocks 81 = .ok (.aload_n 0, 1) := by decide +kernel
theorem dX11_blocks_82 : decode cX11_blocks 82 = .ok (.getfield 80, 3) := by decide +kernel
theorem dX11_blocks_85 : decode cX11_blocks 85 = .ok (.iload_n 1, 1) := by decide +kernel
theorem dX11_blocks_86 : decode cX11_blocks 86 = .ok (.iaload, 1) := by decide +kernel
theorem dX11_blocks_87 : decode cX11_blocks 87 = .ok (.iconst 3, 1) := by decide +kernel
theorem dX11_blocks_88 : decode cX11_blocks 88 = .ok (.isub, 1) := by decide +kernel
theorem dX11_blocks_89 : decode cX11_blocks 89 = .ok (.iconst 3, 1) := by decide +kernel
theorem dX11_blocks_90 : decode cX11_blocks 90 = .ok (.iload 4, 2) := by decide +kernel
theorem dX11_blocks_92 : decode cX11_blocks 92 = .ok (.imul, 1) := by decide +kernel
theorem dX11_blocks_93 : decode cX11_blocks 93 = .ok (.isub, 1) := by decide +kernel
theorem dX11_blocks_94 : decode cX11_blocks 94 = .ok (.if_icmp .gt 16, 3) := by decide +kernel
theorem dX11_blocks_97 : decode cX11_blocks 97 = .ok (.aload_n 0, 1) := by decide +kernel
theorem dX11_blocks_98 : decode cX11_blocks 98 = .ok (.getfield 97, 3) := by decide +kernel
theorem dX11_blocks_101 : decode cX11_blocks 101 = .ok (.bipush 10, 2) := by decide +kernel
theorem dX11_blocks_103 : decode cX11_blocks 103 = .ok (.if_icmp .ge 7, 3) := by decide +kernel
theorem dX11_blocks_106 : decode cX11_blocks 106 = .ok (.iconst 1, 1) := by decide +kernel
theorem dX11_blocks_107 : decode cX11_blocks 107 = .ok (.goto 4, 3) := by decide +kernel
theorem dX11_blocks_110 : decode cX11_blocks 110 = .ok (.iconst 0, 1) := by decide +kernel
theorem dX11_blocks_111 : decode cX11_blocks 111 = .ok (.istore 5, 2) := by decide +kernel
theorem dX11_blocks_113 : decode cX11_blocks 113 = .ok (.bipush 60, 2) := by decide +kernel
theorem dX11_blocks_115 : decode cX11_blocks 115 = .ok (.iload_n 1, 1) := by decide +kernel
theorem dX11_blocks_116 : decode cX11_blocks 116 = .ok (.imul, 1) := by decide +kernel
theorem dX11_blocks_117 : decode cX11_blocks 117 = .ok (.iload_n 2, 1) := by decide +kernel
theorem dX11_blocks_118 : decode cX11_blocks 118 = .ok (.iadd, 1) := by decide +kernel
theorem dX11_blocks_119 : decode cX11_blocks 119 = .ok (.iconst 3, 1) := by decide +kernel
theorem dX11_blocks_120 : decode cX11_blocks 120 = .ok (.iload 4, 2) := by decide +kernel
theorem dX11_blocks_122 : decode cX11_blocks 122 = .ok (.imul, 1) := by decide +kernel
theorem dX11_blocks_123 : decode cX11_blocks 123 = .ok (.iadd, 1) := by decide +kernel
theorem dX11_blocks_124 : decode cX11_blocks 124 = .ok (.istore 6, 2) := by decide +kernel
theorem dX11_blocks_126 : decode cX11_blocks 126 = .ok (.iload 5, 2) := by decide +kernel
theorem dX11_blocks_128 : decode cX11_blocks 128 = .ok (.ifCond .eq 38, 3) := by decide +kernel
theorem dX11_blocks_131 : decode cX11_blocks 131 = .ok (.aload_n 0, 1) := by decide +kernel
theorem dX11_blocks_132 : decode cX11_blocks 132 = .ok (.getfield 83, 3) := by decide +kernel
theorem dX11_blocks_135 : decode cX11_blocks 135 = .ok (.iload 6, 2) := by decide +kernel
theorem dX11_blocks_137 : decode cX11_blocks 137 = .ok (.laload, 1) := by decide +kernel
theorem dX11_blocks_138 : decode cX11_blocks 138 = .ok (.aload_n 0, 1) := by decide +kernel
theorem dX11_blocks_139 : decode cX11_blocks 139 = .ok (.getfield 83, 3) := by decide +kernel
theorem dX11_blocks_142 : decode cX11_blocks 142 = .ok (.iload 6, 2) := by decide +kernel
theorem dX11_blocks_144 : decode cX11_blocks 144 = .ok (.iconst 1, 1) := by decide +kernel
theorem dX11_blocks_145 : decode cX11_blocks 145 = .ok (.iadd, 1) := by decide +kernel
theorem dX11_blocks_146 : decode cX11_blocks 146 = .ok (.laload, 1) := by decide +kernel
theorem dX11_blocks_147 : decode cX11_blocks 147 = .ok (.aload_n 0, 1) := by decide +kernel
theorem dX11_blocks_148 : decode cX11_blocks 148 = .ok (.getfield 83, 3) := by decide +kernel
theorem dX11_blocks_151 : decode cX11_blocks 151 = .ok (.iload 6, 2) := by decide +kernel
theorem dX11_blocks_153 : decode cX11_blocks 153 = .ok (.iconst 2, 1) := by decide +kernel
theorem dX11_blocks_154 : decode cX11_blocks 154 = .ok (.iadd, 1) := by decide +kernel
theorem dX11_blocks_155 : decode cX11_blocks 155 = .ok (.laload, 1) := by decide +kernel
theorem dX11_blocks_156 : decode cX11_blocks 156 = .ok (.invokestatic 112, 3) := by decide +kernel
theorem dX11_blocks_159 : decode cX11_blocks 159 = .ok (.ifCond .eq 7, 3) := by decide +kernel
theorem dX11_blocks_162 : decode cX11_blocks 162 = .ok (.iconst 1, 1) := by decide +kernel
theorem dX11_blocks_163 : decode cX11_blocks 163 = .ok (.goto 4, 3) := by decide +kernel
theorem dX11_blocks_166 : decode cX11_blocks 166 = .ok (.iconst 0, 1) := by decide +kernel
theorem dX11_blocks_167 : decode cX11_blocks 167 = .ok (.istore 5, 2) := by decide +kernel
theorem dX11_blocks_169 : decode cX11_blocks 169 = .ok (.iload 5, 2) := by decide +kernel
theorem dX11_blocks_171 : decode cX11_blocks 171 = .ok (.ifCond .eq 38, 3) := by decide +kernel
theorem dX11_blocks_174 : decode cX11_blocks 174 = .ok (.aload_n 0, 1) := by decide +kernel
theorem dX11_blocks_175 : decode cX11_blocks 175 = .ok (.aload_n 0, 1) := by decide +kernel
theorem dX11_blocks_176 : decode cX11_blocks 176 = .ok (.getfield 83, 3) := by decide +kernel
theorem dX11_blocks_179 : decode cX11_blocks 179 = .ok (.iload 6, 2) := by decide +kernel
theorem dX11_blocks_181 : decode cX11_blocks 181 = .ok (.laload, 1) := by decide +kernel
theorem dX11_blocks_182 : decode cX11_blocks 182 = .ok (.l2i, 1) := by decide +kernel
theorem dX11_blocks_183 : decode cX11_blocks 183 = .ok (.aload_n 0, 1) := by decide +kernel
theorem dX11_blocks_184 : decode cX11_blocks 184 = .ok (.getfield 83, 3) := by decide +kernel
theorem dX11_blocks_187 : decode cX11_blocks 187 = .ok (.iload 6, 2) := by decide +kernel
theorem dX11_blocks_189 : decode cX11_blocks 189 = .ok (.iconst 1, 1) := by decide +kernel
theorem dX11_blocks_190 : decode cX11_blocks 190 = .ok (.iadd, 1) := by decide +kernel
theorem dX11_blocks_191 : decode cX11_blocks 191 = .ok (.laload, 1) := by decide +kernel
theorem dX11_blocks_192 : decode cX11_blocks 192 = .ok (.l2i, 1) := by decide +kernel
theorem dX11_blocks_193 : decode cX11_blocks 193 = .ok (.aload_n 0, 1) := by decide +kernel
theorem dX11_blocks_194 : decode cX11_blocks 194 = .ok (.getfield 83, 3) := by decide +kernel
theorem dX11_blocks_197 : decode cX11_blocks 197 = .ok (.iload 6, 2) := by decide +kernel
theorem dX11_blocks_199 : decode cX11_blocks 199 = .ok (.iconst 2, 1) := by decide +kernel
theorem dX11_blocks_200 : decode cX11_blocks 200 = .ok (.iadd, 1) := by decide +kernel
theorem dX11_blocks_201 : decode cX11_blocks 201 = .ok (.laload, 1) := by decide +kernel
theorem dX11_blocks_202 : decode cX11_blocks 202 = .ok (.l2i, 1) := by decide +kernel
theorem dX11_blocks_203 : decode cX11_blocks 203 = .ok (.invokevirtual 115, 3) := by decide +kernel
theorem dX11_blocks_206 : decode cX11_blocks 206 = .ok (.iinc 4 1, 3) := by decide +kernel
theorem dX11_blocks_209 : decode cX11_blocks 209 = .ok (.goto (-140), 3) := by decide +kernel
theorem dX11_blocks_212 : decode cX11_blocks 212 = .ok (.iload 4, 2) := by decide +kernel
theorem dX11_blocks_214 : decode cX11_blocks 214 = .ok (.ireturn, 1) := by decide +kernel
theorem dX11_placeOf_0 : decode cX11_placeOf 0 = .ok (.iload_n 2, 1) := by decide +kernel
theorem dX11_placeOf_1 : decode cX11_placeOf 1 = .ok (.i2l, 1) := by decide +kernel
theorem dX11_placeOf_2 : decode cX11_placeOf 2 = .ok (.lconst 0, 1) := by decide +kernel
theorem dX11_placeOf_3 : decode cX11_placeOf 3 = .ok (.ldc2_w 125, 3) := by decide +kernel
theorem dX11_placeOf_6 : decode cX11_placeOf 6 = .ok (.invokestatic 100, 3) := by decide +kernel
theorem dX11_placeOf_9 : decode cX11_placeOf 9 = .ok (.ifCond .eq 23, 3) := by decide +kernel
theorem dX11_placeOf_12 : decode cX11_placeOf 12 = .ok (.aload_n 0, 1) := by decide +kernel
theorem dX11_placeOf_13 : decode cX11_placeOf 13 = .ok (.iload_n 1, 1) := by decide +kernel
theorem dX11_placeOf_14 : decode cX11_placeOf 14 = .ok (.i2l, 1) := by decide +kernel
theorem dX11_placeOf_15 : decode cX11_placeOf 15 = .ok (.invokevirtual 127, 3) := by decide +kernel
theorem dX11_placeOf_18 : decode cX11_placeOf 18 = .ok (.ifCond .eq 12, 3) := by decide +kernel
theorem dX11_placeOf_21 : decode cX11_placeOf 21 = .ok (.bipush 10, 2) := by decide +kernel
theorem dX11_placeOf_23 : decode cX11_placeOf 23 = .ok (.iload_n 2, 1) := by decide +kernel
theorem dX11_placeOf_24 : decode cX11_placeOf 24 = .ok (.imul, 1) := by decide +kernel
theorem dX11_placeOf_25 : decode cX11_placeOf 25 = .ok (.iload_n 1, 1) := by decide +kernel
theorem dX11_placeOf_26 : decode cX11_placeOf 26 = .ok (.iadd, 1) := by decide +kernel
theorem dX11_placeOf_27 : decode cX11_placeOf 27 = .ok (.goto 4, 3) := by decide +kernel
theorem dX11_placeOf_30 : decode cX11_placeOf 30 = .ok (.iconst (-1), 1) := by decide +kernel
theorem dX11_placeOf_31 : decode cX11_placeOf 31 = .ok (.ireturn, 1) := by decide +kernel
theorem dX11_placeOf_32 : decode cX11_placeOf 32 = .ok (.iload_n 2, 1) := by decide +kernel
theorem dX11_placeOf_33 : decode cX11_placeOf 33 = .ok (.i2l, 1) := by decide +kernel
theorem dX11_placeOf_34 : decode cX11_placeOf 34 = .ok (.ldc2_w 130, 3) := by decide +kernel
theorem dX11_placeOf_37 : decode cX11_placeOf 37 = .ok (.ldc2_w 132, 3) := by decide +kernel
theorem dX11_placeOf_40 : decode cX11_placeOf 40 = .ok (.invokestatic 100, 3) := by decide +kernel
theorem dX11_placeOf_43 : decode cX11_placeOf 43 = .ok (.ifCond .eq 27, 3) := by decide +kernel
theorem dX11_placeOf_46 : decode cX11_placeOf 46 = .ok (.iload_n 1, 1) := by decide +kernel
theorem dX11_placeOf_47 : decode cX11_placeOf 47 = .ok (.i2l, 1) := by decide +kernel
theorem dX11_placeOf_48 : decode cX11_placeOf 48 = .ok (.invokestatic 108, 3) := by decide +kernel
theorem dX11_placeOf_51 : decode cX11_placeOf 51 = .ok (.ifCond .eq 17, 3) := by decide +kernel
theorem dX11_placeOf_54 : decode cX11_placeOf 54 = .ok (.bipush 50, 2) := by decide +kernel
theorem dX11_placeOf_56 : decode cX11_placeOf 56 = .ok (.bipush 16, 2) := by decide +kernel
theorem dX11_placeOf_58 : decode cX11_placeOf 58 = .ok (.iload_n 2, 1) := by decide +kernel
theorem dX11_placeOf_59 : decode cX11_placeOf 59 = .ok (.iconst 5, 1) := by decide +kernel
theorem dX11_placeOf_60 : decode cX11_placeOf 60 = .ok (.isub, 1) := by decide +kernel
theorem dX11_placeOf_61 : decode cX11_placeOf 61 = .ok (.imul, 1) := by decide +kernel
theorem dX11_placeOf_62 : decode cX11_placeOf 62 = .ok (.iadd, 1) := by decide +kernel
theorem dX11_placeOf_63 : decode cX11_placeOf 63 = .ok (.iload_n 1, 1) := by decide +kernel
theorem dX11_placeOf_64 : decode cX11_placeOf 64 = .ok (.iadd, 1) := by decide +kernel
theorem dX11_placeOf_65 : decode cX11_placeOf 65 = .ok (.goto 4, 3) := by decide +kernel
theorem dX11_placeOf_68 : decode cX11_placeOf 68 = .ok (.iconst (-1), 1) := by decide +kernel
theorem dX11_placeOf_69 : decode cX11_placeOf 69 = .ok (.ireturn, 1) := by decide +kernel
theorem dX11_placeOf_70 : decode cX11_placeOf 70 = .ok (.iload_n 1, 1) := by decide +kernel
theorem dX11_placeOf_71 : decode cX11_placeOf 71 = .ok (.ifCond .ne 14, 3) := by decide +kernel
theorem dX11_placeOf_74 : decode cX11_placeOf 74 = .ok (.iload_n 2, 1) := by decide +kernel
theorem dX11_placeOf_75 : decode cX11_placeOf 75 = .ok (.bipush 7, 2) := by decide +kernel
theorem dX11_placeOf_77 : decode cX11_placeOf 77 = .ok (.if_icmp .ne 8, 3) := by decide +kernel
theorem dX11_placeOf_80 : decode cX11_placeOf 80 = .ok (.bipush 82, 2) := by decide +kernel
theorem dX11_placeOf_82 : decode cX11_placeOf 82 = .ok (.goto 4, 3) := by decide +kernel
theorem dX11_placeOf_85 : decode cX11_placeOf 85 = .ok (.iconst (-1), 1) := by decide +kernel
theorem dX11_placeOf_86 : decode cX11_placeOf 86 = .ok (.ireturn, 1) := by decide +kernel
theorem dX11_mayBecome_0 : decode cX11_mayBecome 0 = .ok (.iload_n 0, 1) := by decide +kernel
theorem dX11_mayBecome_1 : decode cX11_mayBecome 1 = .ok (.tableswitch 67 1 7 #[43, 67, 49, 49, 43, 67, 57], 43) := by decide +kernel
theorem dX11_mayBecome_44 : decode cX11_mayBecome 44 = .ok (.iload_n 1, 1) := by decide +kernel
theorem dX11_mayBecome_45 : decode cX11_mayBecome 45 = .ok (.i2l, 1) := by decide +kernel
theorem dX11_mayBecome_46 : decode cX11_mayBecome 46 = .ok (.invokestatic 108, 3) := by decide +kernel
theorem dX11_mayBecome_49 : decode cX11_mayBecome 49 = .ok (.ireturn, 1) := by decide +kernel
theorem dX11_mayBecome_50 : decode cX11_mayBecome 50 = .ok (.iload_n 1, 1) := by decide +kernel
theorem dX11_mayBecome_51 : decode cX11_mayBecome 51 = .ok (.i2l, 1) := by decide +kernel
theorem dX11_mayBecome_52 : decode cX11_mayBecome 52 = .ok (.lconst 0, 1) := by decide +kernel
theorem dX11_mayBecome_53 : decode cX11_mayBecome 53 = .ok (.lconst 1, 1) := by decide +kernel
theorem dX11_mayBecome_54 : decode cX11_mayBecome 54 = .ok (.invokestatic 100, 3) := by decide +kernel
theorem dX11_mayBecome_57 : decode cX11_mayBecome 57 = .ok (.ireturn, 1) := by decide +kernel
theorem dX11_mayBecome_58 : decode cX11_mayBecome 58 = .ok (.iload_n 1, 1) := by decide +kernel
theorem dX11_mayBecome_59 : decode cX11_mayBecome 59 = .ok (.i2l, 1) := by decide +kernel
theorem dX11_mayBecome_60 : decode cX11_mayBecome 60 = .ok (.lconst 0, 1) := by decide +kernel
theorem dX11_mayBecome_61 : decode cX11_mayBecome 61 = .ok (.ldc2_w 134, 3) := by decide +kernel
theorem dX11_mayBecome_64 : decode cX11_mayBecome 64 = .ok (.invokestatic 100, 3) := by decide +kernel
theorem dX11_mayBecome_67 : decode cX11_mayBecome 67 = .ok (.ireturn, 1) := by decide +kernel
theorem dX11_mayBecome_68 : decode cX11_mayBecome 68 = .ok (.iload_n 1, 1) := by decide +kernel
theorem dX11_mayBecome_69 : decode cX11_mayBecome 69 = .ok (.i2l, 1) := by decide +kernel
theorem dX11_mayBecome_70 : decode cX11_mayBecome 70 = .ok (.lconst 0, 1) := by decide +kernel
theorem dX11_mayBecome_71 : decode cX11_mayBecome 71 = .ok (.ldc2_w 106, 3) := by decide +kernel
theorem dX11_mayBecome_74 : decode cX11_mayBecome 74 = .ok (.invokestatic 100, 3) := by decide +kernel
theorem dX11_mayBecome_77 : decode cX11_mayBecome 77 = .ok (.ireturn, 1) := by decide +kernel
theorem dX11_mend_0 : decode cX11_mend 0 = .ok (.aload_n 0, 1) := by decide +kernel
theorem dX11_mend_1 : decode cX11_mend 1 = .ok (.iload_n 1, 1) := by decide +kernel
theorem dX11_mend_2 : decode cX11_mend 2 = .ok (.iload_n 2, 1) := by decide +kernel
theorem dX11_mend_3 : decode cX11_mend 3 = .ok (.invokevirtual 136, 3) := by decide +kernel
theorem dX11_mend_6 : decode cX11_mend 6 = .ok (.istore 4, 2) := by decide +kernel
theorem dX11_mend_8 : decode cX11_mend 8 = .ok (.iload 4, 2) := by decide +kernel
theorem dX11_mend_10 : decode cX11_mend 10 = .ok (.ifCond .lt 21, 3) := by decide +kernel
theorem dX11_mend_13 : decode cX11_mend 13 = .ok (.iload_n 2, 1) := by decide +kernel
theorem dX11_mend_14 : decode cX11_mend 14 = .ok (.iload_n 3, 1) := by decide +kernel
theorem dX11_mend_15 : decode cX11_mend 15 = .ok (.invokestatic 140, 3) := by decide +kernel
theorem dX11_mend_18 : decode cX11_mend 18 = .ok (.ifCond .eq 13, 3) := by decide +kernel
theorem dX11_mend_21 : decode cX11_mend 21 = .ok (.aload_n 0, 1) := by decide +kernel
theorem dX11_mend_22 : decode cX11_mend 22 = .ok (.iload 4, 2) := by decide +kernel
theorem dX11_mend_24 : decode cX11_mend 24 = .ok (.iload_n 3, 1) := by decide +kernel
theorem dX11_mend_25 : decode cX11_mend 25 = .ok (.invokevirtual 144, 3) := by decide +kernel
theorem dX11_mend_28 : decode cX11_mend 28 = .ok (.goto 4, 3) := by decide +kernel
theorem dX11_mend_31 : decode cX11_mend 31 = .ok (.iconst (-1), 1) := by decide +kernel
theorem dX11_mend_32 : decode cX11_mend 32 = .ok (.ireturn, 1) := by decide +kernel
theorem dX11_of_0 : decode cX11_of 0 = .ok (.aload_n 0, 1) := by decide +kernel
theorem dX11_of_1 : decode cX11_of 1 = .ok (.iload_n 1, 1) := by decide +kernel
theorem dX11_of_2 : decode cX11_of 2 = .ok (.iload_n 2, 1) := by decide +kernel
theorem dX11_of_3 : decode cX11_of 3 = .ok (.invokevirtual 136, 3) := by decide +kernel
theorem dX11_of_6 : decode cX11_of 6 = .ok (.istore_n 3, 1) := by decide +kernel
theorem dX11_of_7 : decode cX11_of 7 = .ok (.iload_n 3, 1) := by decide +kernel
theorem dX11_of_8 : decode cX11_of 8 = .ok (.ifCond .lt 12, 3) := by decide +kernel
theorem dX11_of_11 : decode cX11_of 11 = .ok (.aload_n 0, 1) := by decide +kernel
theorem dX11_of_12 : decode cX11_of 12 = .ok (.getfield 9, 3) := by decide +kernel
theorem dX11_of_15 : decode cX11_of 15 = .ok (.iload_n 3, 1) := by decide +kernel
theorem dX11_of_16 : decode cX11_of 16 = .ok (.iaload, 1) := by decide +kernel
theorem dX11_of_17 : decode cX11_of 17 = .ok (.goto 4, 3) := by decide +kernel
theorem dX11_of_20 : decode cX11_of 20 = .ok (.iconst (-1), 1) := by decide +kernel
theorem dX11_of_21 : decode cX11_of 21 = .ok (.ireturn, 1) := by decide +kernel
theorem dX11_feed_0 : decode cX11_feed 0 = .ok (.iload_n 1, 1) := by decide +kernel
theorem dX11_feed_1 : decode cX11_feed 1 = .ok (.i2l, 1) := by decide +kernel
theorem dX11_feed_2 : decode cX11_feed 2 = .ok (.lconst 0, 1) := by decide +kernel
theorem dX11_feed_3 : decode cX11_feed 3 = .ok (.ldc2_w 147, 3) := by decide +kernel
theorem dX11_feed_6 : decode cX11_feed 6 = .ok (.invokestatic 100, 3) := by decide +kernel
theorem dX11_feed_9 : decode cX11_feed 9 = .ok (.ifCond .ne 5, 3) := by decide +kernel
theorem dX11_feed_12 : decode cX11_feed 12 = .ok (.iconst (-1), 1) := by decide +kernel
theorem dX11_feed_13 : decode cX11_feed 13 = .ok (.ireturn, 1) := by decide +kernel
theorem dX11_feed_14 : decode cX11_feed 14 = .ok (.aload_n 0, 1) := by decide +kernel
theorem dX11_feed_15 : decode cX11_feed 15 = .ok (.getfield 149, 3) := by decide +kernel
theorem dX11_feed_18 : decode cX11_feed 18 = .ok (.bipush 120, 2) := by decide +kernel
theorem dX11_feed_20 : decode cX11_feed 20 = .ok (.if_icmp .ne 6, 3) := by decide +kernel
theorem dX11_feed_23 : decode cX11_feed 23 = .ok (.bipush (-3), 2) := by decide +kernel
theorem dX11_feed_25 : decode cX11_feed 25 = .ok (.ireturn, 1) := by decide +kernel
theorem dX11_feed_26 : decode cX11_feed 26 = .ok (.aload_n 0, 1) := by decide +kernel
theorem dX11_feed_27 : decode cX11_feed 27 = .ok (.getfield 22, 3) := by decide +kernel
theorem dX11_feed_30 : decode cX11_feed 30 = .ok (.aload_n 0, 1) := by decide +kernel
theorem dX11_feed_31 : decode cX11_feed 31 = .ok (.getfield 149, 3) := by decide +kernel
theorem dX11_feed_34 : decode cX11_feed 34 = .ok (.iload_n 1, 1) := by decide +kernel
theorem dX11_feed_35 : decode cX11_feed 35 = .ok (.iastore, 1) := by decide +kernel
theorem dX11_feed_36 : decode cX11_feed 36 = .ok (.aload_n 0, 1) := by decide +kernel
theorem dX11_feed_37 : decode cX11_feed 37 = .ok (.dup, 1) := by decide +kernel
theorem dX11_feed_38 : decode cX11_feed 38 = .ok (.getfield 149, 3) := by decide +kernel
theorem dX11_feed_41 : decode cX11_feed 41 = .ok (.iconst 1, 1) := by decide +kernel
theorem dX11_feed_42 : decode cX11_feed 42 = .ok (.iadd, 1) := by decide +kernel
theorem dX11_feed_43 : decode cX11_feed 43 = .ok (.putfield 149, 3) := by decide +kernel
theorem dX11_feed_46 : decode cX11_feed 46 = .ok (.aload_n 0, 1) := by decide +kernel
theorem dX11_feed_47 : decode cX11_feed 47 = .ok (.getfield 149, 3) := by decide +kernel
theorem dX11_feed_50 : decode cX11_feed 50 = .ok (.ireturn, 1) := by decide +kernel
theorem dX11_byteAt_0 : decode cX11_byteAt 0 = .ok (.aload_n 0, 1) := by decide +kernel
theorem dX11_byteAt_1 : decode cX11_byteAt 1 = .ok (.getfield 152, 3) := by decide +kernel
theorem dX11_byteAt_4 : decode cX11_byteAt 4 = .ok (.aload_n 0, 1) := by decide +kernel
theorem dX11_byteAt_5 : decode cX11_byteAt 5 = .ok (.getfield 149, 3) := by decide +kernel
theorem dX11_byteAt_8 : decode cX11_byteAt 8 = .ok (.if_icmp .ge 15, 3) := by decide +kernel
theorem dX11_byteAt_11 : decode cX11_byteAt 11 = .ok (.aload_n 0, 1) := by decide +kernel
theorem dX11_byteAt_12 : decode cX11_byteAt 12 = .ok (.getfield 22, 3) := by decide +kernel
theorem dX11_byteAt_15 : decode cX11_byteAt 15 = .ok (.aload_n 0, 1) := by decide +kernel
theorem dX11_byteAt_16 : decode cX11_byteAt 16 = .ok (.getfield 152, 3) := by decide +kernel
theorem dX11_byteAt_19 : decode cX11_byteAt 19 = .ok (.iaload, 1) := by decide +kernel
theorem dX11_byteAt_20 : decode cX11_byteAt 20 = .ok (.goto 4, 3) := by decide +kernel
theorem dX11_byteAt_23 : decode cX11_byteAt 23 = .ok (.iconst 0, 1) := by decide +kernel
theorem dX11_byteAt_24 : decode cX11_byteAt 24 = .ok (.ireturn, 1) := by decide +kernel
theorem dX11_wrong_0 : decode cX11_wrong 0 = .ok (.aload_n 0, 1) := by decide +kernel
theorem dX11_wrong_1 : decode cX11_wrong 1 = .ok (.aload_n 0, 1) := by decide +kernel
theorem dX11_wrong_2 : decode cX11_wrong 2 = .ok (.getfield 155, 3) := by decide +kernel
theorem dX11_wrong_5 : decode cX11_wrong 5 = .ok (.ifCond .ge 10, 3) := by decide +kernel
theorem dX11_wrong_8 : decode cX11_wrong 8 = .ok (.aload_n 0, 1) := by decide +kernel
theorem dX11_wrong_9 : decode cX11_wrong 9 = .ok (.getfield 152, 3) := by decide +kernel
theorem dX11_wrong_12 : decode cX11_wrong 12 = .ok (.goto 7, 3) := by decide +kernel
theorem dX11_wrong_15 : decode cX11_wrong 15 = .ok (.aload_n 0, 1) := by decide +kernel
theorem dX11_wrong_16 : decode cX11_wrong 16 = .ok (.getfield 155, 3) := by decide +kernel
theorem dX11_wrong_19 : decode cX11_wrong 19 = .ok (.putfield 155, 3) := by decide +kernel
theorem dX11_wrong_22 : decode cX11_wrong 22 = .ok (.return_, 1) := by decide +kernel
theorem dX11_takes_0 : decode cX11_takes 0 = .ok (.aload_n 0, 1) := by decide +kernel
theorem dX11_takes_1 : decode cX11_takes 1 = .ok (.getfield 155, 3) := by decide +kernel
theorem dX11_takes_4 : decode cX11_takes 4 = .ok (.ifCond .ge 11, 3) := by decide +kernel
theorem dX11_takes_7 : decode cX11_takes 7 = .ok (.aload_n 0, 1) := by decide +kernel
theorem dX11_takes_8 : decode cX11_takes 8 = .ok (.invokevirtual 158, 3) := by decide +kernel
theorem dX11_takes_11 : decode cX11_takes 11 = .ok (.iload_n 1, 1) := by decide +kernel
theorem dX11_takes_12 : decode cX11_takes 12 = .ok (.if_icmp .eq 5, 3) := by decide +kernel
theorem dX11_takes_15 : decode cX11_takes 15 = .ok (.iconst 0, 1) := by decide +kernel
theorem dX11_takes_16 : decode cX11_takes 16 = .ok (.ireturn, 1) := by decide +kernel
theorem dX11_takes_17 : decode cX11_takes 17 = .ok (.aload_n 0, 1) := by decide +kernel
theorem dX11_takes_18 : decode cX11_takes 18 = .ok (.dup, 1) := by decide +kernel
theorem dX11_takes_19 : decode cX11_takes 19 = .ok (.getfield 152, 3) := by decide +kernel
theorem dX11_takes_22 : decode cX11_takes 22 = .ok (.iconst 1, 1) := by decide +kernel
theorem dX11_takes_23 : decode cX11_takes 23 = .ok (.iadd, 1) := by decide +kernel
theorem dX11_takes_24 : decode cX11_takes 24 = .ok (.putfield 152, 3) := by decide +kernel
theorem dX11_takes_27 : decode cX11_takes 27 = .ok (.iconst 1, 1) := by decide +kernel
theorem dX11_takes_28 : decode cX11_takes 28 = .ok (.ireturn, 1) := by decide +kernel
theorem dX11_writes_0 : decode cX11_writes 0 = .ok (.aload_n 0, 1) := by decide +kernel
theorem dX11_writes_1 : decode cX11_writes 1 = .ok (.getfield 155, 3) := by decide +kernel
theorem dX11_writes_4 : decode cX11_writes 4 = .ok (.ifCond .ge 23, 3) := by decide +kernel
theorem dX11_writes_7 : decode cX11_writes 7 = .ok (.aload_n 0, 1) := by decide +kernel
theorem dX11_writes_8 : decode cX11_writes 8 = .ok (.getfield 25, 3) := by decide +kernel
theorem dX11_writes_11 : decode cX11_writes 11 = .ok (.aload_n 0, 1) := by decide +kernel
theorem dX11_writes_12 : decode cX11_writes 12 = .ok (.getfield 162, 3) := by decide +kernel
theorem dX11_writes_15 : decode cX11_writes 15 = .ok (.iload_n 1, 1) := by decide +kernel
theorem dX11_writes_16 : decode cX11_writes 16 = .ok (.iastore, 1) := by decide +kernel
theorem dX11_writes_17 : decode cX11_writes 17 = .ok (.aload_n 0, 1) := by decide +kernel
theorem dX11_writes_18 : decode cX11_writes 18 = .ok (.dup, 1) := by decide +kernel
theorem dX11_writes_19 : decode cX11_writes 19 = .ok (.getfield 162, 3) := by decide +kernel
theorem dX11_writes_22 : decode cX11_writes 22 = .ok (.iconst 1, 1) := by decide +kernel
theorem dX11_writes_23 : decode cX11_writes 23 = .ok (.iadd, 1) := by decide +kernel
theorem dX11_writes_24 : decode cX11_writes 24 = .ok (.putfield 162, 3) := by decide +kernel
theorem dX11_writes_27 : decode cX11_writes 27 = .ok (.return_, 1) := by decide +kernel
theorem dX11_readsEither_0 : decode cX11_readsEither 0 = .ok (.aload_n 0, 1) := by decide +kernel
theorem dX11_readsEither_1 : decode cX11_readsEither 1 = .ok (.invokevirtual 165, 3) := by decide +kernel
theorem dX11_readsEither_4 : decode cX11_readsEither 4 = .ok (.aload_n 0, 1) := by decide +kernel
theorem dX11_readsEither_5 : decode cX11_readsEither 5 = .ok (.bipush 124, 2) := by decide +kernel
theorem dX11_readsEither_7 : decode cX11_readsEither 7 = .ok (.invokevirtual 168, 3) := by decide +kernel
theorem dX11_readsEither_10 : decode cX11_readsEither 10 = .ok (.ifCond .eq 17, 3) := by decide +kernel
theorem dX11_readsEither_13 : decode cX11_readsEither 13 = .ok (.aload_n 0, 1) := by decide +kernel
theorem dX11_readsEither_14 : decode cX11_readsEither 14 = .ok (.invokevirtual 165, 3) := by decide +kernel
theorem dX11_readsEither_17 : decode cX11_readsEither 17 = .ok (.aload_n 0, 1) := by decide +kernel
theorem dX11_readsEither_18 : decode cX11_readsEither 18 = .ok (.sipush (-224), 3) := by decide +kernel
theorem dX11_readsEither_21 : decode cX11_readsEither 21 = .ok (.invokevirtual 171, 3) := by decide +kernel
theorem dX11_readsEither_24 : decode cX11_readsEither 24 = .ok (.goto (-20), 3) := by decide +kernel
theorem dX11_readsEither_27 : decode cX11_readsEither 27 = .ok (.return_, 1) := by decide +kernel
theorem dX11_readsBoth_0 : decode cX11_readsBoth 0 = .ok (.aload_n 0, 1) := by decide +kernel
theorem dX11_readsBoth_1 : decode cX11_readsBoth 1 = .ok (.invokevirtual 175, 3) := by decide +kernel
theorem dX11_readsBoth_4 : decode cX11_readsBoth 4 = .ok (.aload_n 0, 1) := by decide +kernel
theorem dX11_readsBoth_5 : decode cX11_readsBoth 5 = .ok (.bipush 38, 2) := by decide +kernel
theorem dX11_readsBoth_7 : decode cX11_readsBoth 7 = .ok (.invokevirtual 168, 3) := by decide +kernel
theorem dX11_readsBoth_10 : decode cX11_readsBoth 10 = .ok (.ifCond .eq 17, 3) := by decide +kernel
theorem dX11_readsBoth_13 : decode cX11_readsBoth 13 = .ok (.aload_n 0, 1) := by decide +kernel
theorem dX11_readsBoth_14 : decode cX11_readsBoth 14 = .ok (.invokevirtual 175, 3) := by decide +kernel
theorem dX11_readsBoth_17 : decode cX11_readsBoth 17 = .ok (.aload_n 0, 1) := by decide +kernel
theorem dX11_readsBoth_18 : decode cX11_readsBoth 18 = .ok (.sipush (-138), 3) := by decide +kernel
theorem dX11_readsBoth_21 : decode cX11_readsBoth 21 = .ok (.invokevirtual 171, 3) := by decide +kernel
theorem dX11_readsBoth_24 : decode cX11_readsBoth 24 = .ok (.goto (-20), 3) := by decide +kernel
theorem dX11_readsBoth_27 : decode cX11_readsBoth 27 = .ok (.return_, 1) := by decide +kernel
theorem dX11_readsCompared_0 : decode cX11_readsCompared 0 = .ok (.aload_n 0, 1) := by decide +kernel
theorem dX11_readsCompared_1 : decode cX11_readsCompared 1 = .ok (.invokevirtual 178, 3) := by decide +kernel
theorem dX11_readsCompared_4 : decode cX11_readsCompared 4 = .ok (.aload_n 0, 1) := by decide +kernel
theorem dX11_readsCompared_5 : decode cX11_readsCompared 5 = .ok (.invokevirtual 158, 3) := by decide +kernel
theorem dX11_readsCompared_8 : decode cX11_readsCompared 8 = .ok (.istore_n 1, 1) := by decide +kernel
theorem dX11_readsCompared_9 : decode cX11_readsCompared 9 = .ok (.aload_n 0, 1) := by decide +kernel
theorem dX11_readsCompared_10 : decode cX11_readsCompared 10 = .ok (.getfield 155, 3) := by decide +kernel
theorem dX11_readsCompared_13 : decode cX11_readsCompared 13 = .ok (.ifCond .ge 43, 3) := by decide +kernel
theorem dX11_readsCompared_16 : decode cX11_readsCompared 16 = .ok (.iload_n 1, 1) := by decide +kernel
theorem dX11_readsCompared_17 : decode cX11_readsCompared 17 = .ok (.bipush 60, 2) := by decide +kernel
theorem dX11_readsCompared_19 : decode cX11_readsCompared 19 = .ok (.if_icmp .eq 15, 3) := by decide +kernel
theorem dX11_readsCompared_22 : decode cX11_readsCompared 22 = .ok (.iload_n 1, 1) := by decide +kernel
theorem dX11_readsCompared_23 : decode cX11_readsCompared 23 = .ok (.bipush 61, 2) := by decide +kernel
theorem dX11_readsCompared_25 : decode cX11_readsCompared 25 = .ok (.if_icmp .eq 9, 3) := by decide +kernel
theorem dX11_readsCompared_28 : decode cX11_readsCompared 28 = .ok (.iload_n 1, 1) := by decide +kernel
theorem dX11_readsCompared_29 : decode cX11_readsCompared 29 = .ok (.bipush 62, 2) := by decide +kernel
theorem dX11_readsCompared_31 : decode cX11_readsCompared 31 = .ok (.if_icmp .ne 25, 3) := by decide +kernel
theorem dX11_readsCompared_34 : decode cX11_readsCompared 34 = .ok (.aload_n 0, 1) := by decide +kernel
theorem dX11_readsCompared_35 : decode cX11_readsCompared 35 = .ok (.dup, 1) := by decide +kernel
theorem dX11_readsCompared_36 : decode cX11_readsCompared 36 = .ok (.getfield 152, 3) := by decide +kernel
theorem dX11_readsCompared_39 : decode cX11_readsCompared 39 = .ok (.iconst 1, 1) := by decide +kernel
theorem dX11_readsCompared_40 : decode cX11_readsCompared 40 = .ok (.iadd, 1) := by decide +kernel
theorem dX11_readsCompared_41 : decode cX11_readsCompared 41 = .ok (.putfield 152, 3) := by decide +kernel
theorem dX11_readsCompared_44 : decode cX11_readsCompared 44 = .ok (.aload_n 0, 1) := by decide +kernel
theorem dX11_readsCompared_45 : decode cX11_readsCompared 45 = .ok (.invokevirtual 178, 3) := by decide +kernel
theorem dX11_readsCompared_48 : decode cX11_readsCompared 48 = .ok (.aload_n 0, 1) := by decide +kernel
theorem dX11_readsCompared_49 : decode cX11_readsCompared 49 = .ok (.bipush (-100), 2) := by decide +kernel
theorem dX11_readsCompared_51 : decode cX11_readsCompared 51 = .ok (.iload_n 1, 1) := by decide +kernel
theorem dX11_readsCompared_52 : decode cX11_readsCompared 52 = .ok (.isub, 1) := by decide +kernel
theorem dX11_readsCompared_53 : decode cX11_readsCompared 53 = .ok (.invokevirtual 171, 3) := by decide +kernel
theorem dX11_readsCompared_56 : decode cX11_readsCompared 56 = .ok (.return_, 1) := by decide +kernel
theorem dX11_readsSums_0 : decode cX11_readsSums 0 = .ok (.aload_n 0, 1) := by decide +kernel
theorem dX11_readsSums_1 : decode cX11_readsSums 1 = .ok (.invokevirtual 181, 3) := by decide +kernel
theorem dX11_readsSums_4 : decode cX11_readsSums 4 = .ok (.aload_n 0, 1) := by decide +kernel
theorem dX11_readsSums_5 : decode cX11_readsSums 5 = .ok (.getfield 155, 3) := by decide +kernel
theorem dX11_readsSums_8 : decode cX11_readsSums 8 = .ok (.ifCond .ge 51, 3) := by decide +kernel
theorem dX11_readsSums_11 : decode cX11_readsSums 11 = .ok (.aload_n 0, 1) := by decide +kernel
theorem dX11_readsSums_12 : decode cX11_readsSums 12 = .ok (.invokevirtual 158, 3) := by decide +kernel
theorem dX11_readsSums_15 : decode cX11_readsSums 15 = .ok (.bipush 43, 2) := by decide +kernel
theorem dX11_readsSums_17 : decode cX11_readsSums 17 = .ok (.if_icmp .eq 12, 3) := by decide +kernel
theorem dX11_readsSums_20 : decode cX11_readsSums 20 = .ok (.aload_n 0, 1) := by decide +kernel
theorem dX11_readsSums_21 : decode cX11_readsSums 21 = .ok (.invokevirtual 158, 3) := by decide +kernel
theorem dX11_readsSums_24 : decode cX11_readsSums 24 = .ok (.bipush 45, 2) := by decide +kernel
theorem dX11_readsSums_26 : decode cX11_readsSums 26 = .ok (.if_icmp .ne 33, 3) := by decide +kernel
theorem dX11_readsSums_29 : decode cX11_readsSums 29 = .ok (.aload_n 0, 1) := by decide +kernel
theorem dX11_readsSums_30 : decode cX11_readsSums 30 = .ok (.invokevirtual 158, 3) := by decide +kernel
theorem dX11_readsSums_33 : decode cX11_readsSums 33 = .ok (.istore_n 1, 1) := by decide +kernel
theorem dX11_readsSums_34 : decode cX11_readsSums 34 = .ok (.aload_n 0, 1) := by decide +kernel
theorem dX11_readsSums_35 : decode cX11_readsSums 35 = .ok (.dup, 1) := by decide +kernel
theorem dX11_readsSums_36 : decode cX11_readsSums 36 = .ok (.getfield 152, 3) := by decide +kernel
theorem dX11_readsSums_39 : decode cX11_readsSums 39 = .ok (.iconst 1, 1) := by decide +kernel
theorem dX11_readsSums_40 : decode cX11_readsSums 40 = .ok (.iadd, 1) := by decide +kernel
theorem dX11_readsSums_41 : decode cX11_readsSums 41 = .ok (.putfield 152, 3) := by decide +kernel
theorem dX11_readsSums_44 : decode cX11_readsSums 44 = .ok (.aload_n 0, 1) := by decide +kernel
theorem dX11_readsSums_45 : decode cX11_readsSums 45 = .ok (.invokevirtual 181, 3) := by decide +kernel
theorem dX11_readsSums_48 : decode cX11_readsSums 48 = .ok (.aload_n 0, 1) := by decide +kernel
theorem dX11_readsSums_49 : decode cX11_readsSums 49 = .ok (.bipush (-100), 2) := by decide +kernel
theorem dX11_readsSums_51 : decode cX11_readsSums 51 = .ok (.iload_n 1, 1) := by decide +kernel
theorem dX11_readsSums_52 : decode cX11_readsSums 52 = .ok (.isub, 1) := by decide +kernel
theorem dX11_readsSums_53 : decode cX11_readsSums 53 = .ok (.invokevirtual 171, 3) := by decide +kernel
theorem dX11_readsSums_56 : decode cX11_readsSums 56 = .ok (.goto (-52), 3) := by decide +kernel
theorem dX11_readsSums_59 : decode cX11_readsSums 59 = .ok (.return_, 1) := by decide +kernel
theorem dX11_readsProduct_0 : decode cX11_readsProduct 0 = .ok (.aload_n 0, 1) := by decide +kernel
theorem dX11_readsProduct_1 : decode cX11_readsProduct 1 = .ok (.invokevirtual 184, 3) := by decide +kernel
theorem dX11_readsProduct_4 : decode cX11_readsProduct 4 = .ok (.aload_n 0, 1) := by decide +kernel
theorem dX11_readsProduct_5 : decode cX11_readsProduct 5 = .ok (.getfield 155, 3) := by decide +kernel
theorem dX11_readsProduct_8 : decode cX11_readsProduct 8 = .ok (.ifCond .ge 60, 3) := by decide +kernel
theorem dX11_readsProduct_11 : decode cX11_readsProduct 11 = .ok (.aload_n 0, 1) := by decide +kernel
theorem dX11_readsProduct_12 : decode cX11_readsProduct 12 = .ok (.invokevirtual 158, 3) := by decide +kernel
theorem dX11_readsProduct_15 : decode cX11_readsProduct 15 = .ok (.bipush 42, 2) := by decide +kernel
theorem dX11_readsProduct_17 : decode cX11_readsProduct 17 = .ok (.if_icmp .eq 21, 3) := by decide +kernel
theorem dX11_readsProduct_20 : decode cX11_readsProduct 20 = .ok (.aload_n 0, 1) := by decide +kernel
theorem dX11_readsProduct_21 : decode cX11_readsProduct 21 = .ok (.invokevirtual 158, 3) := by decide +kernel
theorem dX11_readsProduct_24 : decode cX11_readsProduct 24 = .ok (.bipush 47, 2) := by decide +kernel
theorem dX11_readsProduct_26 : decode cX11_readsProduct 26 = .ok (.if_icmp .eq 12, 3) := by decide +kernel
theorem dX11_readsProduct_29 : decode cX11_readsProduct 29 = .ok (.aload_n 0, 1) := by decide +kernel
theorem dX11_readsProduct_30 : decode cX11_readsProduct 30 = .ok (.invokevirtual 158, 3) := by decide +kernel
theorem dX11_readsProduct_33 : decode cX11_readsProduct 33 = .ok (.bipush 37, 2) := by decide +kernel
theorem dX11_readsProduct_35 : decode cX11_readsProduct 35 = .ok (.if_icmp .ne 33, 3) := by decide +kernel
theorem dX11_readsProduct_38 : decode cX11_readsProduct 38 = .ok (.aload_n 0, 1) := by decide +kernel
theorem dX11_readsProduct_39 : decode cX11_readsProduct 39 = .ok (.invokevirtual 158, 3) := by decide +kernel
theorem dX11_readsProduct_42 : decode cX11_readsProduct 42 = .ok (.istore_n 1, 1) := by decide +kernel
theorem dX11_readsProduct_43 : decode cX11_readsProduct 43 = .ok (.aload_n 0, 1) := by decide +kernel
theorem dX11_readsProduct_44 : decode cX11_readsProduct 44 = .ok (.dup, 1) := by decide +kernel
theorem dX11_readsProduct_45 : decode cX11_readsProduct 45 = .ok (.getfield 152, 3) := by decide +kernel
theorem dX11_readsProduct_48 : decode cX11_readsProduct 48 = .ok (.iconst 1, 1) := by decide +kernel
theorem dX11_readsProduct_49 : decode cX11_readsProduct 49 = .ok (.iadd, 1) := by decide +kernel
theorem dX11_readsProduct_50 : decode cX11_readsProduct 50 = .ok (.putfield 152, 3) := by decide +kernel
theorem dX11_readsProduct_53 : decode cX11_readsProduct 53 = .ok (.aload_n 0, 1) := by decide +kernel
theorem dX11_readsProduct_54 : decode cX11_readsProduct 54 = .ok (.invokevirtual 184, 3) := by decide +kernel
theorem dX11_readsProduct_57 : decode cX11_readsProduct 57 = .ok (.aload_n 0, 1) := by decide +kernel
theorem dX11_readsProduct_58 : decode cX11_readsProduct 58 = .ok (.bipush (-100), 2) := by decide +kernel
theorem dX11_readsProduct_60 : decode cX11_readsProduct 60 = .ok (.iload_n 1, 1) := by decide +kernel
theorem dX11_readsProduct_61 : decode cX11_readsProduct 61 = .ok (.isub, 1) := by decide +kernel
theorem dX11_readsProduct_62 : decode cX11_readsProduct 62 = .ok (.invokevirtual 171, 3) := by decide +kernel
theorem dX11_readsProduct_65 : decode cX11_readsProduct 65 = .ok (.goto (-61), 3) := by decide +kernel
theorem dX11_readsProduct_68 : decode cX11_readsProduct 68 = .ok (.return_, 1) := by decide +kernel
theorem dX11_nameOf_0 : decode cX11_nameOf 0 = .ok (.iload_n 0, 1) := by decide +kernel
theorem dX11_nameOf_1 : decode cX11_nameOf 1 = .ok (.lookupswitch 71 #[(97, 61), (98, 59), (110, 65), (111, 67), (119, 63), (121, 69)], 59) := by decide +kernel
theorem dX11_nameOf_60 : decode cX11_nameOf 60 = .ok (.iconst 0, 1) := by decide +kernel
theorem dX11_nameOf_61 : decode cX11_nameOf 61 = .ok (.ireturn, 1) := by decide +kernel
theorem dX11_nameOf_62 : decode cX11_nameOf 62 = .ok (.iconst 1, 1) := by decide +kernel
theorem dX11_nameOf_63 : decode cX11_nameOf 63 = .ok (.ireturn, 1) := by decide +kernel
theorem dX11_nameOf_64 : decode cX11_nameOf 64 = .ok (.iconst 2, 1) := by decide +kernel
theorem dX11_nameOf_65 : decode cX11_nameOf 65 = .ok (.ireturn, 1) := by decide +kernel
theorem dX11_nameOf_66 : decode cX11_nameOf 66 = .ok (.iconst 3, 1) := by decide +kernel
theorem dX11_nameOf_67 : decode cX11_nameOf 67 = .ok (.ireturn, 1) := by decide +kernel
theorem dX11_nameOf_68 : decode cX11_nameOf 68 = .ok (.iconst 4, 1) := by decide +kernel
theorem dX11_nameOf_69 : decode cX11_nameOf 69 = .ok (.ireturn, 1) := by decide +kernel
theorem dX11_nameOf_70 : decode cX11_nameOf 70 = .ok (.iconst 5, 1) := by decide +kernel
theorem dX11_nameOf_71 : decode cX11_nameOf 71 = .ok (.ireturn, 1) := by decide +kernel
theorem dX11_nameOf_72 : decode cX11_nameOf 72 = .ok (.iconst (-1), 1) := by decide +kernel
theorem dX11_nameOf_73 : decode cX11_nameOf 73 = .ok (.ireturn, 1) := by decide +kernel
theorem dX11_readsOne_0 : decode cX11_readsOne 0 = .ok (.aload_n 0, 1) := by decide +kernel
theorem dX11_readsOne_1 : decode cX11_readsOne 1 = .ok (.getfield 155, 3) := by decide +kernel
theorem dX11_readsOne_4 : decode cX11_readsOne 4 = .ok (.ifCond .lt 4, 3) := by decide +kernel
theorem dX11_readsOne_7 : decode cX11_readsOne 7 = .ok (.return_, 1) := by decide +kernel
theorem dX11_readsOne_8 : decode cX11_readsOne 8 = .ok (.aload_n 0, 1) := by decide +kernel
theorem dX11_readsOne_9 : decode cX11_readsOne 9 = .ok (.invokevirtual 158, 3) := by decide +kernel
theorem dX11_readsOne_12 : decode cX11_readsOne 12 = .ok (.istore_n 1, 1) := by decide +kernel
theorem dX11_readsOne_13 : decode cX11_readsOne 13 = .ok (.iload_n 1, 1) := by decide +kernel
theorem dX11_readsOne_14 : decode cX11_readsOne 14 = .ok (.bipush 33, 2) := by decide +kernel
theorem dX11_readsOne_16 : decode cX11_readsOne 16 = .ok (.if_icmp .eq 15, 3) := by decide +kernel
theorem dX11_readsOne_19 : decode cX11_readsOne 19 = .ok (.iload_n 1, 1) := by decide +kernel
theorem dX11_readsOne_20 : decode cX11_readsOne 20 = .ok (.bipush 45, 2) := by decide +kernel
theorem dX11_readsOne_22 : decode cX11_readsOne 22 = .ok (.if_icmp .eq 9, 3) := by decide +kernel
theorem dX11_readsOne_25 : decode cX11_readsOne 25 = .ok (.iload_n 1, 1) := by decide +kernel
theorem dX11_readsOne_26 : decode cX11_readsOne 26 = .ok (.bipush 40, 2) := by decide +kernel
theorem dX11_readsOne_28 : decode cX11_readsOne 28 = .ok (.if_icmp .ne 97, 3) := by decide +kernel
theorem dX11_readsOne_31 : decode cX11_readsOne 31 = .ok (.aload_n 0, 1) := by decide +kernel
theorem dX11_readsOne_32 : decode cX11_readsOne 32 = .ok (.getfield 187, 3) := by decide +kernel
theorem dX11_readsOne_35 : decode cX11_readsOne 35 = .ok (.bipush 6, 2) := by decide +kernel
theorem dX11_readsOne_37 : decode cX11_readsOne 37 = .ok (.if_icmp .ne 8, 3) := by decide +kernel
theorem dX11_readsOne_40 : decode cX11_readsOne 40 = .ok (.aload_n 0, 1) := by decide +kernel
theorem dX11_readsOne_41 : decode cX11_readsOne 41 = .ok (.invokevirtual 190, 3) := by decide +kernel
theorem dX11_readsOne_44 : decode cX11_readsOne 44 = .ok (.return_, 1) := by decide +kernel
theorem dX11_readsOne_45 : decode cX11_readsOne 45 = .ok (.aload_n 0, 1) := by decide +kernel
theorem dX11_readsOne_46 : decode cX11_readsOne 46 = .ok (.dup, 1) := by decide +kernel
theorem dX11_readsOne_47 : decode cX11_readsOne 47 = .ok (.getfield 187, 3) := by decide +kernel
theorem dX11_readsOne_50 : decode cX11_readsOne 50 = .ok (.iconst 1, 1) := by decide +kernel
theorem dX11_readsOne_51 : decode cX11_readsOne 51 = .ok (.iadd, 1) := by decide +kernel
theorem dX11_readsOne_52 : decode cX11_readsOne 52 = .ok (.putfield 187, 3) := by decide +kernel
theorem dX11_readsOne_55 : decode cX11_readsOne 55 = .ok (.aload_n 0, 1) := by decide +kernel
theorem dX11_readsOne_56 : decode cX11_readsOne 56 = .ok (.dup, 1) := by decide +kernel
theorem dX11_readsOne_57 : decode cX11_readsOne 57 = .ok (.getfield 152, 3) := by decide +kernel
theorem dX11_readsOne_60 : decode cX11_readsOne 60 = .ok (.iconst 1, 1) := by decide +kernel
theorem dX11_readsOne_61 : decode cX11_readsOne 61 = .ok (.iadd, 1) := by decide +kernel
theorem dX11_readsOne_62 : decode cX11_readsOne 62 = .ok (.putfield 152, 3) := by decide +kernel
theorem dX11_readsOne_65 : decode cX11_readsOne 65 = .ok (.iload_n 1, 1) := by decide +kernel
theorem dX11_readsOne_66 : decode cX11_readsOne 66 = .ok (.bipush 40, 2) := by decide +kernel
theorem dX11_readsOne_68 : decode cX11_readsOne 68 = .ok (.if_icmp .ne 23, 3) := by decide +kernel
theorem dX11_readsOne_71 : decode cX11_readsOne 71 = .ok (.aload_n 0, 1) := by decide +kernel
theorem dX11_readsOne_72 : decode cX11_readsOne 72 = .ok (.invokevirtual 193, 3) := by decide +kernel
theorem dX11_readsOne_75 : decode cX11_readsOne 75 = .ok (.aload_n 0, 1) := by decide +kernel
theorem dX11_readsOne_76 : decode cX11_readsOne 76 = .ok (.bipush 41, 2) := by decide +kernel
theorem dX11_readsOne_78 : decode cX11_readsOne 78 = .ok (.invokevirtual 168, 3) := by decide +kernel
theorem dX11_readsOne_81 : decode cX11_readsOne 81 = .ok (.ifCond .ne 33, 3) := by decide +kernel
theorem dX11_readsOne_84 : decode cX11_readsOne 84 = .ok (.aload_n 0, 1) := by decide +kernel
theorem dX11_readsOne_85 : decode cX11_readsOne 85 = .ok (.invokevirtual 190, 3) := by decide +kernel
theorem dX11_readsOne_88 : decode cX11_readsOne 88 = .ok (.goto 26, 3) := by decide +kernel
theorem dX11_readsOne_91 : decode cX11_readsOne 91 = .ok (.aload_n 0, 1) := by decide +kernel
theorem dX11_readsOne_92 : decode cX11_readsOne 92 = .ok (.invokevirtual 184, 3) := by decide +kernel
theorem dX11_readsOne_95 : decode cX11_readsOne 95 = .ok (.aload_n 0, 1) := by decide +kernel
theorem dX11_readsOne_96 : decode cX11_readsOne 96 = .ok (.iload_n 1, 1) := by decide +kernel
theorem dX11_readsOne_97 : decode cX11_readsOne 97 = .ok (.bipush 45, 2) := by decide +kernel
theorem dX11_readsOne_99 : decode cX11_readsOne 99 = .ok (.if_icmp .ne 9, 3) := by decide +kernel
theorem dX11_readsOne_102 : decode cX11_readsOne 102 = .ok (.sipush (-226), 3) := by decide +kernel
theorem dX11_readsOne_105 : decode cX11_readsOne 105 = .ok (.goto 6, 3) := by decide +kernel
theorem dX11_readsOne_108 : decode cX11_readsOne 108 = .ok (.sipush (-133), 3) := by decide +kernel
theorem dX11_readsOne_111 : decode cX11_readsOne 111 = .ok (.invokevirtual 171, 3) := by decide +kernel
theorem dX11_readsOne_114 : decode cX11_readsOne 114 = .ok (.aload_n 0, 1) := by decide +kernel
theorem dX11_readsOne_115 : decode cX11_readsOne 115 = .ok (.dup, 1) := by decide +kernel
theorem dX11_readsOne_116 : decode cX11_readsOne 116 = .ok (.getfield 187, 3) := by decide +kernel
theorem dX11_readsOne_119 : decode cX11_readsOne 119 = .ok (.iconst 1, 1) := by decide +kernel
theorem dX11_readsOne_120 : decode cX11_readsOne 120 = .ok (.isub, 1) := by decide +kernel
theorem dX11_readsOne_121 : decode cX11_readsOne 121 = .ok (.putfield 187, 3) := by decide +kernel
theorem dX11_readsOne_124 : decode cX11_readsOne 124 = .ok (.return_, 1) := by decide +kernel
theorem dX11_readsOne_125 : decode cX11_readsOne 125 = .ok (.iload_n 1, 1) := by decide +kernel
theorem dX11_readsOne_126 : decode cX11_readsOne 126 = .ok (.invokestatic 196, 3) := by decide +kernel
theorem dX11_readsOne_129 : decode cX11_readsOne 129 = .ok (.istore_n 2, 1) := by decide +kernel
theorem dX11_readsOne_130 : decode cX11_readsOne 130 = .ok (.iload_n 2, 1) := by decide +kernel
theorem dX11_readsOne_131 : decode cX11_readsOne 131 = .ok (.ifCond .lt 21, 3) := by decide +kernel
theorem dX11_readsOne_134 : decode cX11_readsOne 134 = .ok (.aload_n 0, 1) := by decide +kernel
theorem dX11_readsOne_135 : decode cX11_readsOne 135 = .ok (.dup, 1) := by decide +kernel
theorem dX11_readsOne_136 : decode cX11_readsOne 136 = .ok (.getfield 152, 3) := by decide +kernel
theorem dX11_readsOne_139 : decode cX11_readsOne 139 = .ok (.iconst 1, 1) := by decide +kernel
theorem dX11_readsOne_140 : decode cX11_readsOne 140 = .ok (.iadd, 1) := by decide +kernel
theorem dX11_readsOne_141 : decode cX11_readsOne 141 = .ok (.putfield 152, 3) := by decide +kernel
theorem dX11_readsOne_144 : decode cX11_readsOne 144 = .ok (.aload_n 0, 1) := by decide +kernel
theorem dX11_readsOne_145 : decode cX11_readsOne 145 = .ok (.iconst (-1), 1) := by decide +kernel
theorem dX11_readsOne_146 : decode cX11_readsOne 146 = .ok (.iload_n 2, 1) := by decide +kernel
theorem dX11_readsOne_147 : decode cX11_readsOne 147 = .ok (.isub, 1) := by decide +kernel
theorem dX11_readsOne_148 : decode cX11_readsOne 148 = .ok (.invokevirtual 171, 3) := by decide +kernel
theorem dX11_readsOne_151 : decode cX11_readsOne 151 = .ok (.return_, 1) := by decide +kernel
theorem dX11_readsOne_152 : decode cX11_readsOne 152 = .ok (.iconst 0, 1) := by decide +kernel
theorem dX11_readsOne_153 : decode cX11_readsOne 153 = .ok (.istore_n 3, 1) := by decide +kernel
theorem dX11_readsOne_154 : decode cX11_readsOne 154 = .ok (.iconst 0, 1) := by decide +kernel
theorem dX11_readsOne_155 : decode cX11_readsOne 155 = .ok (.istore 4, 2) := by decide +kernel
theorem dX11_readsOne_157 : decode cX11_readsOne 157 = .ok (.iload 4, 2) := by decide +kernel
theorem dX11_readsOne_159 : decode cX11_readsOne 159 = .ok (.iconst 4, 1) := by decide +kernel
theorem dX11_readsOne_160 : decode cX11_readsOne 160 = .ok (.if_icmp .ge 50, 3) := by decide +kernel
theorem dX11_readsOne_163 : decode cX11_readsOne 163 = .ok (.aload_n 0, 1) := by decide +kernel
theorem dX11_readsOne_164 : decode cX11_readsOne 164 = .ok (.invokevirtual 158, 3) := by decide +kernel
theorem dX11_readsOne_167 : decode cX11_readsOne 167 = .ok (.bipush 48, 2) := by decide +kernel
theorem dX11_readsOne_169 : decode cX11_readsOne 169 = .ok (.if_icmp .lt 41, 3) := by decide +kernel
theorem dX11_readsOne_172 : decode cX11_readsOne 172 = .ok (.aload_n 0, 1) := by decide +kernel
theorem dX11_readsOne_173 : decode cX11_readsOne 173 = .ok (.invokevirtual 158, 3) := by decide +kernel
theorem dX11_readsOne_176 : decode cX11_readsOne 176 = .ok (.bipush 57, 2) := by decide +kernel
theorem dX11_readsOne_178 : decode cX11_readsOne 178 = .ok (.if_icmp .gt 32, 3) := by decide +kernel
theorem dX11_readsOne_181 : decode cX11_readsOne 181 = .ok (.bipush 10, 2) := by decide +kernel
theorem dX11_readsOne_183 : decode cX11_readsOne 183 = .ok (.iload_n 3, 1) := by decide +kernel
theorem dX11_readsOne_184 : decode cX11_readsOne 184 = .ok (.imul, 1) := by decide +kernel
theorem dX11_readsOne_185 : decode cX11_readsOne 185 = .ok (.aload_n 0, 1) := by decide +kernel
theorem dX11_readsOne_186 : decode cX11_readsOne 186 = .ok (.invokevirtual 158, 3) := by decide +kernel
theorem dX11_readsOne_189 : decode cX11_readsOne 189 = .ok (.iadd, 1) := by decide +kernel
theorem dX11_readsOne_190 : decode cX11_readsOne 190 = .ok (.bipush 48, 2) := by decide +kernel
theorem dX11_readsOne_192 : decode cX11_readsOne 192 = .ok (.isub, 1) := by decide +kernel
theorem dX11_readsOne_193 : decode cX11_readsOne 193 = .ok (.istore_n 3, 1) := by decide +kernel
theorem dX11_readsOne_194 : decode cX11_readsOne 194 = .ok (.iinc 4 1, 3) := by decide +kernel
theorem dX11_readsOne_197 : decode cX11_readsOne 197 = .ok (.aload_n 0, 1) := by decide +kernel
theorem dX11_readsOne_198 : decode cX11_readsOne 198 = .ok (.dup, 1) := by decide +kernel
theorem dX11_readsOne_199 : decode cX11_readsOne 199 = .ok (.getfield 152, 3) := by decide +kernel
theorem dX11_readsOne_202 : decode cX11_readsOne 202 = .ok (.iconst 1, 1) := by decide +kernel
theorem dX11_readsOne_203 : decode cX11_readsOne 203 = .ok (.iadd, 1) := by decide +kernel
theorem dX11_readsOne_204 : decode cX11_readsOne 204 = .ok (.putfield 152, 3) := by decide +kernel
theorem dX11_readsOne_207 : decode cX11_readsOne 207 = .ok (.goto (-50), 3) := by decide +kernel
theorem dX11_readsOne_210 : decode cX11_readsOne 210 = .ok (.iload 4, 2) := by decide +kernel
theorem dX11_readsOne_212 : decode cX11_readsOne 212 = .ok (.ifCond .ne 7, 3) := by decide +kernel
theorem dX11_readsOne_215 : decode cX11_readsOne 215 = .ok (.aload_n 0, 1) := by decide +kernel
theorem dX11_readsOne_216 : decode cX11_readsOne 216 = .ok (.invokevirtual 190, 3) := by decide +kernel
theorem dX11_readsOne_219 : decode cX11_readsOne 219 = .ok (.aload_n 0, 1) := by decide +kernel
theorem dX11_readsOne_220 : decode cX11_readsOne 220 = .ok (.iload_n 3, 1) := by decide +kernel
theorem dX11_readsOne_221 : decode cX11_readsOne 221 = .ok (.invokevirtual 171, 3) := by decide +kernel
theorem dX11_readsOne_224 : decode cX11_readsOne 224 = .ok (.return_, 1) := by decide +kernel
theorem dX11_law_0 : decode cX11_law 0 = .ok (.aload_n 0, 1) := by decide +kernel
theorem dX11_law_1 : decode cX11_law 1 = .ok (.iconst 0, 1) := by decide +kernel
theorem dX11_law_2 : decode cX11_law 2 = .ok (.putfield 152, 3) := by decide +kernel
theorem dX11_law_5 : decode cX11_law 5 = .ok (.aload_n 0, 1) := by decide +kernel
theorem dX11_law_6 : decode cX11_law 6 = .ok (.iconst (-1), 1) := by decide +kernel
theorem dX11_law_7 : decode cX11_law 7 = .ok (.putfield 155, 3) := by decide +kernel
theorem dX11_law_10 : decode cX11_law 10 = .ok (.aload_n 0, 1) := by decide +kernel
theorem dX11_law_11 : decode cX11_law 11 = .ok (.iconst 0, 1) := by decide +kernel
theorem dX11_law_12 : decode cX11_law 12 = .ok (.putfield 187, 3) := by decide +kernel
theorem dX11_law_15 : decode cX11_law 15 = .ok (.aload_n 0, 1) := by decide +kernel
theorem dX11_law_16 : decode cX11_law 16 = .ok (.iconst 0, 1) := by decide +kernel
theorem dX11_law_17 : decode cX11_law 17 = .ok (.putfield 162, 3) := by decide +kernel
theorem dX11_law_20 : decode cX11_law 20 = .ok (.aload_n 0, 1) := by decide +kernel
theorem dX11_law_21 : decode cX11_law 21 = .ok (.iconst 0, 1) := by decide +kernel
theorem dX11_law_22 : decode cX11_law 22 = .ok (.putfield 200, 3) := by decide +kernel
theorem dX11_law_25 : decode cX11_law 25 = .ok (.iconst 1, 1) := by decide +kernel
theorem dX11_law_26 : decode cX11_law 26 = .ok (.istore_n 1, 1) := by decide +kernel
theorem dX11_law_27 : decode cX11_law 27 = .ok (.iload_n 1, 1) := by decide +kernel
theorem dX11_law_28 : decode cX11_law 28 = .ok (.ifCond .eq 81, 3) := by decide +kernel
theorem dX11_law_31 : decode cX11_law 31 = .ok (.aload_n 0, 1) := by decide +kernel
theorem dX11_law_32 : decode cX11_law 32 = .ok (.getfield 162, 3) := by decide +kernel
theorem dX11_law_35 : decode cX11_law 35 = .ok (.istore_n 2, 1) := by decide +kernel
theorem dX11_law_36 : decode cX11_law 36 = .ok (.aload_n 0, 1) := by decide +kernel
theorem dX11_law_37 : decode cX11_law 37 = .ok (.invokevirtual 193, 3) := by decide +kernel
theorem dX11_law_40 : decode cX11_law 40 = .ok (.aload_n 0, 1) := by decide +kernel
theorem dX11_law_41 : decode cX11_law 41 = .ok (.bipush 63, 2) := by decide +kernel
theorem dX11_law_43 : decode cX11_law 43 = .ok (.invokevirtual 168, 3) := by decide +kernel
theorem dX11_law_46 : decode cX11_law 46 = .ok (.istore_n 3, 1) := by decide +kernel
theorem dX11_law_47 : decode cX11_law 47 = .ok (.aload_n 0, 1) := by decide +kernel
theorem dX11_law_48 : decode cX11_law 48 = .ok (.getfield 31, 3) := by decide +kernel
theorem dX11_law_51 : decode cX11_law 51 = .ok (.aload_n 0, 1) := by decide +kernel
theorem dX11_law_52 : decode cX11_law 52 = .ok (.getfield 200, 3) := by decide +kernel
theorem dX11_law_55 : decode cX11_law 55 = .ok (.iload_n 3, 1) := by decide +kernel
theorem dX11_law_56 : decode cX11_law 56 = .ok (.ifCond .eq 10, 3) := by decide +kernel
theorem dX11_law_59 : decode cX11_law 59 = .ok (.aload_n 0, 1) := by decide +kernel
theorem dX11_law_60 : decode cX11_law 60 = .ok (.getfield 162, 3) := by decide +kernel
theorem dX11_law_63 : decode cX11_law 63 = .ok (.goto 4, 3) := by decide +kernel
theorem dX11_law_66 : decode cX11_law 66 = .ok (.iload_n 2, 1) := by decide +kernel
theorem dX11_law_67 : decode cX11_law 67 = .ok (.iastore, 1) := by decide +kernel
theorem dX11_law_68 : decode cX11_law 68 = .ok (.iload_n 3, 1) := by decide +kernel
theorem dX11_law_69 : decode cX11_law 69 = .ok (.ifCond .eq 7, 3) := by decide +kernel
theorem dX11_law_72 : decode cX11_law 72 = .ok (.aload_n 0, 1) := by decide +kernel
theorem dX11_law_73 : decode cX11_law 73 = .ok (.invokevirtual 193, 3) := by decide +kernel
theorem dX11_law_76 : decode cX11_law 76 = .ok (.aload_n 0, 1) := by decide +kernel
theorem dX11_law_77 : decode cX11_law 77 = .ok (.getfield 34, 3) := by decide +kernel
theorem dX11_law_80 : decode cX11_law 80 = .ok (.aload_n 0, 1) := by decide +kernel
theorem dX11_law_81 : decode cX11_law 81 = .ok (.getfield 200, 3) := by decide +kernel
theorem dX11_law_84 : decode cX11_law 84 = .ok (.aload_n 0, 1) := by decide +kernel
theorem dX11_law_85 : decode cX11_law 85 = .ok (.getfield 162, 3) := by decide +kernel
theorem dX11_law_88 : decode cX11_law 88 = .ok (.iastore, 1) := by decide +kernel
theorem dX11_law_89 : decode cX11_law 89 = .ok (.aload_n 0, 1) := by decide +kernel
theorem dX11_law_90 : decode cX11_law 90 = .ok (.dup, 1) := by decide +kernel
theorem dX11_law_91 : decode cX11_law 91 = .ok (.getfield 200, 3) := by decide +kernel
theorem dX11_law_94 : decode cX11_law 94 = .ok (.iconst 1, 1) := by decide +kernel
theorem dX11_law_95 : decode cX11_law 95 = .ok (.iadd, 1) := by decide +kernel
theorem dX11_law_96 : decode cX11_law 96 = .ok (.putfield 200, 3) := by decide +kernel
theorem dX11_law_99 : decode cX11_law 99 = .ok (.aload_n 0, 1) := by decide +kernel
theorem dX11_law_100 : decode cX11_law 100 = .ok (.bipush 59, 2) := by decide +kernel
theorem dX11_law_102 : decode cX11_law 102 = .ok (.invokevirtual 168, 3) := by decide +kernel
theorem dX11_law_105 : decode cX11_law 105 = .ok (.istore_n 1, 1) := by decide +kernel
theorem dX11_law_106 : decode cX11_law 106 = .ok (.goto (-79), 3) := by decide +kernel
theorem dX11_law_109 : decode cX11_law 109 = .ok (.aload_n 0, 1) := by decide +kernel
theorem dX11_law_110 : decode cX11_law 110 = .ok (.getfield 152, 3) := by decide +kernel
theorem dX11_law_113 : decode cX11_law 113 = .ok (.aload_n 0, 1) := by decide +kernel
theorem dX11_law_114 : decode cX11_law 114 = .ok (.getfield 149, 3) := by decide +kernel
theorem dX11_law_117 : decode cX11_law 117 = .ok (.if_icmp .ge 7, 3) := by decide +kernel
theorem dX11_law_120 : decode cX11_law 120 = .ok (.aload_n 0, 1) := by decide +kernel
theorem dX11_law_121 : decode cX11_law 121 = .ok (.invokevirtual 190, 3) := by decide +kernel
theorem dX11_law_124 : decode cX11_law 124 = .ok (.aload_n 0, 1) := by decide +kernel
theorem dX11_law_125 : decode cX11_law 125 = .ok (.iconst 0, 1) := by decide +kernel
theorem dX11_law_126 : decode cX11_law 126 = .ok (.putfield 149, 3) := by decide +kernel
theorem dX11_law_129 : decode cX11_law 129 = .ok (.aload_n 0, 1) := by decide +kernel
theorem dX11_law_130 : decode cX11_law 130 = .ok (.getfield 155, 3) := by decide +kernel
theorem dX11_law_133 : decode cX11_law 133 = .ok (.ifCond .lt 11, 3) := by decide +kernel
theorem dX11_law_136 : decode cX11_law 136 = .ok (.bipush (-100), 2) := by decide +kernel
theorem dX11_law_138 : decode cX11_law 138 = .ok (.aload_n 0, 1) := by decide +kernel
theorem dX11_law_139 : decode cX11_law 139 = .ok (.getfield 155, 3) := by decide +kernel
theorem dX11_law_142 : decode cX11_law 142 = .ok (.isub, 1) := by decide +kernel
theorem dX11_law_143 : decode cX11_law 143 = .ok (.ireturn, 1) := by decide +kernel
theorem dX11_law_144 : decode cX11_law 144 = .ok (.aload_n 0, 1) := by decide +kernel
theorem dX11_law_145 : decode cX11_law 145 = .ok (.aload_n 0, 1) := by decide +kernel
theorem dX11_law_146 : decode cX11_law 146 = .ok (.getfield 200, 3) := by decide +kernel
theorem dX11_law_149 : decode cX11_law 149 = .ok (.putfield 203, 3) := by decide +kernel
theorem dX11_law_152 : decode cX11_law 152 = .ok (.iconst 0, 1) := by decide +kernel
theorem dX11_law_153 : decode cX11_law 153 = .ok (.istore_n 2, 1) := by decide +kernel
theorem dX11_law_154 : decode cX11_law 154 = .ok (.iload_n 2, 1) := by decide +kernel
theorem dX11_law_155 : decode cX11_law 155 = .ok (.aload_n 0, 1) := by decide +kernel
theorem dX11_law_156 : decode cX11_law 156 = .ok (.getfield 203, 3) := by decide +kernel
theorem dX11_law_159 : decode cX11_law 159 = .ok (.if_icmp .ge 33, 3) := by decide +kernel
theorem dX11_law_162 : decode cX11_law 162 = .ok (.aload_n 0, 1) := by decide +kernel
theorem dX11_law_163 : decode cX11_law 163 = .ok (.getfield 37, 3) := by decide +kernel
theorem dX11_law_166 : decode cX11_law 166 = .ok (.iload_n 2, 1) := by decide +kernel
theorem dX11_law_167 : decode cX11_law 167 = .ok (.aload_n 0, 1) := by decide +kernel
theorem dX11_law_168 : decode cX11_law 168 = .ok (.getfield 31, 3) := by decide +kernel
theorem dX11_law_171 : decode cX11_law 171 = .ok (.iload_n 2, 1) := by decide +kernel
theorem dX11_law_172 : decode cX11_law 172 = .ok (.iaload, 1) := by decide +kernel
theorem dX11_law_173 : decode cX11_law 173 = .ok (.iastore, 1) := by decide +kernel
theorem dX11_law_174 : decode cX11_law 174 = .ok (.aload_n 0, 1) := by decide +kernel
theorem dX11_law_175 : decode cX11_law 175 = .ok (.getfield 40, 3) := by decide +kernel
theorem dX11_law_178 : decode cX11_law 178 = .ok (.iload_n 2, 1) := by decide +kernel
theorem dX11_law_179 : decode cX11_law 179 = .ok (.aload_n 0, 1) := by decide +kernel
theorem dX11_law_180 : decode cX11_law 180 = .ok (.getfield 34, 3) := by decide +kernel
theorem dX11_law_183 : decode cX11_law 183 = .ok (.iload_n 2, 1) := by decide +kernel
theorem dX11_law_184 : decode cX11_law 184 = .ok (.iaload, 1) := by decide +kernel
theorem dX11_law_185 : decode cX11_law 185 = .ok (.iastore, 1) := by decide +kernel
theorem dX11_law_186 : decode cX11_law 186 = .ok (.iinc 2 1, 3) := by decide +kernel
theorem dX11_law_189 : decode cX11_law 189 = .ok (.goto (-35), 3) := by decide +kernel
theorem dX11_law_192 : decode cX11_law 192 = .ok (.iconst 0, 1) := by decide +kernel
theorem dX11_law_193 : decode cX11_law 193 = .ok (.istore_n 2, 1) := by decide +kernel
theorem dX11_law_194 : decode cX11_law 194 = .ok (.iload_n 2, 1) := by decide +kernel
theorem dX11_law_195 : decode cX11_law 195 = .ok (.aload_n 0, 1) := by decide +kernel
theorem dX11_law_196 : decode cX11_law 196 = .ok (.getfield 162, 3) := by decide +kernel
theorem dX11_law_199 : decode cX11_law 199 = .ok (.if_icmp .ge 21, 3) := by decide +kernel
theorem dX11_law_202 : decode cX11_law 202 = .ok (.aload_n 0, 1) := by decide +kernel
theorem dX11_law_203 : decode cX11_law 203 = .ok (.getfield 28, 3) := by decide +kernel
theorem dX11_law_206 : decode cX11_law 206 = .ok (.iload_n 2, 1) := by decide +kernel
theorem dX11_law_207 : decode cX11_law 207 = .ok (.aload_n 0, 1) := by decide +kernel
theorem dX11_law_208 : decode cX11_law 208 = .ok (.getfield 25, 3) := by decide +kernel
theorem dX11_law_211 : decode cX11_law 211 = .ok (.iload_n 2, 1) := by decide +kernel
theorem dX11_law_212 : decode cX11_law 212 = .ok (.iaload, 1) := by decide +kernel
theorem dX11_law_213 : decode cX11_law 213 = .ok (.iastore, 1) := by decide +kernel
theorem dX11_law_214 : decode cX11_law 214 = .ok (.iinc 2 1, 3) := by decide +kernel
theorem dX11_law_217 : decode cX11_law 217 = .ok (.goto (-23), 3) := by decide +kernel
theorem dX11_law_220 : decode cX11_law 220 = .ok (.iconst 1, 1) := by decide +kernel
theorem dX11_law_221 : decode cX11_law 221 = .ok (.ireturn, 1) := by decide +kernel
theorem dX11_joined_0 : decode cX11_joined 0 = .ok (.iload_n 0, 1) := by decide +kernel
theorem dX11_joined_1 : decode cX11_joined 1 = .ok (.tableswitch 202 37 62 #[143, 188, 202, 202, 202, 127, 119, 202, 123, 202, 131, 202, 202, 202, 202, 202, 202, 202, 202, 202, 202, 202, 202, 155, 166, 177], 119) := by decide +kernel
theorem dX11_joined_120 : decode cX11_joined 120 = .ok (.iload_n 1, 1) := by decide +kernel
theorem dX11_joined_121 : decode cX11_joined 121 = .ok (.iload_n 2, 1) := by decide +kernel
theorem dX11_joined_122 : decode cX11_joined 122 = .ok (.iadd, 1) := by decide +kernel
theorem dX11_joined_123 : decode cX11_joined 123 = .ok (.ireturn, 1) := by decide +kernel
theorem dX11_joined_124 : decode cX11_joined 124 = .ok (.iload_n 1, 1) := by decide +kernel
theorem dX11_joined_125 : decode cX11_joined 125 = .ok (.iload_n 2, 1) := by decide +kernel
theorem dX11_joined_126 : decode cX11_joined 126 = .ok (.isub, 1) := by decide +kernel
theorem dX11_joined_127 : decode cX11_joined 127 = .ok (.ireturn, 1) := by decide +kernel
theorem dX11_joined_128 : decode cX11_joined 128 = .ok (.iload_n 1, 1) := by decide +kernel
theorem dX11_joined_129 : decode cX11_joined 129 = .ok (.iload_n 2, 1) := by decide +kernel
theorem dX11_joined_130 : decode cX11_joined 130 = .ok (.imul, 1) := by decide +kernel
theorem dX11_joined_131 : decode cX11_joined 131 = .ok (.ireturn, 1) := by decide +kernel
theorem dX11_joined_132 : decode cX11_joined 132 = .ok (.iload_n 2, 1) := by decide +kernel
theorem dX11_joined_133 : decode cX11_joined 133 = .ok (.ifCond .ne 7, 3) := by decide +kernel
theorem dX11_joined_136 : decode cX11_joined 136 = .ok (.iconst 0, 1) := by decide +kernel
theorem dX11_joined_137 : decode cX11_joined 137 = .ok (.goto 6, 3) := by decide +kernel
theorem dX11_joined_140 : decode cX11_joined 140 = .ok (.iload_n 1, 1) := by decide +kernel
theorem dX11_joined_141 : decode cX11_joined 141 = .ok (.iload_n 2, 1) := by decide +kernel
theorem dX11_joined_142 : decode cX11_joined 142 = .ok (.idiv, 1) := by decide +kernel
theorem dX11_joined_143 : decode cX11_joined 143 = .ok (.ireturn, 1) := by decide +kernel
theorem dX11_joined_144 : decode cX11_joined 144 = .ok (.iload_n 2, 1) := by decide +kernel
theorem dX11_joined_145 : decode cX11_joined 145 = .ok (.ifCond .ne 7, 3) := by decide +kernel
theorem dX11_joined_148 : decode cX11_joined 148 = .ok (.iconst 0, 1) := by decide +kernel
theorem dX11_joined_149 : decode cX11_joined 149 = .ok (.goto 6, 3) := by decide +kernel
theorem dX11_joined_152 : decode cX11_joined 152 = .ok (.iload_n 1, 1) := by decide +kernel
theorem dX11_joined_153 : decode cX11_joined 153 = .ok (.iload_n 2, 1) := by decide +kernel
theorem dX11_joined_154 : decode cX11_joined 154 = .ok (.irem, 1) := by decide +kernel
theorem dX11_joined_155 : decode cX11_joined 155 = .ok (.ireturn, 1) := by decide +kernel
theorem dX11_joined_156 : decode cX11_joined 156 = .ok (.iload_n 1, 1) := by decide +kernel
theorem dX11_joined_157 : decode cX11_joined 157 = .ok (.iload_n 2, 1) := by decide +kernel
theorem dX11_joined_158 : decode cX11_joined 158 = .ok (.if_icmp .ge 7, 3) := by decide +kernel
theorem dX11_joined_161 : decode cX11_joined 161 = .ok (.iconst 1, 1) := by decide +kernel
theorem dX11_joined_162 : decode cX11_joined 162 = .ok (.goto 4, 3) := by decide +kernel
theorem dX11_joined_165 : decode cX11_joined 165 = .ok (.iconst 0, 1) := by decide +kernel
theorem dX11_joined_166 : decode cX11_joined 166 = .ok (.ireturn, 1) := by decide +kernel
theorem dX11_joined_167 : decode cX11_joined 167 = .ok (.iload_n 1, 1) := by decide +kernel
theorem dX11_joined_168 : decode cX11_joined 168 = .ok (.iload_n 2, 1) := by decide +kernel
theorem dX11_joined_169 : decode cX11_joined 169 = .ok (.if_icmp .ne 7, 3) := by decide +kernel
theorem dX11_joined_172 : decode cX11_joined 172 = .ok (.iconst 1, 1) := by decide +kernel
theorem dX11_joined_173 : decode cX11_joined 173 = .ok (.goto 4, 3) := by decide +kernel
theorem dX11_joined_176 : decode cX11_joined 176 = .ok (.iconst 0, 1) := by decide +kernel
theorem dX11_joined_177 : decode cX11_joined 177 = .ok (.ireturn, 1) := by decide +kernel
theorem dX11_joined_178 : decode cX11_joined 178 = .ok (.iload_n 1, 1) := by decide +kernel
theorem dX11_joined_179 : decode cX11_joined 179 = .ok (.iload_n 2, 1) := by decide +kernel
theorem dX11_joined_180 : decode cX11_joined 180 = .ok (.if_icmp .le 7, 3) := by decide +kernel
theorem dX11_joined_183 : decode cX11_joined 183 = .ok (.iconst 1, 1) := by decide +kernel
theorem dX11_joined_184 : decode cX11_joined 184 = .ok (.goto 4, 3) := by decide +kernel
theorem dX11_joined_187 : decode cX11_joined 187 = .ok (.iconst 0, 1) := by decide +kernel
theorem dX11_joined_188 : decode cX11_joined 188 = .ok (.ireturn, 1) := by decide +kernel
theorem dX11_joined_189 : decode cX11_joined 189 = .ok (.iload_n 1, 1) := by decide +kernel
theorem dX11_joined_190 : decode cX11_joined 190 = .ok (.ifCond .eq 11, 3) := by decide +kernel
theorem dX11_joined_193 : decode cX11_joined 193 = .ok (.iload_n 2, 1) := by decide +kernel
theorem dX11_joined_194 : decode cX11_joined 194 = .ok (.ifCond .eq 7, 3) := by decide +kernel
theorem dX11_joined_197 : decode cX11_joined 197 = .ok (.iconst 1, 1) := by decide +kernel
theorem dX11_joined_198 : decode cX11_joined 198 = .ok (.goto 4, 3) := by decide +kernel
theorem dX11_joined_201 : decode cX11_joined 201 = .ok (.iconst 0, 1) := by decide +kernel
theorem dX11_joined_202 : decode cX11_joined 202 = .ok (.ireturn, 1) := by decide +kernel
theorem dX11_joined_203 : decode cX11_joined 203 = .ok (.iload_n 1, 1) := by decide +kernel
theorem dX11_joined_204 : decode cX11_joined 204 = .ok (.ifCond .ne 7, 3) := by decide +kernel
theorem dX11_joined_207 : decode cX11_joined 207 = .ok (.iload_n 2, 1) := by decide +kernel
theorem dX11_joined_208 : decode cX11_joined 208 = .ok (.ifCond .eq 7, 3) := by decide +kernel
theorem dX11_joined_211 : decode cX11_joined 211 = .ok (.iconst 1, 1) := by decide +kernel
theorem dX11_joined_212 : decode cX11_joined 212 = .ok (.goto 4, 3) := by decide +kernel
theorem dX11_joined_215 : decode cX11_joined 215 = .ok (.iconst 0, 1) := by decide +kernel
theorem dX11_joined_216 : decode cX11_joined 216 = .ok (.ireturn, 1) := by decide +kernel
theorem dX11_workedOut_0 : decode cX11_workedOut 0 = .ok (.iconst 0, 1) := by decide +kernel
theorem dX11_workedOut_1 : decode cX11_workedOut 1 = .ok (.istore_n 3, 1) := by decide +kernel
theorem dX11_workedOut_2 : decode cX11_workedOut 2 = .ok (.iload_n 1, 1) := by decide +kernel
theorem dX11_workedOut_3 : decode cX11_workedOut 3 = .ok (.istore 4, 2) := by decide +kernel
theorem dX11_workedOut_5 : decode cX11_workedOut 5 = .ok (.iload 4, 2) := by decide +kernel
theorem dX11_workedOut_7 : decode cX11_workedOut 7 = .ok (.iload_n 2, 1) := by decide +kernel
theorem dX11_workedOut_8 : decode cX11_workedOut 8 = .ok (.if_icmp .ge 157, 3) := by decide +kernel
theorem dX11_workedOut_11 : decode cX11_workedOut 11 = .ok (.aload_n 0, 1) := by decide +kernel
theorem dX11_workedOut_12 : decode cX11_workedOut 12 = .ok (.getfield 28, 3) := by decide +kernel
theorem dX11_workedOut_15 : decode cX11_workedOut 15 = .ok (.iload 4, 2) := by decide +kernel
theorem dX11_workedOut_17 : decode cX11_workedOut 17 = .ok (.iaload, 1) := by decide +kernel
theorem dX11_workedOut_18 : decode cX11_workedOut 18 = .ok (.istore 5, 2) := by decide +kernel
theorem dX11_workedOut_20 : decode cX11_workedOut 20 = .ok (.iload 5, 2) := by decide +kernel
theorem dX11_workedOut_22 : decode cX11_workedOut 22 = .ok (.ifCond .ge 10, 3) := by decide +kernel
theorem dX11_workedOut_25 : decode cX11_workedOut 25 = .ok (.iload 5, 2) := by decide +kernel
theorem dX11_workedOut_27 : decode cX11_workedOut 27 = .ok (.bipush (-100), 2) := by decide +kernel
theorem dX11_workedOut_29 : decode cX11_workedOut 29 = .ok (.if_icmp .le 34, 3) := by decide +kernel
theorem dX11_workedOut_32 : decode cX11_workedOut 32 = .ok (.aload_n 0, 1) := by decide +kernel
theorem dX11_workedOut_33 : decode cX11_workedOut 33 = .ok (.getfield 43, 3) := by decide +kernel
theorem dX11_workedOut_36 : decode cX11_workedOut 36 = .ok (.iload_n 3, 1) := by decide +kernel
theorem dX11_workedOut_37 : decode cX11_workedOut 37 = .ok (.iload 5, 2) := by decide +kernel
theorem dX11_workedOut_39 : decode cX11_workedOut 39 = .ok (.ifCond .lt 8, 3) := by decide +kernel
theorem dX11_workedOut_42 : decode cX11_workedOut 42 = .ok (.iload 5, 2) := by decide +kernel
theorem dX11_workedOut_44 : decode cX11_workedOut 44 = .ok (.goto 12, 3) := by decide +kernel
theorem dX11_workedOut_47 : decode cX11_workedOut 47 = .ok (.aload_n 0, 1) := by decide +kernel
theorem dX11_workedOut_48 : decode cX11_workedOut 48 = .ok (.getfield 46, 3) := by decide +kernel
theorem dX11_workedOut_51 : decode cX11_workedOut 51 = .ok (.iconst (-1), 1) := by decide +kernel
theorem dX11_workedOut_52 : decode cX11_workedOut 52 = .ok (.iload 5, 2) := by decide +kernel
theorem dX11_workedOut_54 : decode cX11_workedOut 54 = .ok (.isub, 1) := by decide +kernel
theorem dX11_workedOut_55 : decode cX11_workedOut 55 = .ok (.iaload, 1) := by decide +kernel
theorem dX11_workedOut_56 : decode cX11_workedOut 56 = .ok (.iastore, 1) := by decide +kernel
theorem dX11_workedOut_57 : decode cX11_workedOut 57 = .ok (.iinc 3 1, 3) := by decide +kernel
theorem dX11_workedOut_60 : decode cX11_workedOut 60 = .ok (.goto 99, 3) := by decide +kernel
theorem dX11_workedOut_63 : decode cX11_workedOut 63 = .ok (.iload 5, 2) := by decide +kernel
theorem dX11_workedOut_65 : decode cX11_workedOut 65 = .ok (.sipush (-226), 3) := by decide +kernel
theorem dX11_workedOut_68 : decode cX11_workedOut 68 = .ok (.if_icmp .eq 11, 3) := by decide +kernel
theorem dX11_workedOut_71 : decode cX11_workedOut 71 = .ok (.iload 5, 2) := by decide +kernel
theorem dX11_workedOut_73 : decode cX11_workedOut 73 = .ok (.sipush (-133), 3) := by decide +kernel
theorem dX11_workedOut_76 : decode cX11_workedOut 76 = .ok (.if_icmp .ne 50, 3) := by decide +kernel
theorem dX11_workedOut_79 : decode cX11_workedOut 79 = .ok (.aload_n 0, 1) := by decide +kernel
theorem dX11_workedOut_80 : decode cX11_workedOut 80 = .ok (.getfield 43, 3) := by decide +kernel
theorem dX11_workedOut_83 : decode cX11_workedOut 83 = .ok (.iload_n 3, 1) := by decide +kernel
theorem dX11_workedOut_84 : decode cX11_workedOut 84 = .ok (.iconst 1, 1) := by decide +kernel
theorem dX11_workedOut_85 : decode cX11_workedOut 85 = .ok (.isub, 1) := by decide +kernel
theorem dX11_workedOut_86 : decode cX11_workedOut 86 = .ok (.iload 5, 2) := by decide +kernel
theorem dX11_workedOut_88 : decode cX11_workedOut 88 = .ok (.sipush (-226), 3) := by decide +kernel
theorem dX11_workedOut_91 : decode cX11_workedOut 91 = .ok (.if_icmp .ne 15, 3) := by decide +kernel
theorem dX11_workedOut_94 : decode cX11_workedOut 94 = .ok (.aload_n 0, 1) := by decide +kernel
theorem dX11_workedOut_95 : decode cX11_workedOut 95 = .ok (.getfield 43, 3) := by decide +kernel
theorem dX11_workedOut_98 : decode cX11_workedOut 98 = .ok (.iload_n 3, 1) := by decide +kernel
theorem dX11_workedOut_99 : decode cX11_workedOut 99 = .ok (.iconst 1, 1) := by decide +kernel
theorem dX11_workedOut_100 : decode cX11_workedOut 100 = .ok (.isub, 1) := by decide +kernel
theorem dX11_workedOut_101 : decode cX11_workedOut 101 = .ok (.iaload, 1) := by decide +kernel
theorem dX11_workedOut_102 : decode cX11_workedOut 102 = .ok (.ineg, 1) := by decide +kernel
theorem dX11_workedOut_103 : decode cX11_workedOut 103 = .ok (.goto 19, 3) := by decide +kernel
theorem dX11_workedOut_106 : decode cX11_workedOut 106 = .ok (.aload_n 0, 1) := by decide +kernel
theorem dX11_workedOut_107 : decode cX11_workedOut 107 = .ok (.getfield 43, 3) := by decide +kernel
theorem dX11_workedOut_110 : decode cX11_workedOut 110 = .ok (.iload_n 3, 1) := by decide +kernel
theorem dX11_workedOut_111 : decode cX11_workedOut 111 = .ok (.iconst 1, 1) := by decide +kernel
theorem dX11_workedOut_112 : decode cX11_workedOut 112 = .ok (.isub, 1) := by decide +kernel
theorem dX11_workedOut_113 : decode cX11_workedOut 113 = .ok (.iaload, 1) := by decide +kernel
theorem dX11_workedOut_114 : decode cX11_workedOut 114 = .ok (.ifCond .ne 7, 3) := by decide +kernel
theorem dX11_workedOut_117 : decode cX11_workedOut 117 = .ok (.iconst 1, 1) := by decide +kernel
theorem dX11_workedOut_118 : decode cX11_workedOut 118 = .ok (.goto 4, 3) := by decide +kernel
theorem dX11_workedOut_121 : decode cX11_workedOut 121 = .ok (.iconst 0, 1) := by decide +kernel
theorem dX11_workedOut_122 : decode cX11_workedOut 122 = .ok (.iastore, 1) := by decide +kernel
theorem dX11_workedOut_123 : decode cX11_workedOut 123 = .ok (.goto 36, 3) := by decide +kernel
theorem dX11_workedOut_126 : decode cX11_workedOut 126 = .ok (.iinc 3 (-1), 3) := by decide +kernel
theorem dX11_workedOut_129 : decode cX11_workedOut 129 = .ok (.aload_n 0, 1) := by decide +kernel
theorem dX11_workedOut_130 : decode cX11_workedOut 130 = .ok (.getfield 43, 3) := by decide +kernel
theorem dX11_workedOut_133 : decode cX11_workedOut 133 = .ok (.iload_n 3, 1) := by decide +kernel
theorem dX11_workedOut_134 : decode cX11_workedOut 134 = .ok (.iconst 1, 1) := by decide +kernel
theorem dX11_workedOut_135 : decode cX11_workedOut 135 = .ok (.isub, 1) := by decide +kernel
theorem dX11_workedOut_136 : decode cX11_workedOut 136 = .ok (.bipush (-100), 2) := by decide +kernel
theorem dX11_workedOut_138 : decode cX11_workedOut 138 = .ok (.iload 5, 2) := by decide +kernel
theorem dX11_workedOut_140 : decode cX11_workedOut 140 = .ok (.isub, 1) := by decide +kernel
theorem dX11_workedOut_141 : decode cX11_workedOut 141 = .ok (.aload_n 0, 1) := by decide +kernel
theorem dX11_workedOut_142 : decode cX11_workedOut 142 = .ok (.getfield 43, 3) := by decide +kernel
theorem dX11_workedOut_145 : decode cX11_workedOut 145 = .ok (.iload_n 3, 1) := by decide +kernel
theorem dX11_workedOut_146 : decode cX11_workedOut 146 = .ok (.iconst 1, 1) := by decide +kernel
theorem dX11_workedOut_147 : decode cX11_workedOut 147 = .ok (.isub, 1) := by decide +kernel
theorem dX11_workedOut_148 : decode cX11_workedOut 148 = .ok (.iaload, 1) := by decide +kernel
theorem dX11_workedOut_149 : decode cX11_workedOut 149 = .ok (.aload_n 0, 1) := by decide +kernel
theorem dX11_workedOut_150 : decode cX11_workedOut 150 = .ok (.getfield 43, 3) := by decide +kernel
theorem dX11_workedOut_153 : decode cX11_workedOut 153 = .ok (.iload_n 3, 1) := by decide +kernel
theorem dX11_workedOut_154 : decode cX11_workedOut 154 = .ok (.iaload, 1) := by decide +kernel
theorem dX11_workedOut_155 : decode cX11_workedOut 155 = .ok (.invokestatic 206, 3) := by decide +kernel
theorem dX11_workedOut_158 : decode cX11_workedOut 158 = .ok (.iastore, 1) := by decide +kernel
theorem dX11_workedOut_159 : decode cX11_workedOut 159 = .ok (.iinc 4 1, 3) := by decide +kernel
theorem dX11_workedOut_162 : decode cX11_workedOut 162 = .ok (.goto (-157), 3) := by decide +kernel
theorem dX11_workedOut_165 : decode cX11_workedOut 165 = .ok (.aload_n 0, 1) := by decide +kernel
theorem dX11_workedOut_166 : decode cX11_workedOut 166 = .ok (.getfield 43, 3) := by decide +kernel
theorem dX11_workedOut_169 : decode cX11_workedOut 169 = .ok (.iconst 0, 1) := by decide +kernel
theorem dX11_workedOut_170 : decode cX11_workedOut 170 = .ok (.iaload, 1) := by decide +kernel
theorem dX11_workedOut_171 : decode cX11_workedOut 171 = .ok (.ireturn, 1) := by decide +kernel
theorem dX11_ruled_0 : decode cX11_ruled 0 = .ok (.iconst 0, 1) := by decide +kernel
theorem dX11_ruled_1 : decode cX11_ruled 1 = .ok (.istore_n 1, 1) := by decide +kernel
theorem dX11_ruled_2 : decode cX11_ruled 2 = .ok (.iconst 0, 1) := by decide +kernel
theorem dX11_ruled_3 : decode cX11_ruled 3 = .ok (.istore_n 2, 1) := by decide +kernel
theorem dX11_ruled_4 : decode cX11_ruled 4 = .ok (.iload_n 2, 1) := by decide +kernel
theorem dX11_ruled_5 : decode cX11_ruled 5 = .ok (.aload_n 0, 1) := by decide +kernel
theorem dX11_ruled_6 : decode cX11_ruled 6 = .ok (.getfield 203, 3) := by decide +kernel
theorem dX11_ruled_9 : decode cX11_ruled 9 = .ok (.if_icmp .ge 57, 3) := by decide +kernel
theorem dX11_ruled_12 : decode cX11_ruled 12 = .ok (.aload_n 0, 1) := by decide +kernel
theorem dX11_ruled_13 : decode cX11_ruled 13 = .ok (.getfield 37, 3) := by decide +kernel
theorem dX11_ruled_16 : decode cX11_ruled 16 = .ok (.iload_n 2, 1) := by decide +kernel
theorem dX11_ruled_17 : decode cX11_ruled 17 = .ok (.iaload, 1) := by decide +kernel
theorem dX11_ruled_18 : decode cX11_ruled 18 = .ok (.iload_n 1, 1) := by decide +kernel
theorem dX11_ruled_19 : decode cX11_ruled 19 = .ok (.if_icmp .eq 17, 3) := by decide +kernel
theorem dX11_ruled_22 : decode cX11_ruled 22 = .ok (.aload_n 0, 1) := by decide +kernel
theorem dX11_ruled_23 : decode cX11_ruled 23 = .ok (.iload_n 1, 1) := by decide +kernel
theorem dX11_ruled_24 : decode cX11_ruled 24 = .ok (.aload_n 0, 1) := by decide +kernel
theorem dX11_ruled_25 : decode cX11_ruled 25 = .ok (.getfield 37, 3) := by decide +kernel
theorem dX11_ruled_28 : decode cX11_ruled 28 = .ok (.iload_n 2, 1) := by decide +kernel
theorem dX11_ruled_29 : decode cX11_ruled 29 = .ok (.iaload, 1) := by decide +kernel
theorem dX11_ruled_30 : decode cX11_ruled 30 = .ok (.invokevirtual 210, 3) := by decide +kernel
theorem dX11_ruled_33 : decode cX11_ruled 33 = .ok (.ifCond .eq 20, 3) := by decide +kernel
theorem dX11_ruled_36 : decode cX11_ruled 36 = .ok (.aload_n 0, 1) := by decide +kernel
theorem dX11_ruled_37 : decode cX11_ruled 37 = .ok (.aload_n 0, 1) := by decide +kernel
theorem dX11_ruled_38 : decode cX11_ruled 38 = .ok (.getfield 37, 3) := by decide +kernel
theorem dX11_ruled_41 : decode cX11_ruled 41 = .ok (.iload_n 2, 1) := by decide +kernel
theorem dX11_ruled_42 : decode cX11_ruled 42 = .ok (.iaload, 1) := by decide +kernel
theorem dX11_ruled_43 : decode cX11_ruled 43 = .ok (.aload_n 0, 1) := by decide +kernel
theorem dX11_ruled_44 : decode cX11_ruled 44 = .ok (.getfield 40, 3) := by decide +kernel
theorem dX11_ruled_47 : decode cX11_ruled 47 = .ok (.iload_n 2, 1) := by decide +kernel
theorem dX11_ruled_48 : decode cX11_ruled 48 = .ok (.iaload, 1) := by decide +kernel
theorem dX11_ruled_49 : decode cX11_ruled 49 = .ok (.invokevirtual 210, 3) := by decide +kernel
theorem dX11_ruled_52 : decode cX11_ruled 52 = .ok (.ireturn, 1) := by decide +kernel
theorem dX11_ruled_53 : decode cX11_ruled 53 = .ok (.aload_n 0, 1) := by decide +kernel
theorem dX11_ruled_54 : decode cX11_ruled 54 = .ok (.getfield 40, 3) := by decide +kernel
theorem dX11_ruled_57 : decode cX11_ruled 57 = .ok (.iload_n 2, 1) := by decide +kernel
theorem dX11_ruled_58 : decode cX11_ruled 58 = .ok (.iaload, 1) := by decide +kernel
theorem dX11_ruled_59 : decode cX11_ruled 59 = .ok (.istore_n 1, 1) := by decide +kernel
theorem dX11_ruled_60 : decode cX11_ruled 60 = .ok (.iinc 2 1, 3) := by decide +kernel
theorem dX11_ruled_63 : decode cX11_ruled 63 = .ok (.goto (-59), 3) := by decide +kernel
theorem dX11_ruled_66 : decode cX11_ruled 66 = .ok (.iconst 0, 1) := by decide +kernel
theorem dX11_ruled_67 : decode cX11_ruled 67 = .ok (.ireturn, 1) := by decide +kernel
theorem dX11_begins_0 : decode cX11_begins 0 = .ok (.aload_n 0, 1) := by decide +kernel
theorem dX11_begins_1 : decode cX11_begins 1 = .ok (.iconst 0, 1) := by decide +kernel
theorem dX11_begins_2 : decode cX11_begins 2 = .ok (.putfield 213, 3) := by decide +kernel
theorem dX11_begins_5 : decode cX11_begins 5 = .ok (.iconst 0, 1) := by decide +kernel
theorem dX11_begins_6 : decode cX11_begins 6 = .ok (.istore_n 1, 1) := by decide +kernel
theorem dX11_begins_7 : decode cX11_begins 7 = .ok (.iload_n 1, 1) := by decide +kernel
theorem dX11_begins_8 : decode cX11_begins 8 = .ok (.aload_n 0, 1) := by decide +kernel
theorem dX11_begins_9 : decode cX11_begins 9 = .ok (.getfield 97, 3) := by decide +kernel
theorem dX11_begins_12 : decode cX11_begins 12 = .ok (.if_icmp .ge 66, 3) := by decide +kernel
theorem dX11_begins_15 : decode cX11_begins 15 = .ok (.aload_n 0, 1) := by decide +kernel
theorem dX11_begins_16 : decode cX11_begins 16 = .ok (.getfield 49, 3) := by decide +kernel
theorem dX11_begins_19 : decode cX11_begins 19 = .ok (.iload_n 1, 1) := by decide +kernel
theorem dX11_begins_20 : decode cX11_begins 20 = .ok (.aload_n 0, 1) := by decide +kernel
theorem dX11_begins_21 : decode cX11_begins 21 = .ok (.getfield 9, 3) := by decide +kernel
theorem dX11_begins_24 : decode cX11_begins 24 = .ok (.bipush 10, 2) := by decide +kernel
theorem dX11_begins_26 : decode cX11_begins 26 = .ok (.iload_n 1, 1) := by decide +kernel
theorem dX11_begins_27 : decode cX11_begins 27 = .ok (.iadd, 1) := by decide +kernel
theorem dX11_begins_28 : decode cX11_begins 28 = .ok (.iaload, 1) := by decide +kernel
theorem dX11_begins_29 : decode cX11_begins 29 = .ok (.iastore, 1) := by decide +kernel
theorem dX11_begins_30 : decode cX11_begins 30 = .ok (.aload_n 0, 1) := by decide +kernel
theorem dX11_begins_31 : decode cX11_begins 31 = .ok (.getfield 52, 3) := by decide +kernel
theorem dX11_begins_34 : decode cX11_begins 34 = .ok (.iload_n 1, 1) := by decide +kernel
theorem dX11_begins_35 : decode cX11_begins 35 = .ok (.aload_n 0, 1) := by decide +kernel
theorem dX11_begins_36 : decode cX11_begins 36 = .ok (.getfield 9, 3) := by decide +kernel
theorem dX11_begins_39 : decode cX11_begins 39 = .ok (.bipush 30, 2) := by decide +kernel
theorem dX11_begins_41 : decode cX11_begins 41 = .ok (.iload_n 1, 1) := by decide +kernel
theorem dX11_begins_42 : decode cX11_begins 42 = .ok (.iadd, 1) := by decide +kernel
theorem dX11_begins_43 : decode cX11_begins 43 = .ok (.iaload, 1) := by decide +kernel
theorem dX11_begins_44 : decode cX11_begins 44 = .ok (.iconst 1, 1) := by decide +kernel
theorem dX11_begins_45 : decode cX11_begins 45 = .ok (.if_icmp .ne 7, 3) := by decide +kernel
theorem dX11_begins_48 : decode cX11_begins 48 = .ok (.iconst 1, 1) := by decide +kernel
theorem dX11_begins_49 : decode cX11_begins 49 = .ok (.goto 4, 3) := by decide +kernel
theorem dX11_begins_52 : decode cX11_begins 52 = .ok (.iconst 0, 1) := by decide +kernel
theorem dX11_begins_53 : decode cX11_begins 53 = .ok (.bastore, 1) := by decide +kernel
theorem dX11_begins_54 : decode cX11_begins 54 = .ok (.aload_n 0, 1) := by decide +kernel
theorem dX11_begins_55 : decode cX11_begins 55 = .ok (.dup, 1) := by decide +kernel
theorem dX11_begins_56 : decode cX11_begins 56 = .ok (.getfield 213, 3) := by decide +kernel
theorem dX11_begins_59 : decode cX11_begins 59 = .ok (.aload_n 0, 1) := by decide +kernel
theorem dX11_begins_60 : decode cX11_begins 60 = .ok (.getfield 9, 3) := by decide +kernel
theorem dX11_begins_63 : decode cX11_begins 63 = .ok (.bipush 30, 2) := by decide +kernel
theorem dX11_begins_65 : decode cX11_begins 65 = .ok (.iload_n 1, 1) := by decide +kernel
theorem dX11_begins_66 : decode cX11_begins 66 = .ok (.iadd, 1) := by decide +kernel
theorem dX11_begins_67 : decode cX11_begins 67 = .ok (.iaload, 1) := by decide +kernel
theorem dX11_begins_68 : decode cX11_begins 68 = .ok (.iadd, 1) := by decide +kernel
theorem dX11_begins_69 : decode cX11_begins 69 = .ok (.putfield 213, 3) := by decide +kernel
theorem dX11_begins_72 : decode cX11_begins 72 = .ok (.iinc 1 1, 3) := by decide +kernel
theorem dX11_begins_75 : decode cX11_begins 75 = .ok (.goto (-68), 3) := by decide +kernel
theorem dX11_begins_78 : decode cX11_begins 78 = .ok (.aload_n 0, 1) := by decide +kernel
theorem dX11_begins_79 : decode cX11_begins 79 = .ok (.aload_n 0, 1) := by decide +kernel
theorem dX11_begins_80 : decode cX11_begins 80 = .ok (.getfield 9, 3) := by decide +kernel
theorem dX11_begins_83 : decode cX11_begins 83 = .ok (.bipush 82, 2) := by decide +kernel
theorem dX11_begins_85 : decode cX11_begins 85 = .ok (.iaload, 1) := by decide +kernel
theorem dX11_begins_86 : decode cX11_begins 86 = .ok (.putfield 216, 3) := by decide +kernel
theorem dX11_begins_89 : decode cX11_begins 89 = .ok (.return_, 1) := by decide +kernel
theorem dX11_wordOf_0 : decode cX11_wordOf 0 = .ok (.aload_n 0, 1) := by decide +kernel
theorem dX11_wordOf_1 : decode cX11_wordOf 1 = .ok (.getfield 9, 3) := by decide +kernel
theorem dX11_wordOf_4 : decode cX11_wordOf 4 = .ok (.bipush 66, 2) := by decide +kernel
theorem dX11_wordOf_6 : decode cX11_wordOf 6 = .ok (.aload_n 0, 1) := by decide +kernel
theorem dX11_wordOf_7 : decode cX11_wordOf 7 = .ok (.getfield 49, 3) := by decide +kernel
theorem dX11_wordOf_10 : decode cX11_wordOf 10 = .ok (.iload_n 1, 1) := by decide +kernel
theorem dX11_wordOf_11 : decode cX11_wordOf 11 = .ok (.iaload, 1) := by decide +kernel
theorem dX11_wordOf_12 : decode cX11_wordOf 12 = .ok (.iadd, 1) := by decide +kernel
theorem dX11_wordOf_13 : decode cX11_wordOf 13 = .ok (.iaload, 1) := by decide +kernel
theorem dX11_wordOf_14 : decode cX11_wordOf 14 = .ok (.ireturn, 1) := by decide +kernel
theorem dX11_goesOn_0 : decode cX11_goesOn 0 = .ok (.iconst 1, 1) := by decide +kernel
theorem dX11_goesOn_1 : decode cX11_goesOn 1 = .ok (.aload_n 0, 1) := by decide +kernel
theorem dX11_goesOn_2 : decode cX11_goesOn 2 = .ok (.getfield 9, 3) := by decide +kernel
theorem dX11_goesOn_5 : decode cX11_goesOn 5 = .ok (.iload_n 1, 1) := by decide +kernel
theorem dX11_goesOn_6 : decode cX11_goesOn 6 = .ok (.iaload, 1) := by decide +kernel
theorem dX11_goesOn_7 : decode cX11_goesOn 7 = .ok (.iconst 4, 1) := by decide +kernel
theorem dX11_goesOn_8 : decode cX11_goesOn 8 = .ok (.idiv, 1) := by decide +kernel
theorem dX11_goesOn_9 : decode cX11_goesOn 9 = .ok (.iadd, 1) := by decide +kernel
theorem dX11_goesOn_10 : decode cX11_goesOn 10 = .ok (.istore_n 2, 1) := by decide +kernel
theorem dX11_goesOn_11 : decode cX11_goesOn 11 = .ok (.aload_n 0, 1) := by decide +kernel
theorem dX11_goesOn_12 : decode cX11_goesOn 12 = .ok (.getfield 203, 3) := by decide +kernel
theorem dX11_goesOn_15 : decode cX11_goesOn 15 = .ok (.ifCond .le 70, 3) := by decide +kernel
theorem dX11_goesOn_18 : decode cX11_goesOn 18 = .ok (.aload_n 0, 1) := by decide +kernel
theorem dX11_goesOn_19 : decode cX11_goesOn 19 = .ok (.getfield 46, 3) := by decide +kernel
theorem dX11_goesOn_22 : decode cX11_goesOn 22 = .ok (.iconst 0, 1) := by decide +kernel
theorem dX11_goesOn_23 : decode cX11_goesOn 23 = .ok (.aload_n 0, 1) := by decide +kernel
theorem dX11_goesOn_24 : decode cX11_goesOn 24 = .ok (.getfield 9, 3) := by decide +kernel
theorem dX11_goesOn_27 : decode cX11_goesOn 27 = .ok (.iload_n 1, 1) := by decide +kernel
theorem dX11_goesOn_28 : decode cX11_goesOn 28 = .ok (.iaload, 1) := by decide +kernel
theorem dX11_goesOn_29 : decode cX11_goesOn 29 = .ok (.iastore, 1) := by decide +kernel
theorem dX11_goesOn_30 : decode cX11_goesOn 30 = .ok (.aload_n 0, 1) := by decide +kernel
theorem dX11_goesOn_31 : decode cX11_goesOn 31 = .ok (.getfield 46, 3) := by decide +kernel
theorem dX11_goesOn_34 : decode cX11_goesOn 34 = .ok (.iconst 1, 1) := by decide +kernel
theorem dX11_goesOn_35 : decode cX11_goesOn 35 = .ok (.aload_n 0, 1) := by decide +kernel
theorem dX11_goesOn_36 : decode cX11_goesOn 36 = .ok (.getfield 49, 3) := by decide +kernel
theorem dX11_goesOn_39 : decode cX11_goesOn 39 = .ok (.iload_n 1, 1) := by decide +kernel
theorem dX11_goesOn_40 : decode cX11_goesOn 40 = .ok (.iaload, 1) := by decide +kernel
theorem dX11_goesOn_41 : decode cX11_goesOn 41 = .ok (.iastore, 1) := by decide +kernel
theorem dX11_goesOn_42 : decode cX11_goesOn 42 = .ok (.aload_n 0, 1) := by decide +kernel
theorem dX11_goesOn_43 : decode cX11_goesOn 43 = .ok (.getfield 46, 3) := by decide +kernel
theorem dX11_goesOn_46 : decode cX11_goesOn 46 = .ok (.iconst 2, 1) := by decide +kernel
theorem dX11_goesOn_47 : decode cX11_goesOn 47 = .ok (.aload_n 0, 1) := by decide +kernel
theorem dX11_goesOn_48 : decode cX11_goesOn 48 = .ok (.iload_n 1, 1) := by decide +kernel
theorem dX11_goesOn_49 : decode cX11_goesOn 49 = .ok (.invokevirtual 219, 3) := by decide +kernel
theorem dX11_goesOn_52 : decode cX11_goesOn 52 = .ok (.iastore, 1) := by decide +kernel
theorem dX11_goesOn_53 : decode cX11_goesOn 53 = .ok (.aload_n 0, 1) := by decide +kernel
theorem dX11_goesOn_54 : decode cX11_goesOn 54 = .ok (.getfield 46, 3) := by decide +kernel
theorem dX11_goesOn_57 : decode cX11_goesOn 57 = .ok (.iconst 3, 1) := by decide +kernel
theorem dX11_goesOn_58 : decode cX11_goesOn 58 = .ok (.iload_n 1, 1) := by decide +kernel
theorem dX11_goesOn_59 : decode cX11_goesOn 59 = .ok (.iastore, 1) := by decide +kernel
theorem dX11_goesOn_60 : decode cX11_goesOn 60 = .ok (.aload_n 0, 1) := by decide +kernel
theorem dX11_goesOn_61 : decode cX11_goesOn 61 = .ok (.getfield 46, 3) := by decide +kernel
theorem dX11_goesOn_64 : decode cX11_goesOn 64 = .ok (.iconst 4, 1) := by decide +kernel
theorem dX11_goesOn_65 : decode cX11_goesOn 65 = .ok (.aload_n 0, 1) := by decide +kernel
theorem dX11_goesOn_66 : decode cX11_goesOn 66 = .ok (.getfield 213, 3) := by decide +kernel
theorem dX11_goesOn_69 : decode cX11_goesOn 69 = .ok (.iastore, 1) := by decide +kernel
theorem dX11_goesOn_70 : decode cX11_goesOn 70 = .ok (.aload_n 0, 1) := by decide +kernel
theorem dX11_goesOn_71 : decode cX11_goesOn 71 = .ok (.getfield 46, 3) := by decide +kernel
theorem dX11_goesOn_74 : decode cX11_goesOn 74 = .ok (.iconst 5, 1) := by decide +kernel
theorem dX11_goesOn_75 : decode cX11_goesOn 75 = .ok (.aload_n 0, 1) := by decide +kernel
theorem dX11_goesOn_76 : decode cX11_goesOn 76 = .ok (.getfield 216, 3) := by decide +kernel
theorem dX11_goesOn_79 : decode cX11_goesOn 79 = .ok (.iastore, 1) := by decide +kernel
theorem dX11_goesOn_80 : decode cX11_goesOn 80 = .ok (.aload_n 0, 1) := by decide +kernel
theorem dX11_goesOn_81 : decode cX11_goesOn 81 = .ok (.invokevirtual 222, 3) := by decide +kernel
theorem dX11_goesOn_84 : decode cX11_goesOn 84 = .ok (.istore_n 2, 1) := by decide +kernel
theorem dX11_goesOn_85 : decode cX11_goesOn 85 = .ok (.iload_n 2, 1) := by decide +kernel
theorem dX11_goesOn_86 : decode cX11_goesOn 86 = .ok (.ifCond .ge 7, 3) := by decide +kernel
theorem dX11_goesOn_89 : decode cX11_goesOn 89 = .ok (.iconst 0, 1) := by decide +kernel
theorem dX11_goesOn_90 : decode cX11_goesOn 90 = .ok (.goto 15, 3) := by decide +kernel
theorem dX11_goesOn_93 : decode cX11_goesOn 93 = .ok (.iload_n 2, 1) := by decide +kernel
theorem dX11_goesOn_94 : decode cX11_goesOn 94 = .ok (.bipush 9, 2) := by decide +kernel
theorem dX11_goesOn_96 : decode cX11_goesOn 96 = .ok (.if_icmp .le 8, 3) := by decide +kernel
theorem dX11_goesOn_99 : decode cX11_goesOn 99 = .ok (.bipush 9, 2) := by decide +kernel
theorem dX11_goesOn_101 : decode cX11_goesOn 101 = .ok (.goto 4, 3) := by decide +kernel
theorem dX11_goesOn_104 : decode cX11_goesOn 104 = .ok (.iload_n 2, 1) := by decide +kernel
theorem dX11_goesOn_105 : decode cX11_goesOn 105 = .ok (.ireturn, 1) := by decide +kernel
theorem dX11_thinks_0 : decode cX11_thinks 0 = .ok (.aload_n 0, 1) := by decide +kernel
theorem dX11_thinks_1 : decode cX11_thinks 1 = .ok (.getfield 52, 3) := by decide +kernel
theorem dX11_thinks_4 : decode cX11_thinks 4 = .ok (.iload_n 1, 1) := by decide +kernel
theorem dX11_thinks_5 : decode cX11_thinks 5 = .ok (.baload, 1) := by decide +kernel
theorem dX11_thinks_6 : decode cX11_thinks 6 = .ok (.ifCond .eq 7, 3) := by decide +kernel
theorem dX11_thinks_9 : decode cX11_thinks 9 = .ok (.iconst 0, 1) := by decide +kernel
theorem dX11_thinks_10 : decode cX11_thinks 10 = .ok (.goto 8, 3) := by decide +kernel
theorem dX11_thinks_13 : decode cX11_thinks 13 = .ok (.aload_n 0, 1) := by decide +kernel
theorem dX11_thinks_14 : decode cX11_thinks 14 = .ok (.iload_n 1, 1) := by decide +kernel
theorem dX11_thinks_15 : decode cX11_thinks 15 = .ok (.invokevirtual 225, 3) := by decide +kernel
theorem dX11_thinks_18 : decode cX11_thinks 18 = .ok (.istore_n 2, 1) := by decide +kernel
theorem dX11_thinks_19 : decode cX11_thinks 19 = .ok (.iconst 0, 1) := by decide +kernel
theorem dX11_thinks_20 : decode cX11_thinks 20 = .ok (.istore_n 3, 1) := by decide +kernel
theorem dX11_thinks_21 : decode cX11_thinks 21 = .ok (.iload_n 3, 1) := by decide +kernel
theorem dX11_thinks_22 : decode cX11_thinks 22 = .ok (.iload_n 2, 1) := by decide +kernel
theorem dX11_thinks_23 : decode cX11_thinks 23 = .ok (.if_icmp .ge 29, 3) := by decide +kernel
theorem dX11_thinks_26 : decode cX11_thinks 26 = .ok (.aload_n 0, 1) := by decide +kernel
theorem dX11_thinks_27 : decode cX11_thinks 27 = .ok (.getfield 49, 3) := by decide +kernel
theorem dX11_thinks_30 : decode cX11_thinks 30 = .ok (.iload_n 1, 1) := by decide +kernel
theorem dX11_thinks_31 : decode cX11_thinks 31 = .ok (.aload_n 0, 1) := by decide +kernel
theorem dX11_thinks_32 : decode cX11_thinks 32 = .ok (.getfield 9, 3) := by decide +kernel
theorem dX11_thinks_35 : decode cX11_thinks 35 = .ok (.bipush 50, 2) := by decide +kernel
theorem dX11_thinks_37 : decode cX11_thinks 37 = .ok (.aload_n 0, 1) := by decide +kernel
theorem dX11_thinks_38 : decode cX11_thinks 38 = .ok (.getfield 49, 3) := by decide +kernel
theorem dX11_thinks_41 : decode cX11_thinks 41 = .ok (.iload_n 1, 1) := by decide +kernel
theorem dX11_thinks_42 : decode cX11_thinks 42 = .ok (.iaload, 1) := by decide +kernel
theorem dX11_thinks_43 : decode cX11_thinks 43 = .ok (.iadd, 1) := by decide +kernel
theorem dX11_thinks_44 : decode cX11_thinks 44 = .ok (.iaload, 1) := by decide +kernel
theorem dX11_thinks_45 : decode cX11_thinks 45 = .ok (.iastore, 1) := by decide +kernel
theorem dX11_thinks_46 : decode cX11_thinks 46 = .ok (.iinc 3 1, 3) := by decide +kernel
theorem dX11_thinks_49 : decode cX11_thinks 49 = .ok (.goto (-28), 3) := by decide +kernel
theorem dX11_thinks_52 : decode cX11_thinks 52 = .ok (.return_, 1) := by decide +kernel
theorem dX11_goesCentury_0 : decode cX11_goesCentury 0 = .ok (.iconst 0, 1) := by decide +kernel
theorem dX11_goesCentury_1 : decode cX11_goesCentury 1 = .ok (.istore_n 1, 1) := by decide +kernel
theorem dX11_goesCentury_2 : decode cX11_goesCentury 2 = .ok (.iload_n 1, 1) := by decide +kernel
theorem dX11_goesCentury_3 : decode cX11_goesCentury 3 = .ok (.aload_n 0, 1) := by decide +kernel
theorem dX11_goesCentury_4 : decode cX11_goesCentury 4 = .ok (.getfield 97, 3) := by decide +kernel
theorem dX11_goesCentury_7 : decode cX11_goesCentury 7 = .ok (.if_icmp .ge 14, 3) := by decide +kernel
theorem dX11_goesCentury_10 : decode cX11_goesCentury 10 = .ok (.aload_n 0, 1) := by decide +kernel
theorem dX11_goesCentury_11 : decode cX11_goesCentury 11 = .ok (.iload_n 1, 1) := by decide +kernel
theorem dX11_goesCentury_12 : decode cX11_goesCentury 12 = .ok (.invokevirtual 228, 3) := by decide +kernel
theorem dX11_goesCentury_15 : decode cX11_goesCentury 15 = .ok (.iinc 1 1, 3) := by decide +kernel
theorem dX11_goesCentury_18 : decode cX11_goesCentury 18 = .ok (.goto (-16), 3) := by decide +kernel
theorem dX11_goesCentury_21 : decode cX11_goesCentury 21 = .ok (.aload_n 0, 1) := by decide +kernel
theorem dX11_goesCentury_22 : decode cX11_goesCentury 22 = .ok (.aload_n 0, 1) := by decide +kernel
theorem dX11_goesCentury_23 : decode cX11_goesCentury 23 = .ok (.getfield 216, 3) := by decide +kernel
theorem dX11_goesCentury_26 : decode cX11_goesCentury 26 = .ok (.bipush 99, 2) := by decide +kernel
theorem dX11_goesCentury_28 : decode cX11_goesCentury 28 = .ok (.if_icmp .ne 8, 3) := by decide +kernel
theorem dX11_goesCentury_31 : decode cX11_goesCentury 31 = .ok (.bipush 99, 2) := by decide +kernel
theorem dX11_goesCentury_33 : decode cX11_goesCentury 33 = .ok (.goto 9, 3) := by decide +kernel
theorem dX11_goesCentury_36 : decode cX11_goesCentury 36 = .ok (.aload_n 0, 1) := by decide +kernel
theorem dX11_goesCentury_37 : decode cX11_goesCentury 37 = .ok (.getfield 216, 3) := by decide +kernel
theorem dX11_goesCentury_40 : decode cX11_goesCentury 40 = .ok (.iconst 1, 1) := by decide +kernel
theorem dX11_goesCentury_41 : decode cX11_goesCentury 41 = .ok (.iadd, 1) := by decide +kernel
theorem dX11_goesCentury_42 : decode cX11_goesCentury 42 = .ok (.putfield 216, 3) := by decide +kernel
theorem dX11_goesCentury_45 : decode cX11_goesCentury 45 = .ok (.return_, 1) := by decide +kernel
theorem dX11_goesCenturies_0 : decode cX11_goesCenturies 0 = .ok (.aload_n 0, 1) := by decide +kernel
theorem dX11_goesCenturies_1 : decode cX11_goesCenturies 1 = .ok (.invokevirtual 231, 3) := by decide +kernel
theorem dX11_goesCenturies_4 : decode cX11_goesCenturies 4 = .ok (.iconst 0, 1) := by decide +kernel
theorem dX11_goesCenturies_5 : decode cX11_goesCenturies 5 = .ok (.istore_n 2, 1) := by decide +kernel
theorem dX11_goesCenturies_6 : decode cX11_goesCenturies 6 = .ok (.iload_n 2, 1) := by decide +kernel
theorem dX11_goesCenturies_7 : decode cX11_goesCenturies 7 = .ok (.iload_n 1, 1) := by decide +kernel
theorem dX11_goesCenturies_8 : decode cX11_goesCenturies 8 = .ok (.if_icmp .ge 13, 3) := by decide +kernel
theorem dX11_goesCenturies_11 : decode cX11_goesCenturies 11 = .ok (.aload_n 0, 1) := by decide +kernel
theorem dX11_goesCenturies_12 : decode cX11_goesCenturies 12 = .ok (.invokevirtual 234, 3) := by decide +kernel
theorem dX11_goesCenturies_15 : decode cX11_goesCenturies 15 = .ok (.iinc 2 1, 3) := by decide +kernel
theorem dX11_goesCenturies_18 : decode cX11_goesCenturies 18 = .ok (.goto (-12), 3) := by decide +kernel
theorem dX11_goesCenturies_21 : decode cX11_goesCenturies 21 = .ok (.return_, 1) := by decide +kernel
theorem dX11_wordsSet_0 : decode cX11_wordsSet 0 = .ok (.iconst 0, 1) := by decide +kernel
theorem dX11_wordsSet_1 : decode cX11_wordsSet 1 = .ok (.istore_n 1, 1) := by decide +kernel
theorem dX11_wordsSet_2 : decode cX11_wordsSet 2 = .ok (.iconst 0, 1) := by decide +kernel
theorem dX11_wordsSet_3 : decode cX11_wordsSet 3 = .ok (.istore_n 2, 1) := by decide +kernel
theorem dX11_wordsSet_4 : decode cX11_wordsSet 4 = .ok (.iload_n 2, 1) := by decide +kernel
theorem dX11_wordsSet_5 : decode cX11_wordsSet 5 = .ok (.aload_n 0, 1) := by decide +kernel
theorem dX11_wordsSet_6 : decode cX11_wordsSet 6 = .ok (.getfield 97, 3) := by decide +kernel
theorem dX11_wordsSet_9 : decode cX11_wordsSet 9 = .ok (.if_icmp .ge 32, 3) := by decide +kernel
theorem dX11_wordsSet_12 : decode cX11_wordsSet 12 = .ok (.iload_n 1, 1) := by decide +kernel
theorem dX11_wordsSet_13 : decode cX11_wordsSet 13 = .ok (.aload_n 0, 1) := by decide +kernel
theorem dX11_wordsSet_14 : decode cX11_wordsSet 14 = .ok (.getfield 52, 3) := by decide +kernel
theorem dX11_wordsSet_17 : decode cX11_wordsSet 17 = .ok (.iload_n 2, 1) := by decide +kernel
theorem dX11_wordsSet_18 : decode cX11_wordsSet 18 = .ok (.baload, 1) := by decide +kernel
theorem dX11_wordsSet_19 : decode cX11_wordsSet 19 = .ok (.ifCond .eq 7, 3) := by decide +kernel
theorem dX11_wordsSet_22 : decode cX11_wordsSet 22 = .ok (.iconst 0, 1) := by decide +kernel
theorem dX11_wordsSet_23 : decode cX11_wordsSet 23 = .ok (.goto 10, 3) := by decide +kernel
theorem dX11_wordsSet_26 : decode cX11_wordsSet 26 = .ok (.iconst 1, 1) := by decide +kernel
theorem dX11_wordsSet_27 : decode cX11_wordsSet 27 = .ok (.aload_n 0, 1) := by decide +kernel
theorem dX11_wordsSet_28 : decode cX11_wordsSet 28 = .ok (.iload_n 2, 1) := by decide +kernel
theorem dX11_wordsSet_29 : decode cX11_wordsSet 29 = .ok (.invokevirtual 219, 3) := by decide +kernel
theorem dX11_wordsSet_32 : decode cX11_wordsSet 32 = .ok (.ishl, 1) := by decide +kernel
theorem dX11_wordsSet_33 : decode cX11_wordsSet 33 = .ok (.ior, 1) := by decide +kernel
theorem dX11_wordsSet_34 : decode cX11_wordsSet 34 = .ok (.istore_n 1, 1) := by decide +kernel
theorem dX11_wordsSet_35 : decode cX11_wordsSet 35 = .ok (.iinc 2 1, 3) := by decide +kernel
theorem dX11_wordsSet_38 : decode cX11_wordsSet 38 = .ok (.goto (-34), 3) := by decide +kernel
theorem dX11_wordsSet_41 : decode cX11_wordsSet 41 = .ok (.iload_n 1, 1) := by decide +kernel
theorem dX11_wordsSet_42 : decode cX11_wordsSet 42 = .ok (.ireturn, 1) := by decide +kernel
theorem dX11_mindsSet_0 : decode cX11_mindsSet 0 = .ok (.iconst 0, 1) := by decide +kernel
theorem dX11_mindsSet_1 : decode cX11_mindsSet 1 = .ok (.istore_n 1, 1) := by decide +kernel
theorem dX11_mindsSet_2 : decode cX11_mindsSet 2 = .ok (.iconst 0, 1) := by decide +kernel
theorem dX11_mindsSet_3 : decode cX11_mindsSet 3 = .ok (.istore_n 2, 1) := by decide +kernel
theorem dX11_mindsSet_4 : decode cX11_mindsSet 4 = .ok (.iload_n 2, 1) := by decide +kernel
theorem dX11_mindsSet_5 : decode cX11_mindsSet 5 = .ok (.aload_n 0, 1) := by decide +kernel
theorem dX11_mindsSet_6 : decode cX11_mindsSet 6 = .ok (.getfield 97, 3) := by decide +kernel
theorem dX11_mindsSet_9 : decode cX11_mindsSet 9 = .ok (.if_icmp .ge 33, 3) := by decide +kernel
theorem dX11_mindsSet_12 : decode cX11_mindsSet 12 = .ok (.iload_n 1, 1) := by decide +kernel
theorem dX11_mindsSet_13 : decode cX11_mindsSet 13 = .ok (.aload_n 0, 1) := by decide +kernel
theorem dX11_mindsSet_14 : decode cX11_mindsSet 14 = .ok (.getfield 52, 3) := by decide +kernel
theorem dX11_mindsSet_17 : decode cX11_mindsSet 17 = .ok (.iload_n 2, 1) := by decide +kernel
theorem dX11_mindsSet_18 : decode cX11_mindsSet 18 = .ok (.baload, 1) := by decide +kernel
theorem dX11_mindsSet_19 : decode cX11_mindsSet 19 = .ok (.ifCond .eq 7, 3) := by decide +kernel
theorem dX11_mindsSet_22 : decode cX11_mindsSet 22 = .ok (.iconst 0, 1) := by decide +kernel
theorem dX11_mindsSet_23 : decode cX11_mindsSet 23 = .ok (.goto 11, 3) := by decide +kernel
theorem dX11_mindsSet_26 : decode cX11_mindsSet 26 = .ok (.iconst 1, 1) := by decide +kernel
theorem dX11_mindsSet_27 : decode cX11_mindsSet 27 = .ok (.aload_n 0, 1) := by decide +kernel
theorem dX11_mindsSet_28 : decode cX11_mindsSet 28 = .ok (.getfield 49, 3) := by decide +kernel
theorem dX11_mindsSet_31 : decode cX11_mindsSet 31 = .ok (.iload_n 2, 1) := by decide +kernel
theorem dX11_mindsSet_32 : decode cX11_mindsSet 32 = .ok (.iaload, 1) := by decide +kernel
theorem dX11_mindsSet_33 : decode cX11_mindsSet 33 = .ok (.ishl, 1) := by decide +kernel
theorem dX11_mindsSet_34 : decode cX11_mindsSet 34 = .ok (.ior, 1) := by decide +kernel
theorem dX11_mindsSet_35 : decode cX11_mindsSet 35 = .ok (.istore_n 1, 1) := by decide +kernel
theorem dX11_mindsSet_36 : decode cX11_mindsSet 36 = .ok (.iinc 2 1, 3) := by decide +kernel
theorem dX11_mindsSet_39 : decode cX11_mindsSet 39 = .ok (.goto (-35), 3) := by decide +kernel
theorem dX11_mindsSet_42 : decode cX11_mindsSet 42 = .ok (.iload_n 1, 1) := by decide +kernel
theorem dX11_mindsSet_43 : decode cX11_mindsSet 43 = .ok (.ireturn, 1) := by decide +kernel
theorem dX11_closedMany_0 : decode cX11_closedMany 0 = .ok (.aload_n 0, 1) := by decide +kernel
theorem dX11_closedMany_1 : decode cX11_closedMany 1 = .ok (.getfield 97, 3) := by decide +kernel
theorem dX11_closedMany_4 : decode cX11_closedMany 4 = .ok (.aload_n 0, 1) := by decide +kernel
theorem dX11_closedMany_5 : decode cX11_closedMany 5 = .ok (.getfield 213, 3) := by decide +kernel
theorem dX11_closedMany_8 : decode cX11_closedMany 8 = .ok (.isub, 1) := by decide +kernel
theorem dX11_closedMany_9 : decode cX11_closedMany 9 = .ok (.ireturn, 1) := by decide +kernel
theorem dX11_goes_0 : decode cX11_goes 0 = .ok (.aload_n 0, 1) := by decide +kernel
theorem dX11_goes_1 : decode cX11_goes 1 = .ok (.iload_n 1, 1) := by decide +kernel
theorem dX11_goes_2 : decode cX11_goes 2 = .ok (.i2l, 1) := by decide +kernel
theorem dX11_goes_3 : decode cX11_goes 3 = .ok (.invokevirtual 127, 3) := by decide +kernel
theorem dX11_goes_6 : decode cX11_goes 6 = .ok (.ifCond .ne 5, 3) := by decide +kernel
theorem dX11_goes_9 : decode cX11_goes 9 = .ok (.iconst (-1), 1) := by decide +kernel
theorem dX11_goes_10 : decode cX11_goes 10 = .ok (.ireturn, 1) := by decide +kernel
theorem dX11_goes_11 : decode cX11_goes 11 = .ok (.aload_n 0, 1) := by decide +kernel
theorem dX11_goes_12 : decode cX11_goes 12 = .ok (.invokevirtual 231, 3) := by decide +kernel
theorem dX11_goes_15 : decode cX11_goes 15 = .ok (.aload_n 0, 1) := by decide +kernel
theorem dX11_goes_16 : decode cX11_goes 16 = .ok (.iload_n 1, 1) := by decide +kernel
theorem dX11_goes_17 : decode cX11_goes 17 = .ok (.invokevirtual 225, 3) := by decide +kernel
theorem dX11_goes_20 : decode cX11_goes 20 = .ok (.ireturn, 1) := by decide +kernel
theorem dX11_later_0 : decode cX11_later 0 = .ok (.iload_n 1, 1) := by decide +kernel
theorem dX11_later_1 : decode cX11_later 1 = .ok (.i2l, 1) := by decide +kernel
theorem dX11_later_2 : decode cX11_later 2 = .ok (.lconst 0, 1) := by decide +kernel
theorem dX11_later_3 : decode cX11_later 3 = .ok (.ldc2_w 237, 3) := by decide +kernel
theorem dX11_later_6 : decode cX11_later 6 = .ok (.invokestatic 100, 3) := by decide +kernel
theorem dX11_later_9 : decode cX11_later 9 = .ok (.ifCond .eq 22, 3) := by decide +kernel
theorem dX11_later_12 : decode cX11_later 12 = .ok (.aload_n 0, 1) := by decide +kernel
theorem dX11_later_13 : decode cX11_later 13 = .ok (.iload_n 2, 1) := by decide +kernel
theorem dX11_later_14 : decode cX11_later 14 = .ok (.i2l, 1) := by decide +kernel
theorem dX11_later_15 : decode cX11_later 15 = .ok (.invokevirtual 127, 3) := by decide +kernel
theorem dX11_later_18 : decode cX11_later 18 = .ok (.ifCond .eq 13, 3) := by decide +kernel
theorem dX11_later_21 : decode cX11_later 21 = .ok (.iload_n 3, 1) := by decide +kernel
theorem dX11_later_22 : decode cX11_later 22 = .ok (.i2l, 1) := by decide +kernel
theorem dX11_later_23 : decode cX11_later 23 = .ok (.lconst 0, 1) := by decide +kernel
theorem dX11_later_24 : decode cX11_later 24 = .ok (.lconst 1, 1) := by decide +kernel
theorem dX11_later_25 : decode cX11_later 25 = .ok (.invokestatic 100, 3) := by decide +kernel
theorem dX11_later_28 : decode cX11_later 28 = .ok (.ifCond .ne 5, 3) := by decide +kernel
theorem dX11_later_31 : decode cX11_later 31 = .ok (.iconst (-1), 1) := by decide +kernel
theorem dX11_later_32 : decode cX11_later 32 = .ok (.ireturn, 1) := by decide +kernel
theorem dX11_later_33 : decode cX11_later 33 = .ok (.aload_n 0, 1) := by decide +kernel
theorem dX11_later_34 : decode cX11_later 34 = .ok (.iload_n 1, 1) := by decide +kernel
theorem dX11_later_35 : decode cX11_later 35 = .ok (.invokevirtual 239, 3) := by decide +kernel
theorem dX11_later_38 : decode cX11_later 38 = .ok (.iload_n 3, 1) := by decide +kernel
theorem dX11_later_39 : decode cX11_later 39 = .ok (.ifCond .ne 12, 3) := by decide +kernel
theorem dX11_later_42 : decode cX11_later 42 = .ok (.aload_n 0, 1) := by decide +kernel
theorem dX11_later_43 : decode cX11_later 43 = .ok (.getfield 49, 3) := by decide +kernel
theorem dX11_later_46 : decode cX11_later 46 = .ok (.iload_n 2, 1) := by decide +kernel
theorem dX11_later_47 : decode cX11_later 47 = .ok (.iaload, 1) := by decide +kernel
theorem dX11_later_48 : decode cX11_later 48 = .ok (.goto 8, 3) := by decide +kernel
theorem dX11_later_51 : decode cX11_later 51 = .ok (.aload_n 0, 1) := by decide +kernel
theorem dX11_later_52 : decode cX11_later 52 = .ok (.iload_n 2, 1) := by decide +kernel
theorem dX11_later_53 : decode cX11_later 53 = .ok (.invokevirtual 219, 3) := by decide +kernel
theorem dX11_later_56 : decode cX11_later 56 = .ok (.ireturn, 1) := by decide +kernel
theorem dX11_wall_0 : decode cX11_wall 0 = .ok (.iload_n 1, 1) := by decide +kernel
theorem dX11_wall_1 : decode cX11_wall 1 = .ok (.i2l, 1) := by decide +kernel
theorem dX11_wall_2 : decode cX11_wall 2 = .ok (.lconst 0, 1) := by decide +kernel
theorem dX11_wall_3 : decode cX11_wall 3 = .ok (.ldc2_w 237, 3) := by decide +kernel
theorem dX11_wall_6 : decode cX11_wall 6 = .ok (.invokestatic 100, 3) := by decide +kernel
theorem dX11_wall_9 : decode cX11_wall 9 = .ok (.ifCond .eq 13, 3) := by decide +kernel
theorem dX11_wall_12 : decode cX11_wall 12 = .ok (.iload_n 2, 1) := by decide +kernel
theorem dX11_wall_13 : decode cX11_wall 13 = .ok (.i2l, 1) := by decide +kernel
theorem dX11_wall_14 : decode cX11_wall 14 = .ok (.lconst 0, 1) := by decide +kernel
theorem dX11_wall_15 : decode cX11_wall 15 = .ok (.lconst 1, 1) := by decide +kernel
theorem dX11_wall_16 : decode cX11_wall 16 = .ok (.invokestatic 100, 3) := by decide +kernel
theorem dX11_wall_19 : decode cX11_wall 19 = .ok (.ifCond .ne 5, 3) := by decide +kernel
theorem dX11_wall_22 : decode cX11_wall 22 = .ok (.iconst (-1), 1) := by decide +kernel
theorem dX11_wall_23 : decode cX11_wall 23 = .ok (.ireturn, 1) := by decide +kernel
theorem dX11_wall_24 : decode cX11_wall 24 = .ok (.aload_n 0, 1) := by decide +kernel
theorem dX11_wall_25 : decode cX11_wall 25 = .ok (.iload_n 1, 1) := by decide +kernel
theorem dX11_wall_26 : decode cX11_wall 26 = .ok (.invokevirtual 239, 3) := by decide +kernel
theorem dX11_wall_29 : decode cX11_wall 29 = .ok (.iload_n 2, 1) := by decide +kernel
theorem dX11_wall_30 : decode cX11_wall 30 = .ok (.ifCond .ne 10, 3) := by decide +kernel
theorem dX11_wall_33 : decode cX11_wall 33 = .ok (.aload_n 0, 1) := by decide +kernel
theorem dX11_wall_34 : decode cX11_wall 34 = .ok (.invokevirtual 242, 3) := by decide +kernel
theorem dX11_wall_37 : decode cX11_wall 37 = .ok (.goto 10, 3) := by decide +kernel
theorem dX11_wall_40 : decode cX11_wall 40 = .ok (.aload_n 0, 1) := by decide +kernel
theorem dX11_wall_41 : decode cX11_wall 41 = .ok (.invokevirtual 245, 3) := by decide +kernel
theorem dX11_wall_44 : decode cX11_wall 44 = .ok (.invokestatic 248, 3) := by decide +kernel
theorem dX11_wall_47 : decode cX11_wall 47 = .ok (.ireturn, 1) := by decide +kernel
theorem dX11_when_0 : decode cX11_when 0 = .ok (.aload_n 0, 1) := by decide +kernel
theorem dX11_when_1 : decode cX11_when 1 = .ok (.iload_n 1, 1) := by decide +kernel
theorem dX11_when_2 : decode cX11_when 2 = .ok (.i2l, 1) := by decide +kernel
theorem dX11_when_3 : decode cX11_when 3 = .ok (.invokevirtual 127, 3) := by decide +kernel
theorem dX11_when_6 : decode cX11_when 6 = .ok (.ifCond .eq 11, 3) := by decide +kernel
theorem dX11_when_9 : decode cX11_when 9 = .ok (.iload_n 2, 1) := by decide +kernel
theorem dX11_when_10 : decode cX11_when 10 = .ok (.i2l, 1) := by decide +kernel
theorem dX11_when_11 : decode cX11_when 11 = .ok (.invokestatic 108, 3) := by decide +kernel
theorem dX11_when_14 : decode cX11_when 14 = .ok (.ifCond .ne 5, 3) := by decide +kernel
theorem dX11_when_17 : decode cX11_when 17 = .ok (.iconst (-1), 1) := by decide +kernel
theorem dX11_when_18 : decode cX11_when 18 = .ok (.ireturn, 1) := by decide +kernel
theorem dX11_when_19 : decode cX11_when 19 = .ok (.aload_n 0, 1) := by decide +kernel
theorem dX11_when_20 : decode cX11_when 20 = .ok (.invokevirtual 231, 3) := by decide +kernel
theorem dX11_when_23 : decode cX11_when 23 = .ok (.iconst 0, 1) := by decide +kernel
theorem dX11_when_24 : decode cX11_when 24 = .ok (.istore_n 3, 1) := by decide +kernel
theorem dX11_when_25 : decode cX11_when 25 = .ok (.iload_n 3, 1) := by decide +kernel
theorem dX11_when_26 : decode cX11_when 26 = .ok (.bipush 60, 2) := by decide +kernel
theorem dX11_when_28 : decode cX11_when 28 = .ok (.if_icmp .gt 25, 3) := by decide +kernel
theorem dX11_when_31 : decode cX11_when 31 = .ok (.aload_n 0, 1) := by decide +kernel
theorem dX11_when_32 : decode cX11_when 32 = .ok (.getfield 49, 3) := by decide +kernel
theorem dX11_when_35 : decode cX11_when 35 = .ok (.iload_n 1, 1) := by decide +kernel
theorem dX11_when_36 : decode cX11_when 36 = .ok (.iaload, 1) := by decide +kernel
theorem dX11_when_37 : decode cX11_when 37 = .ok (.iload_n 2, 1) := by decide +kernel
theorem dX11_when_38 : decode cX11_when 38 = .ok (.if_icmp .ne 5, 3) := by decide +kernel
theorem dX11_when_41 : decode cX11_when 41 = .ok (.iload_n 3, 1) := by decide +kernel
theorem dX11_when_42 : decode cX11_when 42 = .ok (.ireturn, 1) := by decide +kernel
theorem dX11_when_43 : decode cX11_when 43 = .ok (.aload_n 0, 1) := by decide +kernel
theorem dX11_when_44 : decode cX11_when 44 = .ok (.invokevirtual 234, 3) := by decide +kernel
theorem dX11_when_47 : decode cX11_when 47 = .ok (.iinc 3 1, 3) := by decide +kernel
theorem dX11_when_50 : decode cX11_when 50 = .ok (.goto (-25), 3) := by decide +kernel
theorem dX11_when_53 : decode cX11_when 53 = .ok (.bipush (-2), 2) := by decide +kernel
theorem dX11_when_55 : decode cX11_when 55 = .ok (.ireturn, 1) := by decide +kernel
theorem dX11_meet_0 : decode cX11_meet 0 = .ok (.iload_n 1, 1) := by decide +kernel
theorem dX11_meet_1 : decode cX11_meet 1 = .ok (.ifCond .lt 38, 3) := by decide +kernel
theorem dX11_meet_4 : decode cX11_meet 4 = .ok (.aload_n 0, 1) := by decide +kernel
theorem dX11_meet_5 : decode cX11_meet 5 = .ok (.iload_n 1, 1) := by decide +kernel
theorem dX11_meet_6 : decode cX11_meet 6 = .ok (.bipush 10, 2) := by decide +kernel
theorem dX11_meet_8 : decode cX11_meet 8 = .ok (.idiv, 1) := by decide +kernel
theorem dX11_meet_9 : decode cX11_meet 9 = .ok (.i2l, 1) := by decide +kernel
theorem dX11_meet_10 : decode cX11_meet 10 = .ok (.invokevirtual 127, 3) := by decide +kernel
theorem dX11_meet_13 : decode cX11_meet 13 = .ok (.ifCond .eq 26, 3) := by decide +kernel
theorem dX11_meet_16 : decode cX11_meet 16 = .ok (.aload_n 0, 1) := by decide +kernel
theorem dX11_meet_17 : decode cX11_meet 17 = .ok (.iload_n 1, 1) := by decide +kernel
theorem dX11_meet_18 : decode cX11_meet 18 = .ok (.bipush 10, 2) := by decide +kernel
theorem dX11_meet_20 : decode cX11_meet 20 = .ok (.irem, 1) := by decide +kernel
theorem dX11_meet_21 : decode cX11_meet 21 = .ok (.i2l, 1) := by decide +kernel
theorem dX11_meet_22 : decode cX11_meet 22 = .ok (.invokevirtual 127, 3) := by decide +kernel
theorem dX11_meet_25 : decode cX11_meet 25 = .ok (.ifCond .eq 14, 3) := by decide +kernel
theorem dX11_meet_28 : decode cX11_meet 28 = .ok (.iload_n 1, 1) := by decide +kernel
theorem dX11_meet_29 : decode cX11_meet 29 = .ok (.bipush 10, 2) := by decide +kernel
theorem dX11_meet_31 : decode cX11_meet 31 = .ok (.idiv, 1) := by decide +kernel
theorem dX11_meet_32 : decode cX11_meet 32 = .ok (.iload_n 1, 1) := by decide +kernel
theorem dX11_meet_33 : decode cX11_meet 33 = .ok (.bipush 10, 2) := by decide +kernel
theorem dX11_meet_35 : decode cX11_meet 35 = .ok (.irem, 1) := by decide +kernel
theorem dX11_meet_36 : decode cX11_meet 36 = .ok (.if_icmp .ne 5, 3) := by decide +kernel
theorem dX11_meet_39 : decode cX11_meet 39 = .ok (.iconst (-1), 1) := by decide +kernel
theorem dX11_meet_40 : decode cX11_meet 40 = .ok (.ireturn, 1) := by decide +kernel
theorem dX11_meet_41 : decode cX11_meet 41 = .ok (.aload_n 0, 1) := by decide +kernel
theorem dX11_meet_42 : decode cX11_meet 42 = .ok (.invokevirtual 231, 3) := by decide +kernel
theorem dX11_meet_45 : decode cX11_meet 45 = .ok (.iconst 0, 1) := by decide +kernel
theorem dX11_meet_46 : decode cX11_meet 46 = .ok (.istore_n 2, 1) := by decide +kernel
theorem dX11_meet_47 : decode cX11_meet 47 = .ok (.iload_n 2, 1) := by decide +kernel
theorem dX11_meet_48 : decode cX11_meet 48 = .ok (.bipush 60, 2) := by decide +kernel
theorem dX11_meet_50 : decode cX11_meet 50 = .ok (.if_icmp .gt 36, 3) := by decide +kernel
theorem dX11_meet_53 : decode cX11_meet 53 = .ok (.aload_n 0, 1) := by decide +kernel
theorem dX11_meet_54 : decode cX11_meet 54 = .ok (.getfield 49, 3) := by decide +kernel
theorem dX11_meet_57 : decode cX11_meet 57 = .ok (.iload_n 1, 1) := by decide +kernel
theorem dX11_meet_58 : decode cX11_meet 58 = .ok (.bipush 10, 2) := by decide +kernel
theorem dX11_meet_60 : decode cX11_meet 60 = .ok (.idiv, 1) := by decide +kernel
theorem dX11_meet_61 : decode cX11_meet 61 = .ok (.iaload, 1) := by decide +kernel
theorem dX11_meet_62 : decode cX11_meet 62 = .ok (.aload_n 0, 1) := by decide +kernel
theorem dX11_meet_63 : decode cX11_meet 63 = .ok (.getfield 49, 3) := by decide +kernel
theorem dX11_meet_66 : decode cX11_meet 66 = .ok (.iload_n 1, 1) := by decide +kernel
theorem dX11_meet_67 : decode cX11_meet 67 = .ok (.bipush 10, 2) := by decide +kernel
theorem dX11_meet_69 : decode cX11_meet 69 = .ok (.irem, 1) := by decide +kernel
theorem dX11_meet_70 : decode cX11_meet 70 = .ok (.iaload, 1) := by decide +kernel
theorem dX11_meet_71 : decode cX11_meet 71 = .ok (.if_icmp .ne 5, 3) := by decide +kernel
theorem dX11_meet_74 : decode cX11_meet 74 = .ok (.iload_n 2, 1) := by decide +kernel
theorem dX11_meet_75 : decode cX11_meet 75 = .ok (.ireturn, 1) := by decide +kernel
theorem dX11_meet_76 : decode cX11_meet 76 = .ok (.aload_n 0, 1) := by decide +kernel
theorem dX11_meet_77 : decode cX11_meet 77 = .ok (.invokevirtual 234, 3) := by decide +kernel
theorem dX11_meet_80 : decode cX11_meet 80 = .ok (.iinc 2 1, 3) := by decide +kernel
theorem dX11_meet_83 : decode cX11_meet 83 = .ok (.goto (-36), 3) := by decide +kernel
theorem dX11_meet_86 : decode cX11_meet 86 = .ok (.bipush (-2), 2) := by decide +kernel
theorem dX11_meet_88 : decode cX11_meet 88 = .ok (.ireturn, 1) := by decide +kernel
theorem dX11_stepsTo_0 : decode cX11_stepsTo 0 = .ok (.iload_n 1, 1) := by decide +kernel
theorem dX11_stepsTo_1 : decode cX11_stepsTo 1 = .ok (.istore_n 3, 1) := by decide +kernel
theorem dX11_stepsTo_2 : decode cX11_stepsTo 2 = .ok (.iconst 0, 1) := by decide +kernel
theorem dX11_stepsTo_3 : decode cX11_stepsTo 3 = .ok (.istore 4, 2) := by decide +kernel
theorem dX11_stepsTo_5 : decode cX11_stepsTo 5 = .ok (.iload 4, 2) := by decide +kernel
theorem dX11_stepsTo_7 : decode cX11_stepsTo 7 = .ok (.bipush 16, 2) := by decide +kernel
theorem dX11_stepsTo_9 : decode cX11_stepsTo 9 = .ok (.if_icmp .ge 27, 3) := by decide +kernel
theorem dX11_stepsTo_12 : decode cX11_stepsTo 12 = .ok (.iload_n 3, 1) := by decide +kernel
theorem dX11_stepsTo_13 : decode cX11_stepsTo 13 = .ok (.iload_n 2, 1) := by decide +kernel
theorem dX11_stepsTo_14 : decode cX11_stepsTo 14 = .ok (.if_icmp .ne 6, 3) := by decide +kernel
theorem dX11_stepsTo_17 : decode cX11_stepsTo 17 = .ok (.iload 4, 2) := by decide +kernel
theorem dX11_stepsTo_19 : decode cX11_stepsTo 19 = .ok (.ireturn, 1) := by decide +kernel
theorem dX11_stepsTo_20 : decode cX11_stepsTo 20 = .ok (.aload_n 0, 1) := by decide +kernel
theorem dX11_stepsTo_21 : decode cX11_stepsTo 21 = .ok (.getfield 9, 3) := by decide +kernel
theorem dX11_stepsTo_24 : decode cX11_stepsTo 24 = .ok (.bipush 50, 2) := by decide +kernel
theorem dX11_stepsTo_26 : decode cX11_stepsTo 26 = .ok (.iload_n 3, 1) := by decide +kernel
theorem dX11_stepsTo_27 : decode cX11_stepsTo 27 = .ok (.iadd, 1) := by decide +kernel
theorem dX11_stepsTo_28 : decode cX11_stepsTo 28 = .ok (.iaload, 1) := by decide +kernel
theorem dX11_stepsTo_29 : decode cX11_stepsTo 29 = .ok (.istore_n 3, 1) := by decide +kernel
theorem dX11_stepsTo_30 : decode cX11_stepsTo 30 = .ok (.iinc 4 1, 3) := by decide +kernel
theorem dX11_stepsTo_33 : decode cX11_stepsTo 33 = .ok (.goto (-28), 3) := by decide +kernel
theorem dX11_stepsTo_36 : decode cX11_stepsTo 36 = .ok (.bipush (-2), 2) := by decide +kernel
theorem dX11_stepsTo_38 : decode cX11_stepsTo 38 = .ok (.ireturn, 1) := by decide +kernel
theorem dX11_steps_0 : decode cX11_steps 0 = .ok (.iload_n 1, 1) := by decide +kernel
theorem dX11_steps_1 : decode cX11_steps 1 = .ok (.i2l, 1) := by decide +kernel
theorem dX11_steps_2 : decode cX11_steps 2 = .ok (.invokestatic 108, 3) := by decide +kernel
theorem dX11_steps_5 : decode cX11_steps 5 = .ok (.ifCond .eq 20, 3) := by decide +kernel
theorem dX11_steps_8 : decode cX11_steps 8 = .ok (.iload_n 2, 1) := by decide +kernel
theorem dX11_steps_9 : decode cX11_steps 9 = .ok (.i2l, 1) := by decide +kernel
theorem dX11_steps_10 : decode cX11_steps 10 = .ok (.invokestatic 108, 3) := by decide +kernel
theorem dX11_steps_13 : decode cX11_steps 13 = .ok (.ifCond .eq 12, 3) := by decide +kernel
theorem dX11_steps_16 : decode cX11_steps 16 = .ok (.aload_n 0, 1) := by decide +kernel
theorem dX11_steps_17 : decode cX11_steps 17 = .ok (.iload_n 1, 1) := by decide +kernel
theorem dX11_steps_18 : decode cX11_steps 18 = .ok (.iload_n 2, 1) := by decide +kernel
theorem dX11_steps_19 : decode cX11_steps 19 = .ok (.invokevirtual 251, 3) := by decide +kernel
theorem dX11_steps_22 : decode cX11_steps 22 = .ok (.goto 4, 3) := by decide +kernel
theorem dX11_steps_25 : decode cX11_steps 25 = .ok (.iconst (-1), 1) := by decide +kernel
theorem dX11_steps_26 : decode cX11_steps 26 = .ok (.ireturn, 1) := by decide +kernel
theorem dX11_ringOf_0 : decode cX11_ringOf 0 = .ok (.aload_n 0, 1) := by decide +kernel
theorem dX11_ringOf_1 : decode cX11_ringOf 1 = .ok (.aload_n 0, 1) := by decide +kernel
theorem dX11_ringOf_2 : decode cX11_ringOf 2 = .ok (.getfield 9, 3) := by decide +kernel
theorem dX11_ringOf_5 : decode cX11_ringOf 5 = .ok (.bipush 50, 2) := by decide +kernel
theorem dX11_ringOf_7 : decode cX11_ringOf 7 = .ok (.iload_n 1, 1) := by decide +kernel
theorem dX11_ringOf_8 : decode cX11_ringOf 8 = .ok (.iadd, 1) := by decide +kernel
theorem dX11_ringOf_9 : decode cX11_ringOf 9 = .ok (.iaload, 1) := by decide +kernel
theorem dX11_ringOf_10 : decode cX11_ringOf 10 = .ok (.iload_n 1, 1) := by decide +kernel
theorem dX11_ringOf_11 : decode cX11_ringOf 11 = .ok (.invokevirtual 251, 3) := by decide +kernel
theorem dX11_ringOf_14 : decode cX11_ringOf 14 = .ok (.istore_n 2, 1) := by decide +kernel
theorem dX11_ringOf_15 : decode cX11_ringOf 15 = .ok (.iload_n 2, 1) := by decide +kernel
theorem dX11_ringOf_16 : decode cX11_ringOf 16 = .ok (.ifCond .ge 7, 3) := by decide +kernel
theorem dX11_ringOf_19 : decode cX11_ringOf 19 = .ok (.iconst 0, 1) := by decide +kernel
theorem dX11_ringOf_20 : decode cX11_ringOf 20 = .ok (.goto 6, 3) := by decide +kernel
theorem dX11_ringOf_23 : decode cX11_ringOf 23 = .ok (.iload_n 2, 1) := by decide +kernel
theorem dX11_ringOf_24 : decode cX11_ringOf 24 = .ok (.iconst 1, 1) := by decide +kernel
theorem dX11_ringOf_25 : decode cX11_ringOf 25 = .ok (.iadd, 1) := by decide +kernel
theorem dX11_ringOf_26 : decode cX11_ringOf 26 = .ok (.ireturn, 1) := by decide +kernel
theorem dX11_net_0 : decode cX11_net 0 = .ok (.iload_n 1, 1) := by decide +kernel
theorem dX11_net_1 : decode cX11_net 1 = .ok (.i2l, 1) := by decide +kernel
theorem dX11_net_2 : decode cX11_net 2 = .ok (.invokestatic 108, 3) := by decide +kernel
theorem dX11_net_5 : decode cX11_net 5 = .ok (.ifCond .eq 15, 3) := by decide +kernel
theorem dX11_net_8 : decode cX11_net 8 = .ok (.iload_n 2, 1) := by decide +kernel
theorem dX11_net_9 : decode cX11_net 9 = .ok (.i2l, 1) := by decide +kernel
theorem dX11_net_10 : decode cX11_net 10 = .ok (.lconst 0, 1) := by decide +kernel
theorem dX11_net_11 : decode cX11_net 11 = .ok (.ldc2_w 254, 3) := by decide +kernel
theorem dX11_net_14 : decode cX11_net 14 = .ok (.invokestatic 100, 3) := by decide +kernel
theorem dX11_net_17 : decode cX11_net 17 = .ok (.ifCond .ne 5, 3) := by decide +kernel
theorem dX11_net_20 : decode cX11_net 20 = .ok (.iconst (-1), 1) := by decide +kernel
theorem dX11_net_21 : decode cX11_net 21 = .ok (.ireturn, 1) := by decide +kernel
theorem dX11_net_22 : decode cX11_net 22 = .ok (.iload_n 2, 1) := by decide +kernel
theorem dX11_net_23 : decode cX11_net 23 = .ok (.ifCond .ne 44, 3) := by decide +kernel
theorem dX11_net_26 : decode cX11_net 26 = .ok (.iconst 0, 1) := by decide +kernel
theorem dX11_net_27 : decode cX11_net 27 = .ok (.istore_n 3, 1) := by decide +kernel
theorem dX11_net_28 : decode cX11_net 28 = .ok (.iconst 0, 1) := by decide +kernel
theorem dX11_net_29 : decode cX11_net 29 = .ok (.istore 4, 2) := by decide +kernel
theorem dX11_net_31 : decode cX11_net 31 = .ok (.iload 4, 2) := by decide +kernel
theorem dX11_net_33 : decode cX11_net 33 = .ok (.bipush 16, 2) := by decide +kernel
theorem dX11_net_35 : decode cX11_net 35 = .ok (.if_icmp .ge 30, 3) := by decide +kernel
theorem dX11_net_38 : decode cX11_net 38 = .ok (.iload_n 3, 1) := by decide +kernel
theorem dX11_net_39 : decode cX11_net 39 = .ok (.aload_n 0, 1) := by decide +kernel
theorem dX11_net_40 : decode cX11_net 40 = .ok (.iload 4, 2) := by decide +kernel
theorem dX11_net_42 : decode cX11_net 42 = .ok (.iload_n 1, 1) := by decide +kernel
theorem dX11_net_43 : decode cX11_net 43 = .ok (.invokevirtual 251, 3) := by decide +kernel
theorem dX11_net_46 : decode cX11_net 46 = .ok (.ifCond .lt 10, 3) := by decide +kernel
theorem dX11_net_49 : decode cX11_net 49 = .ok (.iconst 1, 1) := by decide +kernel
theorem dX11_net_50 : decode cX11_net 50 = .ok (.iload 4, 2) := by decide +kernel
theorem dX11_net_52 : decode cX11_net 52 = .ok (.ishl, 1) := by decide +kernel
theorem dX11_net_53 : decode cX11_net 53 = .ok (.goto 4, 3) := by decide +kernel
theorem dX11_net_56 : decode cX11_net 56 = .ok (.iconst 0, 1) := by decide +kernel
theorem dX11_net_57 : decode cX11_net 57 = .ok (.ior, 1) := by decide +kernel
theorem dX11_net_58 : decode cX11_net 58 = .ok (.istore_n 3, 1) := by decide +kernel
theorem dX11_net_59 : decode cX11_net 59 = .ok (.iinc 4 1, 3) := by decide +kernel
theorem dX11_net_62 : decode cX11_net 62 = .ok (.goto (-31), 3) := by decide +kernel
theorem dX11_net_65 : decode cX11_net 65 = .ok (.iload_n 3, 1) := by decide +kernel
theorem dX11_net_66 : decode cX11_net 66 = .ok (.ireturn, 1) := by decide +kernel
theorem dX11_net_67 : decode cX11_net 67 = .ok (.iload_n 1, 1) := by decide +kernel
theorem dX11_net_68 : decode cX11_net 68 = .ok (.istore_n 3, 1) := by decide +kernel
theorem dX11_net_69 : decode cX11_net 69 = .ok (.iconst 0, 1) := by decide +kernel
theorem dX11_net_70 : decode cX11_net 70 = .ok (.istore 4, 2) := by decide +kernel
theorem dX11_net_72 : decode cX11_net 72 = .ok (.aload_n 0, 1) := by decide +kernel
theorem dX11_net_73 : decode cX11_net 73 = .ok (.iload_n 3, 1) := by decide +kernel
theorem dX11_net_74 : decode cX11_net 74 = .ok (.invokevirtual 256, 3) := by decide +kernel
theorem dX11_net_77 : decode cX11_net 77 = .ok (.ifCond .ne 19, 3) := by decide +kernel
theorem dX11_net_80 : decode cX11_net 80 = .ok (.aload_n 0, 1) := by decide +kernel
theorem dX11_net_81 : decode cX11_net 81 = .ok (.getfield 9, 3) := by decide +kernel
theorem dX11_net_84 : decode cX11_net 84 = .ok (.bipush 50, 2) := by decide +kernel
theorem dX11_net_86 : decode cX11_net 86 = .ok (.iload_n 3, 1) := by decide +kernel
theorem dX11_net_87 : decode cX11_net 87 = .ok (.iadd, 1) := by decide +kernel
theorem dX11_net_88 : decode cX11_net 88 = .ok (.iaload, 1) := by decide +kernel
theorem dX11_net_89 : decode cX11_net 89 = .ok (.istore_n 3, 1) := by decide +kernel
theorem dX11_net_90 : decode cX11_net 90 = .ok (.iinc 4 1, 3) := by decide +kernel
theorem dX11_net_93 : decode cX11_net 93 = .ok (.goto (-21), 3) := by decide +kernel
theorem dX11_net_96 : decode cX11_net 96 = .ok (.iload_n 2, 1) := by decide +kernel
theorem dX11_net_97 : decode cX11_net 97 = .ok (.iconst 1, 1) := by decide +kernel
theorem dX11_net_98 : decode cX11_net 98 = .ok (.if_icmp .ne 11, 3) := by decide +kernel
theorem dX11_net_101 : decode cX11_net 101 = .ok (.aload_n 0, 1) := by decide +kernel
theorem dX11_net_102 : decode cX11_net 102 = .ok (.iload_n 3, 1) := by decide +kernel
theorem dX11_net_103 : decode cX11_net 103 = .ok (.invokevirtual 256, 3) := by decide +kernel
theorem dX11_net_106 : decode cX11_net 106 = .ok (.goto 5, 3) := by decide +kernel
theorem dX11_net_109 : decode cX11_net 109 = .ok (.iload 4, 2) := by decide +kernel
theorem dX11_net_111 : decode cX11_net 111 = .ok (.ireturn, 1) := by decide +kernel
theorem dX11_fewest_0 : decode cX11_fewest 0 = .ok (.iload_n 1, 1) := by decide +kernel
theorem dX11_fewest_1 : decode cX11_fewest 1 = .ok (.i2l, 1) := by decide +kernel
theorem dX11_fewest_2 : decode cX11_fewest 2 = .ok (.lconst 0, 1) := by decide +kernel
theorem dX11_fewest_3 : decode cX11_fewest 3 = .ok (.ldc2_w 259, 3) := by decide +kernel
theorem dX11_fewest_6 : decode cX11_fewest 6 = .ok (.invokestatic 100, 3) := by decide +kernel
theorem dX11_fewest_9 : decode cX11_fewest 9 = .ok (.ifCond .eq 13, 3) := by decide +kernel
theorem dX11_fewest_12 : decode cX11_fewest 12 = .ok (.iload_n 2, 1) := by decide +kernel
theorem dX11_fewest_13 : decode cX11_fewest 13 = .ok (.i2l, 1) := by decide +kernel
theorem dX11_fewest_14 : decode cX11_fewest 14 = .ok (.lconst 0, 1) := by decide +kernel
theorem dX11_fewest_15 : decode cX11_fewest 15 = .ok (.lconst 1, 1) := by decide +kernel
theorem dX11_fewest_16 : decode cX11_fewest 16 = .ok (.invokestatic 100, 3) := by decide +kernel
theorem dX11_fewest_19 : decode cX11_fewest 19 = .ok (.ifCond .ne 5, 3) := by decide +kernel
theorem dX11_fewest_22 : decode cX11_fewest 22 = .ok (.iconst (-1), 1) := by decide +kernel
theorem dX11_fewest_23 : decode cX11_fewest 23 = .ok (.ireturn, 1) := by decide +kernel
theorem dX11_fewest_24 : decode cX11_fewest 24 = .ok (.aload_n 0, 1) := by decide +kernel
theorem dX11_fewest_25 : decode cX11_fewest 25 = .ok (.invokevirtual 231, 3) := by decide +kernel
theorem dX11_fewest_28 : decode cX11_fewest 28 = .ok (.iconst (-1), 1) := by decide +kernel
theorem dX11_fewest_29 : decode cX11_fewest 29 = .ok (.istore_n 3, 1) := by decide +kernel
theorem dX11_fewest_30 : decode cX11_fewest 30 = .ok (.iconst 0, 1) := by decide +kernel
theorem dX11_fewest_31 : decode cX11_fewest 31 = .ok (.istore 4, 2) := by decide +kernel
theorem dX11_fewest_33 : decode cX11_fewest 33 = .ok (.iload 4, 2) := by decide +kernel
theorem dX11_fewest_35 : decode cX11_fewest 35 = .ok (.iconst 1, 1) := by decide +kernel
theorem dX11_fewest_36 : decode cX11_fewest 36 = .ok (.aload_n 0, 1) := by decide +kernel
theorem dX11_fewest_37 : decode cX11_fewest 37 = .ok (.getfield 97, 3) := by decide +kernel
theorem dX11_fewest_40 : decode cX11_fewest 40 = .ok (.ishl, 1) := by decide +kernel
theorem dX11_fewest_41 : decode cX11_fewest 41 = .ok (.if_icmp .ge 133, 3) := by decide +kernel
theorem dX11_fewest_44 : decode cX11_fewest 44 = .ok (.iconst 0, 1) := by decide +kernel
theorem dX11_fewest_45 : decode cX11_fewest 45 = .ok (.istore 5, 2) := by decide +kernel
theorem dX11_fewest_47 : decode cX11_fewest 47 = .ok (.iload_n 3, 1) := by decide +kernel
theorem dX11_fewest_48 : decode cX11_fewest 48 = .ok (.ifCond .lt 15, 3) := by decide +kernel
theorem dX11_fewest_51 : decode cX11_fewest 51 = .ok (.iload 4, 2) := by decide +kernel
theorem dX11_fewest_53 : decode cX11_fewest 53 = .ok (.invokestatic 248, 3) := by decide +kernel
theorem dX11_fewest_56 : decode cX11_fewest 56 = .ok (.iload_n 3, 1) := by decide +kernel
theorem dX11_fewest_57 : decode cX11_fewest 57 = .ok (.invokestatic 248, 3) := by decide +kernel
theorem dX11_fewest_60 : decode cX11_fewest 60 = .ok (.if_icmp .ge 7, 3) := by decide +kernel
theorem dX11_fewest_63 : decode cX11_fewest 63 = .ok (.iconst 1, 1) := by decide +kernel
theorem dX11_fewest_64 : decode cX11_fewest 64 = .ok (.goto 4, 3) := by decide +kernel
theorem dX11_fewest_67 : decode cX11_fewest 67 = .ok (.iconst 0, 1) := by decide +kernel
theorem dX11_fewest_68 : decode cX11_fewest 68 = .ok (.istore 6, 2) := by decide +kernel
theorem dX11_fewest_70 : decode cX11_fewest 70 = .ok (.iconst 0, 1) := by decide +kernel
theorem dX11_fewest_71 : decode cX11_fewest 71 = .ok (.istore 7, 2) := by decide +kernel
theorem dX11_fewest_73 : decode cX11_fewest 73 = .ok (.iload 7, 2) := by decide +kernel
theorem dX11_fewest_75 : decode cX11_fewest 75 = .ok (.aload_n 0, 1) := by decide +kernel
theorem dX11_fewest_76 : decode cX11_fewest 76 = .ok (.getfield 97, 3) := by decide +kernel
theorem dX11_fewest_79 : decode cX11_fewest 79 = .ok (.if_icmp .ge 68, 3) := by decide +kernel
theorem dX11_fewest_82 : decode cX11_fewest 82 = .ok (.iload 6, 2) := by decide +kernel
theorem dX11_fewest_84 : decode cX11_fewest 84 = .ok (.ifCond .eq 27, 3) := by decide +kernel
theorem dX11_fewest_87 : decode cX11_fewest 87 = .ok (.iload 4, 2) := by decide +kernel
theorem dX11_fewest_89 : decode cX11_fewest 89 = .ok (.iload 7, 2) := by decide +kernel
theorem dX11_fewest_91 : decode cX11_fewest 91 = .ok (.invokestatic 261, 3) := by decide +kernel
theorem dX11_fewest_94 : decode cX11_fewest 94 = .ok (.ifCond .eq 13, 3) := by decide +kernel
theorem dX11_fewest_97 : decode cX11_fewest 97 = .ok (.aload_n 0, 1) := by decide +kernel
theorem dX11_fewest_98 : decode cX11_fewest 98 = .ok (.getfield 52, 3) := by decide +kernel
theorem dX11_fewest_101 : decode cX11_fewest 101 = .ok (.iload 7, 2) := by decide +kernel
theorem dX11_fewest_103 : decode cX11_fewest 103 = .ok (.baload, 1) := by decide +kernel
theorem dX11_fewest_104 : decode cX11_fewest 104 = .ok (.ifCond .ne 7, 3) := by decide +kernel
theorem dX11_fewest_107 : decode cX11_fewest 107 = .ok (.iconst 1, 1) := by decide +kernel
theorem dX11_fewest_108 : decode cX11_fewest 108 = .ok (.goto 4, 3) := by decide +kernel
theorem dX11_fewest_111 : decode cX11_fewest 111 = .ok (.iconst 0, 1) := by decide +kernel
theorem dX11_fewest_112 : decode cX11_fewest 112 = .ok (.istore 6, 2) := by decide +kernel
theorem dX11_fewest_114 : decode cX11_fewest 114 = .ok (.iload 5, 2) := by decide +kernel
theorem dX11_fewest_116 : decode cX11_fewest 116 = .ok (.iload 4, 2) := by decide +kernel
theorem dX11_fewest_118 : decode cX11_fewest 118 = .ok (.iload 7, 2) := by decide +kernel
theorem dX11_fewest_120 : decode cX11_fewest 120 = .ok (.invokestatic 261, 3) := by decide +kernel
theorem dX11_fewest_123 : decode cX11_fewest 123 = .ok (.ifCond .eq 14, 3) := by decide +kernel
theorem dX11_fewest_126 : decode cX11_fewest 126 = .ok (.iconst 1, 1) := by decide +kernel
theorem dX11_fewest_127 : decode cX11_fewest 127 = .ok (.aload_n 0, 1) := by decide +kernel
theorem dX11_fewest_128 : decode cX11_fewest 128 = .ok (.iload 7, 2) := by decide +kernel
theorem dX11_fewest_130 : decode cX11_fewest 130 = .ok (.invokevirtual 219, 3) := by decide +kernel
theorem dX11_fewest_133 : decode cX11_fewest 133 = .ok (.ishl, 1) := by decide +kernel
theorem dX11_fewest_134 : decode cX11_fewest 134 = .ok (.goto 4, 3) := by decide +kernel
theorem dX11_fewest_137 : decode cX11_fewest 137 = .ok (.iconst 0, 1) := by decide +kernel
theorem dX11_fewest_138 : decode cX11_fewest 138 = .ok (.ior, 1) := by decide +kernel
theorem dX11_fewest_139 : decode cX11_fewest 139 = .ok (.istore 5, 2) := by decide +kernel
theorem dX11_fewest_141 : decode cX11_fewest 141 = .ok (.iinc 7 1, 3) := by decide +kernel
theorem dX11_fewest_144 : decode cX11_fewest 144 = .ok (.goto (-71), 3) := by decide +kernel
theorem dX11_fewest_147 : decode cX11_fewest 147 = .ok (.iload 6, 2) := by decide +kernel
theorem dX11_fewest_149 : decode cX11_fewest 149 = .ok (.ifCond .eq 17, 3) := by decide +kernel
theorem dX11_fewest_152 : decode cX11_fewest 152 = .ok (.iload_n 1, 1) := by decide +kernel
theorem dX11_fewest_153 : decode cX11_fewest 153 = .ok (.iload 5, 2) := by decide +kernel
theorem dX11_fewest_155 : decode cX11_fewest 155 = .ok (.iconst (-1), 1) := by decide +kernel
theorem dX11_fewest_156 : decode cX11_fewest 156 = .ok (.ixor, 1) := by decide +kernel
theorem dX11_fewest_157 : decode cX11_fewest 157 = .ok (.iand, 1) := by decide +kernel
theorem dX11_fewest_158 : decode cX11_fewest 158 = .ok (.ifCond .ne 8, 3) := by decide +kernel
theorem dX11_fewest_161 : decode cX11_fewest 161 = .ok (.iload 4, 2) := by decide +kernel
theorem dX11_fewest_163 : decode cX11_fewest 163 = .ok (.goto 4, 3) := by decide +kernel
theorem dX11_fewest_166 : decode cX11_fewest 166 = .ok (.iload_n 3, 1) := by decide +kernel
theorem dX11_fewest_167 : decode cX11_fewest 167 = .ok (.istore_n 3, 1) := by decide +kernel
theorem dX11_fewest_168 : decode cX11_fewest 168 = .ok (.iinc 4 1, 3) := by decide +kernel
theorem dX11_fewest_171 : decode cX11_fewest 171 = .ok (.goto (-138), 3) := by decide +kernel
theorem dX11_fewest_174 : decode cX11_fewest 174 = .ok (.iload_n 3, 1) := by decide +kernel
theorem dX11_fewest_175 : decode cX11_fewest 175 = .ok (.ifCond .ge 8, 3) := by decide +kernel
theorem dX11_fewest_178 : decode cX11_fewest 178 = .ok (.bipush (-2), 2) := by decide +kernel
theorem dX11_fewest_180 : decode cX11_fewest 180 = .ok (.goto 15, 3) := by decide +kernel
theorem dX11_fewest_183 : decode cX11_fewest 183 = .ok (.iload_n 2, 1) := by decide +kernel
theorem dX11_fewest_184 : decode cX11_fewest 184 = .ok (.ifCond .ne 10, 3) := by decide +kernel
theorem dX11_fewest_187 : decode cX11_fewest 187 = .ok (.iload_n 3, 1) := by decide +kernel
theorem dX11_fewest_188 : decode cX11_fewest 188 = .ok (.invokestatic 248, 3) := by decide +kernel
theorem dX11_fewest_191 : decode cX11_fewest 191 = .ok (.goto 4, 3) := by decide +kernel
theorem dX11_fewest_194 : decode cX11_fewest 194 = .ok (.iload_n 3, 1) := by decide +kernel
theorem dX11_fewest_195 : decode cX11_fewest 195 = .ok (.ireturn, 1) := by decide +kernel
theorem dX11_triesOpening_0 : decode cX11_triesOpening 0 = .ok (.iload_n 1, 1) := by decide +kernel
theorem dX11_triesOpening_1 : decode cX11_triesOpening 1 = .ok (.iload_n 2, 1) := by decide +kernel
theorem dX11_triesOpening_2 : decode cX11_triesOpening 2 = .ok (.if_icmp .ne 58, 3) := by decide +kernel
theorem dX11_triesOpening_5 : decode cX11_triesOpening 5 = .ok (.aload_n 0, 1) := by decide +kernel
theorem dX11_triesOpening_6 : decode cX11_triesOpening 6 = .ok (.iload_n 2, 1) := by decide +kernel
theorem dX11_triesOpening_7 : decode cX11_triesOpening 7 = .ok (.invokevirtual 264, 3) := by decide +kernel
theorem dX11_triesOpening_10 : decode cX11_triesOpening 10 = .ok (.istore_n 3, 1) := by decide +kernel
theorem dX11_triesOpening_11 : decode cX11_triesOpening 11 = .ok (.iload_n 3, 1) := by decide +kernel
theorem dX11_triesOpening_12 : decode cX11_triesOpening 12 = .ok (.invokestatic 248, 3) := by decide +kernel
theorem dX11_triesOpening_15 : decode cX11_triesOpening 15 = .ok (.aload_n 0, 1) := by decide +kernel
theorem dX11_triesOpening_16 : decode cX11_triesOpening 16 = .ok (.getfield 267, 3) := by decide +kernel
theorem dX11_triesOpening_19 : decode cX11_triesOpening 19 = .ok (.if_icmp .le 40, 3) := by decide +kernel
theorem dX11_triesOpening_22 : decode cX11_triesOpening 22 = .ok (.aload_n 0, 1) := by decide +kernel
theorem dX11_triesOpening_23 : decode cX11_triesOpening 23 = .ok (.iload_n 3, 1) := by decide +kernel
theorem dX11_triesOpening_24 : decode cX11_triesOpening 24 = .ok (.invokestatic 248, 3) := by decide +kernel
theorem dX11_triesOpening_27 : decode cX11_triesOpening 27 = .ok (.putfield 267, 3) := by decide +kernel
theorem dX11_triesOpening_30 : decode cX11_triesOpening 30 = .ok (.iconst 0, 1) := by decide +kernel
theorem dX11_triesOpening_31 : decode cX11_triesOpening 31 = .ok (.istore 4, 2) := by decide +kernel
theorem dX11_triesOpening_33 : decode cX11_triesOpening 33 = .ok (.iload 4, 2) := by decide +kernel
theorem dX11_triesOpening_35 : decode cX11_triesOpening 35 = .ok (.iload_n 2, 1) := by decide +kernel
theorem dX11_triesOpening_36 : decode cX11_triesOpening 36 = .ok (.if_icmp .ge 23, 3) := by decide +kernel
theorem dX11_triesOpening_39 : decode cX11_triesOpening 39 = .ok (.aload_n 0, 1) := by decide +kernel
theorem dX11_triesOpening_40 : decode cX11_triesOpening 40 = .ok (.getfield 59, 3) := by decide +kernel
theorem dX11_triesOpening_43 : decode cX11_triesOpening 43 = .ok (.iload 4, 2) := by decide +kernel
theorem dX11_triesOpening_45 : decode cX11_triesOpening 45 = .ok (.aload_n 0, 1) := by decide +kernel
theorem dX11_triesOpening_46 : decode cX11_triesOpening 46 = .ok (.getfield 56, 3) := by decide +kernel
theorem dX11_triesOpening_49 : decode cX11_triesOpening 49 = .ok (.iload 4, 2) := by decide +kernel
theorem dX11_triesOpening_51 : decode cX11_triesOpening 51 = .ok (.iaload, 1) := by decide +kernel
theorem dX11_triesOpening_52 : decode cX11_triesOpening 52 = .ok (.iastore, 1) := by decide +kernel
theorem dX11_triesOpening_53 : decode cX11_triesOpening 53 = .ok (.iinc 4 1, 3) := by decide +kernel
theorem dX11_triesOpening_56 : decode cX11_triesOpening 56 = .ok (.goto (-23), 3) := by decide +kernel
theorem dX11_triesOpening_59 : decode cX11_triesOpening 59 = .ok (.return_, 1) := by decide +kernel
theorem dX11_triesOpening_60 : decode cX11_triesOpening 60 = .ok (.iconst 0, 1) := by decide +kernel
theorem dX11_triesOpening_61 : decode cX11_triesOpening 61 = .ok (.istore_n 3, 1) := by decide +kernel
theorem dX11_triesOpening_62 : decode cX11_triesOpening 62 = .ok (.iload_n 3, 1) := by decide +kernel
theorem dX11_triesOpening_63 : decode cX11_triesOpening 63 = .ok (.aload_n 0, 1) := by decide +kernel
theorem dX11_triesOpening_64 : decode cX11_triesOpening 64 = .ok (.getfield 97, 3) := by decide +kernel
theorem dX11_triesOpening_67 : decode cX11_triesOpening 67 = .ok (.if_icmp .ge 86, 3) := by decide +kernel
theorem dX11_triesOpening_70 : decode cX11_triesOpening 70 = .ok (.aload_n 0, 1) := by decide +kernel
theorem dX11_triesOpening_71 : decode cX11_triesOpening 71 = .ok (.getfield 9, 3) := by decide +kernel
theorem dX11_triesOpening_74 : decode cX11_triesOpening 74 = .ok (.bipush 30, 2) := by decide +kernel
theorem dX11_triesOpening_76 : decode cX11_triesOpening 76 = .ok (.iload_n 3, 1) := by decide +kernel
theorem dX11_triesOpening_77 : decode cX11_triesOpening 77 = .ok (.iadd, 1) := by decide +kernel
theorem dX11_triesOpening_78 : decode cX11_triesOpening 78 = .ok (.iaload, 1) := by decide +kernel
theorem dX11_triesOpening_79 : decode cX11_triesOpening 79 = .ok (.ifCond .ne 7, 3) := by decide +kernel
theorem dX11_triesOpening_82 : decode cX11_triesOpening 82 = .ok (.iconst 1, 1) := by decide +kernel
theorem dX11_triesOpening_83 : decode cX11_triesOpening 83 = .ok (.goto 4, 3) := by decide +kernel
theorem dX11_triesOpening_86 : decode cX11_triesOpening 86 = .ok (.iconst 0, 1) := by decide +kernel
theorem dX11_triesOpening_87 : decode cX11_triesOpening 87 = .ok (.istore 4, 2) := by decide +kernel
theorem dX11_triesOpening_89 : decode cX11_triesOpening 89 = .ok (.iconst 0, 1) := by decide +kernel
theorem dX11_triesOpening_90 : decode cX11_triesOpening 90 = .ok (.istore 5, 2) := by decide +kernel
theorem dX11_triesOpening_92 : decode cX11_triesOpening 92 = .ok (.iload 5, 2) := by decide +kernel
theorem dX11_triesOpening_94 : decode cX11_triesOpening 94 = .ok (.iload_n 1, 1) := by decide +kernel
theorem dX11_triesOpening_95 : decode cX11_triesOpening 95 = .ok (.if_icmp .ge 32, 3) := by decide +kernel
theorem dX11_triesOpening_98 : decode cX11_triesOpening 98 = .ok (.iload 4, 2) := by decide +kernel
theorem dX11_triesOpening_100 : decode cX11_triesOpening 100 = .ok (.ifCond .eq 18, 3) := by decide +kernel
theorem dX11_triesOpening_103 : decode cX11_triesOpening 103 = .ok (.aload_n 0, 1) := by decide +kernel
theorem dX11_triesOpening_104 : decode cX11_triesOpening 104 = .ok (.getfield 56, 3) := by decide +kernel
theorem dX11_triesOpening_107 : decode cX11_triesOpening 107 = .ok (.iload 5, 2) := by decide +kernel
theorem dX11_triesOpening_109 : decode cX11_triesOpening 109 = .ok (.iaload, 1) := by decide +kernel
theorem dX11_triesOpening_110 : decode cX11_triesOpening 110 = .ok (.iload_n 3, 1) := by decide +kernel
theorem dX11_triesOpening_111 : decode cX11_triesOpening 111 = .ok (.if_icmp .eq 7, 3) := by decide +kernel
theorem dX11_triesOpening_114 : decode cX11_triesOpening 114 = .ok (.iconst 1, 1) := by decide +kernel
theorem dX11_triesOpening_115 : decode cX11_triesOpening 115 = .ok (.goto 4, 3) := by decide +kernel
theorem dX11_triesOpening_118 : decode cX11_triesOpening 118 = .ok (.iconst 0, 1) := by decide +kernel
theorem dX11_triesOpening_119 : decode cX11_triesOpening 119 = .ok (.istore 4, 2) := by decide +kernel
theorem dX11_triesOpening_121 : decode cX11_triesOpening 121 = .ok (.iinc 5 1, 3) := by decide +kernel
theorem dX11_triesOpening_124 : decode cX11_triesOpening 124 = .ok (.goto (-32), 3) := by decide +kernel
theorem dX11_triesOpening_127 : decode cX11_triesOpening 127 = .ok (.iload 4, 2) := by decide +kernel
theorem dX11_triesOpening_129 : decode cX11_triesOpening 129 = .ok (.ifCond .eq 18, 3) := by decide +kernel
theorem dX11_triesOpening_132 : decode cX11_triesOpening 132 = .ok (.aload_n 0, 1) := by decide +kernel
theorem dX11_triesOpening_133 : decode cX11_triesOpening 133 = .ok (.getfield 56, 3) := by decide +kernel
theorem dX11_triesOpening_136 : decode cX11_triesOpening 136 = .ok (.iload_n 1, 1) := by decide +kernel
theorem dX11_triesOpening_137 : decode cX11_triesOpening 137 = .ok (.iload_n 3, 1) := by decide +kernel
theorem dX11_triesOpening_138 : decode cX11_triesOpening 138 = .ok (.iastore, 1) := by decide +kernel
theorem dX11_triesOpening_139 : decode cX11_triesOpening 139 = .ok (.aload_n 0, 1) := by decide +kernel
theorem dX11_triesOpening_140 : decode cX11_triesOpening 140 = .ok (.iload_n 1, 1) := by decide +kernel
theorem dX11_triesOpening_141 : decode cX11_triesOpening 141 = .ok (.iconst 1, 1) := by decide +kernel
theorem dX11_triesOpening_142 : decode cX11_triesOpening 142 = .ok (.iadd, 1) := by decide +kernel
theorem dX11_triesOpening_143 : decode cX11_triesOpening 143 = .ok (.iload_n 2, 1) := by decide +kernel
theorem dX11_triesOpening_144 : decode cX11_triesOpening 144 = .ok (.invokevirtual 270, 3) := by decide +kernel
theorem dX11_triesOpening_147 : decode cX11_triesOpening 147 = .ok (.iinc 3 1, 3) := by decide +kernel
theorem dX11_triesOpening_150 : decode cX11_triesOpening 150 = .ok (.goto (-88), 3) := by decide +kernel
theorem dX11_triesOpening_153 : decode cX11_triesOpening 153 = .ok (.return_, 1) := by decide +kernel
theorem dX11_saidBy_0 : decode cX11_saidBy 0 = .ok (.aload_n 0, 1) := by decide +kernel
theorem dX11_saidBy_1 : decode cX11_saidBy 1 = .ok (.invokevirtual 231, 3) := by decide +kernel
theorem dX11_saidBy_4 : decode cX11_saidBy 4 = .ok (.iconst 0, 1) := by decide +kernel
theorem dX11_saidBy_5 : decode cX11_saidBy 5 = .ok (.istore_n 2, 1) := by decide +kernel
theorem dX11_saidBy_6 : decode cX11_saidBy 6 = .ok (.iconst 0, 1) := by decide +kernel
theorem dX11_saidBy_7 : decode cX11_saidBy 7 = .ok (.istore_n 3, 1) := by decide +kernel
theorem dX11_saidBy_8 : decode cX11_saidBy 8 = .ok (.iload_n 3, 1) := by decide +kernel
theorem dX11_saidBy_9 : decode cX11_saidBy 9 = .ok (.iload_n 1, 1) := by decide +kernel
theorem dX11_saidBy_10 : decode cX11_saidBy 10 = .ok (.if_icmp .ge 54, 3) := by decide +kernel
theorem dX11_saidBy_13 : decode cX11_saidBy 13 = .ok (.iload_n 3, 1) := by decide +kernel
theorem dX11_saidBy_14 : decode cX11_saidBy 14 = .ok (.ifCond .le 7, 3) := by decide +kernel
theorem dX11_saidBy_17 : decode cX11_saidBy 17 = .ok (.aload_n 0, 1) := by decide +kernel
theorem dX11_saidBy_18 : decode cX11_saidBy 18 = .ok (.invokevirtual 234, 3) := by decide +kernel
theorem dX11_saidBy_21 : decode cX11_saidBy 21 = .ok (.iload_n 2, 1) := by decide +kernel
theorem dX11_saidBy_22 : decode cX11_saidBy 22 = .ok (.iconst 1, 1) := by decide +kernel
theorem dX11_saidBy_23 : decode cX11_saidBy 23 = .ok (.aload_n 0, 1) := by decide +kernel
theorem dX11_saidBy_24 : decode cX11_saidBy 24 = .ok (.aload_n 0, 1) := by decide +kernel
theorem dX11_saidBy_25 : decode cX11_saidBy 25 = .ok (.getfield 56, 3) := by decide +kernel
theorem dX11_saidBy_28 : decode cX11_saidBy 28 = .ok (.iload_n 3, 1) := by decide +kernel
theorem dX11_saidBy_29 : decode cX11_saidBy 29 = .ok (.iaload, 1) := by decide +kernel
theorem dX11_saidBy_30 : decode cX11_saidBy 30 = .ok (.invokevirtual 219, 3) := by decide +kernel
theorem dX11_saidBy_33 : decode cX11_saidBy 33 = .ok (.ishl, 1) := by decide +kernel
theorem dX11_saidBy_34 : decode cX11_saidBy 34 = .ok (.ior, 1) := by decide +kernel
theorem dX11_saidBy_35 : decode cX11_saidBy 35 = .ok (.istore_n 2, 1) := by decide +kernel
theorem dX11_saidBy_36 : decode cX11_saidBy 36 = .ok (.aload_n 0, 1) := by decide +kernel
theorem dX11_saidBy_37 : decode cX11_saidBy 37 = .ok (.getfield 52, 3) := by decide +kernel
theorem dX11_saidBy_40 : decode cX11_saidBy 40 = .ok (.aload_n 0, 1) := by decide +kernel
theorem dX11_saidBy_41 : decode cX11_saidBy 41 = .ok (.getfield 56, 3) := by decide +kernel
theorem dX11_saidBy_44 : decode cX11_saidBy 44 = .ok (.iload_n 3, 1) := by decide +kernel
theorem dX11_saidBy_45 : decode cX11_saidBy 45 = .ok (.iaload, 1) := by decide +kernel
theorem dX11_saidBy_46 : decode cX11_saidBy 46 = .ok (.iconst 1, 1) := by decide +kernel
theorem dX11_saidBy_47 : decode cX11_saidBy 47 = .ok (.bastore, 1) := by decide +kernel
theorem dX11_saidBy_48 : decode cX11_saidBy 48 = .ok (.aload_n 0, 1) := by decide +kernel
theorem dX11_saidBy_49 : decode cX11_saidBy 49 = .ok (.dup, 1) := by decide +kernel
theorem dX11_saidBy_50 : decode cX11_saidBy 50 = .ok (.getfield 213, 3) := by decide +kernel
theorem dX11_saidBy_53 : decode cX11_saidBy 53 = .ok (.iconst 1, 1) := by decide +kernel
theorem dX11_saidBy_54 : decode cX11_saidBy 54 = .ok (.iadd, 1) := by decide +kernel
theorem dX11_saidBy_55 : decode cX11_saidBy 55 = .ok (.putfield 213, 3) := by decide +kernel
theorem dX11_saidBy_58 : decode cX11_saidBy 58 = .ok (.iinc 3 1, 3) := by decide +kernel
theorem dX11_saidBy_61 : decode cX11_saidBy 61 = .ok (.goto (-53), 3) := by decide +kernel
theorem dX11_saidBy_64 : decode cX11_saidBy 64 = .ok (.iload_n 2, 1) := by decide +kernel
theorem dX11_saidBy_65 : decode cX11_saidBy 65 = .ok (.ireturn, 1) := by decide +kernel
theorem dX11_openings_0 : decode cX11_openings 0 = .ok (.iload_n 1, 1) := by decide +kernel
theorem dX11_openings_1 : decode cX11_openings 1 = .ok (.i2l, 1) := by decide +kernel
theorem dX11_openings_2 : decode cX11_openings 2 = .ok (.lconst 0, 1) := by decide +kernel
theorem dX11_openings_3 : decode cX11_openings 3 = .ok (.ldc2_w 125, 3) := by decide +kernel
theorem dX11_openings_6 : decode cX11_openings 6 = .ok (.invokestatic 100, 3) := by decide +kernel
theorem dX11_openings_9 : decode cX11_openings 9 = .ok (.ifCond .eq 8, 3) := by decide +kernel
theorem dX11_openings_12 : decode cX11_openings 12 = .ok (.iload_n 2, 1) := by decide +kernel
theorem dX11_openings_13 : decode cX11_openings 13 = .ok (.iconst (-1), 1) := by decide +kernel
theorem dX11_openings_14 : decode cX11_openings 14 = .ok (.if_icmp .ge 5, 3) := by decide +kernel
theorem dX11_openings_17 : decode cX11_openings 17 = .ok (.iconst (-1), 1) := by decide +kernel
theorem dX11_openings_18 : decode cX11_openings 18 = .ok (.ireturn, 1) := by decide +kernel
theorem dX11_openings_19 : decode cX11_openings 19 = .ok (.aload_n 0, 1) := by decide +kernel
theorem dX11_openings_20 : decode cX11_openings 20 = .ok (.invokevirtual 231, 3) := by decide +kernel
theorem dX11_openings_23 : decode cX11_openings 23 = .ok (.iload_n 1, 1) := by decide +kernel
theorem dX11_openings_24 : decode cX11_openings 24 = .ok (.aload_n 0, 1) := by decide +kernel
theorem dX11_openings_25 : decode cX11_openings 25 = .ok (.invokevirtual 274, 3) := by decide +kernel
theorem dX11_openings_28 : decode cX11_openings 28 = .ok (.if_icmp .ge 7, 3) := by decide +kernel
theorem dX11_openings_31 : decode cX11_openings 31 = .ok (.iload_n 1, 1) := by decide +kernel
theorem dX11_openings_32 : decode cX11_openings 32 = .ok (.goto 7, 3) := by decide +kernel
theorem dX11_openings_35 : decode cX11_openings 35 = .ok (.aload_n 0, 1) := by decide +kernel
theorem dX11_openings_36 : decode cX11_openings 36 = .ok (.invokevirtual 274, 3) := by decide +kernel
theorem dX11_openings_39 : decode cX11_openings 39 = .ok (.istore_n 3, 1) := by decide +kernel
theorem dX11_openings_40 : decode cX11_openings 40 = .ok (.aload_n 0, 1) := by decide +kernel
theorem dX11_openings_41 : decode cX11_openings 41 = .ok (.iconst (-1), 1) := by decide +kernel
theorem dX11_openings_42 : decode cX11_openings 42 = .ok (.putfield 267, 3) := by decide +kernel
theorem dX11_openings_45 : decode cX11_openings 45 = .ok (.aload_n 0, 1) := by decide +kernel
theorem dX11_openings_46 : decode cX11_openings 46 = .ok (.iconst 0, 1) := by decide +kernel
theorem dX11_openings_47 : decode cX11_openings 47 = .ok (.iload_n 3, 1) := by decide +kernel
theorem dX11_openings_48 : decode cX11_openings 48 = .ok (.invokevirtual 270, 3) := by decide +kernel
theorem dX11_openings_51 : decode cX11_openings 51 = .ok (.iload_n 2, 1) := by decide +kernel
theorem dX11_openings_52 : decode cX11_openings 52 = .ok (.ifCond .ge 10, 3) := by decide +kernel
theorem dX11_openings_55 : decode cX11_openings 55 = .ok (.aload_n 0, 1) := by decide +kernel
theorem dX11_openings_56 : decode cX11_openings 56 = .ok (.getfield 267, 3) := by decide +kernel
theorem dX11_openings_59 : decode cX11_openings 59 = .ok (.goto 19, 3) := by decide +kernel
theorem dX11_openings_62 : decode cX11_openings 62 = .ok (.iload_n 2, 1) := by decide +kernel
theorem dX11_openings_63 : decode cX11_openings 63 = .ok (.iload_n 3, 1) := by decide +kernel
theorem dX11_openings_64 : decode cX11_openings 64 = .ok (.if_icmp .ge 12, 3) := by decide +kernel
theorem dX11_openings_67 : decode cX11_openings 67 = .ok (.aload_n 0, 1) := by decide +kernel
theorem dX11_openings_68 : decode cX11_openings 68 = .ok (.getfield 59, 3) := by decide +kernel
theorem dX11_openings_71 : decode cX11_openings 71 = .ok (.iload_n 2, 1) := by decide +kernel
theorem dX11_openings_72 : decode cX11_openings 72 = .ok (.iaload, 1) := by decide +kernel
theorem dX11_openings_73 : decode cX11_openings 73 = .ok (.goto 5, 3) := by decide +kernel
theorem dX11_openings_76 : decode cX11_openings 76 = .ok (.bipush (-2), 2) := by decide +kernel
theorem dX11_openings_78 : decode cX11_openings 78 = .ok (.ireturn, 1) := by decide +kernel
theorem dX11_partOf_0 : decode cX11_partOf 0 = .ok (.lload_n 0, 1) := by decide +kernel
theorem dX11_partOf_1 : decode cX11_partOf 1 = .ok (.lconst 0, 1) := by decide +kernel
theorem dX11_partOf_2 : decode cX11_partOf 2 = .ok (.lcmp, 1) := by decide +kernel
theorem dX11_partOf_3 : decode cX11_partOf 3 = .ok (.ifCond .ne 7, 3) := by decide +kernel
theorem dX11_partOf_6 : decode cX11_partOf 6 = .ok (.iload 4, 2) := by decide +kernel
theorem dX11_partOf_8 : decode cX11_partOf 8 = .ok (.i2l, 1) := by decide +kernel
theorem dX11_partOf_9 : decode cX11_partOf 9 = .ok (.lreturn, 1) := by decide +kernel
theorem dX11_partOf_10 : decode cX11_partOf 10 = .ok (.lload_n 0, 1) := by decide +kernel
theorem dX11_partOf_11 : decode cX11_partOf 11 = .ok (.lstore 5, 2) := by decide +kernel
theorem dX11_partOf_13 : decode cX11_partOf 13 = .ok (.lload_n 2, 1) := by decide +kernel
theorem dX11_partOf_14 : decode cX11_partOf 14 = .ok (.lstore 7, 2) := by decide +kernel
theorem dX11_partOf_16 : decode cX11_partOf 16 = .ok (.lload 7, 2) := by decide +kernel
theorem dX11_partOf_18 : decode cX11_partOf 18 = .ok (.lconst 0, 1) := by decide +kernel
theorem dX11_partOf_19 : decode cX11_partOf 19 = .ok (.lcmp, 1) := by decide +kernel
theorem dX11_partOf_20 : decode cX11_partOf 20 = .ok (.ifCond .eq 21, 3) := by decide +kernel
theorem dX11_partOf_23 : decode cX11_partOf 23 = .ok (.lload 5, 2) := by decide +kernel
theorem dX11_partOf_25 : decode cX11_partOf 25 = .ok (.lload 7, 2) := by decide +kernel
theorem dX11_partOf_27 : decode cX11_partOf 27 = .ok (.lrem, 1) := by decide +kernel
theorem dX11_partOf_28 : decode cX11_partOf 28 = .ok (.lstore 9, 2) := by decide +kernel
theorem dX11_partOf_30 : decode cX11_partOf 30 = .ok (.lload 7, 2) := by decide +kernel
theorem dX11_partOf_32 : decode cX11_partOf 32 = .ok (.lstore 5, 2) := by decide +kernel
theorem dX11_partOf_34 : decode cX11_partOf 34 = .ok (.lload 9, 2) := by decide +kernel
theorem dX11_partOf_36 : decode cX11_partOf 36 = .ok (.lstore 7, 2) := by decide +kernel
theorem dX11_partOf_38 : decode cX11_partOf 38 = .ok (.goto (-22), 3) := by decide +kernel
theorem dX11_partOf_41 : decode cX11_partOf 41 = .ok (.iload 4, 2) := by decide +kernel
theorem dX11_partOf_43 : decode cX11_partOf 43 = .ok (.ifCond .ne 10, 3) := by decide +kernel
theorem dX11_partOf_46 : decode cX11_partOf 46 = .ok (.lload_n 0, 1) := by decide +kernel
theorem dX11_partOf_47 : decode cX11_partOf 47 = .ok (.lload 5, 2) := by decide +kernel
theorem dX11_partOf_49 : decode cX11_partOf 49 = .ok (.ldiv, 1) := by decide +kernel
theorem dX11_partOf_50 : decode cX11_partOf 50 = .ok (.goto 7, 3) := by decide +kernel
theorem dX11_partOf_53 : decode cX11_partOf 53 = .ok (.lload_n 2, 1) := by decide +kernel
theorem dX11_partOf_54 : decode cX11_partOf 54 = .ok (.lload 5, 2) := by decide +kernel
theorem dX11_partOf_56 : decode cX11_partOf 56 = .ok (.ldiv, 1) := by decide +kernel
theorem dX11_partOf_57 : decode cX11_partOf 57 = .ok (.lreturn, 1) := by decide +kernel
theorem dX11_chance_0 : decode cX11_chance 0 = .ok (.iload_n 1, 1) := by decide +kernel
theorem dX11_chance_1 : decode cX11_chance 1 = .ok (.i2l, 1) := by decide +kernel
theorem dX11_chance_2 : decode cX11_chance 2 = .ok (.ldc2_w 277, 3) := by decide +kernel
theorem dX11_chance_5 : decode cX11_chance 5 = .ok (.ldc2_w 106, 3) := by decide +kernel
theorem dX11_chance_8 : decode cX11_chance 8 = .ok (.invokestatic 100, 3) := by decide +kernel
theorem dX11_chance_11 : decode cX11_chance 11 = .ok (.ifCond .eq 13, 3) := by decide +kernel
theorem dX11_chance_14 : decode cX11_chance 14 = .ok (.iload_n 2, 1) := by decide +kernel
theorem dX11_chance_15 : decode cX11_chance 15 = .ok (.i2l, 1) := by decide +kernel
theorem dX11_chance_16 : decode cX11_chance 16 = .ok (.lconst 0, 1) := by decide +kernel
theorem dX11_chance_17 : decode cX11_chance 17 = .ok (.lconst 1, 1) := by decide +kernel
theorem dX11_chance_18 : decode cX11_chance 18 = .ok (.invokestatic 100, 3) := by decide +kernel
theorem dX11_chance_21 : decode cX11_chance 21 = .ok (.ifCond .ne 7, 3) := by decide +kernel
theorem dX11_chance_24 : decode cX11_chance 24 = .ok (.ldc2_w 281, 3) := by decide +kernel
theorem dX11_chance_27 : decode cX11_chance 27 = .ok (.lreturn, 1) := by decide +kernel
theorem dX11_chance_28 : decode cX11_chance 28 = .ok (.aload_n 0, 1) := by decide +kernel
theorem dX11_chance_29 : decode cX11_chance 29 = .ok (.invokevirtual 231, 3) := by decide +kernel
theorem dX11_chance_32 : decode cX11_chance 32 = .ok (.lconst 0, 1) := by decide +kernel
theorem dX11_chance_33 : decode cX11_chance 33 = .ok (.lstore_n 3, 1) := by decide +kernel
theorem dX11_chance_34 : decode cX11_chance 34 = .ok (.lconst 0, 1) := by decide +kernel
theorem dX11_chance_35 : decode cX11_chance 35 = .ok (.lstore 5, 2) := by decide +kernel
theorem dX11_chance_37 : decode cX11_chance 37 = .ok (.iconst 0, 1) := by decide +kernel
theorem dX11_chance_38 : decode cX11_chance 38 = .ok (.istore 7, 2) := by decide +kernel
theorem dX11_chance_40 : decode cX11_chance 40 = .ok (.iload 7, 2) := by decide +kernel
theorem dX11_chance_42 : decode cX11_chance 42 = .ok (.aload_n 0, 1) := by decide +kernel
theorem dX11_chance_43 : decode cX11_chance 43 = .ok (.getfield 97, 3) := by decide +kernel
theorem dX11_chance_46 : decode cX11_chance 46 = .ok (.if_icmp .ge 98, 3) := by decide +kernel
theorem dX11_chance_49 : decode cX11_chance 49 = .ok (.lload_n 3, 1) := by decide +kernel
theorem dX11_chance_50 : decode cX11_chance 50 = .ok (.aload_n 0, 1) := by decide +kernel
theorem dX11_chance_51 : decode cX11_chance 51 = .ok (.getfield 52, 3) := by decide +kernel
theorem dX11_chance_54 : decode cX11_chance 54 = .ok (.iload 7, 2) := by decide +kernel
theorem dX11_chance_56 : decode cX11_chance 56 = .ok (.baload, 1) := by decide +kernel
theorem dX11_chance_57 : decode cX11_chance 57 = .ok (.ifCond .ne 17, 3) := by decide +kernel
theorem dX11_chance_60 : decode cX11_chance 60 = .ok (.aload_n 0, 1) := by decide +kernel
theorem dX11_chance_61 : decode cX11_chance 61 = .ok (.iload 7, 2) := by decide +kernel
theorem dX11_chance_63 : decode cX11_chance 63 = .ok (.invokevirtual 219, 3) := by decide +kernel
theorem dX11_chance_66 : decode cX11_chance 66 = .ok (.iload_n 1, 1) := by decide +kernel
theorem dX11_chance_67 : decode cX11_chance 67 = .ok (.if_icmp .ne 7, 3) := by decide +kernel
theorem dX11_chance_70 : decode cX11_chance 70 = .ok (.lconst 1, 1) := by decide +kernel
theorem dX11_chance_71 : decode cX11_chance 71 = .ok (.goto 4, 3) := by decide +kernel
theorem dX11_chance_74 : decode cX11_chance 74 = .ok (.lconst 0, 1) := by decide +kernel
theorem dX11_chance_75 : decode cX11_chance 75 = .ok (.ladd, 1) := by decide +kernel
theorem dX11_chance_76 : decode cX11_chance 76 = .ok (.lstore_n 3, 1) := by decide +kernel
theorem dX11_chance_77 : decode cX11_chance 77 = .ok (.iconst 0, 1) := by decide +kernel
theorem dX11_chance_78 : decode cX11_chance 78 = .ok (.istore 8, 2) := by decide +kernel
theorem dX11_chance_80 : decode cX11_chance 80 = .ok (.iload 8, 2) := by decide +kernel
theorem dX11_chance_82 : decode cX11_chance 82 = .ok (.iload 7, 2) := by decide +kernel
theorem dX11_chance_84 : decode cX11_chance 84 = .ok (.if_icmp .ge 54, 3) := by decide +kernel
theorem dX11_chance_87 : decode cX11_chance 87 = .ok (.lload 5, 2) := by decide +kernel
theorem dX11_chance_89 : decode cX11_chance 89 = .ok (.aload_n 0, 1) := by decide +kernel
theorem dX11_chance_90 : decode cX11_chance 90 = .ok (.getfield 52, 3) := by decide +kernel
theorem dX11_chance_93 : decode cX11_chance 93 = .ok (.iload 7, 2) := by decide +kernel
theorem dX11_chance_95 : decode cX11_chance 95 = .ok (.baload, 1) := by decide +kernel
theorem dX11_chance_96 : decode cX11_chance 96 = .ok (.ifCond .ne 32, 3) := by decide +kernel
theorem dX11_chance_99 : decode cX11_chance 99 = .ok (.aload_n 0, 1) := by decide +kernel
theorem dX11_chance_100 : decode cX11_chance 100 = .ok (.getfield 52, 3) := by decide +kernel
theorem dX11_chance_103 : decode cX11_chance 103 = .ok (.iload 8, 2) := by decide +kernel
theorem dX11_chance_105 : decode cX11_chance 105 = .ok (.baload, 1) := by decide +kernel
theorem dX11_chance_106 : decode cX11_chance 106 = .ok (.ifCond .ne 22, 3) := by decide +kernel
theorem dX11_chance_109 : decode cX11_chance 109 = .ok (.aload_n 0, 1) := by decide +kernel
theorem dX11_chance_110 : decode cX11_chance 110 = .ok (.iload 7, 2) := by decide +kernel
theorem dX11_chance_112 : decode cX11_chance 112 = .ok (.invokevirtual 219, 3) := by decide +kernel
theorem dX11_chance_115 : decode cX11_chance 115 = .ok (.aload_n 0, 1) := by decide +kernel
theorem dX11_chance_116 : decode cX11_chance 116 = .ok (.iload 8, 2) := by decide +kernel
theorem dX11_chance_118 : decode cX11_chance 118 = .ok (.invokevirtual 219, 3) := by decide +kernel
theorem dX11_chance_121 : decode cX11_chance 121 = .ok (.if_icmp .ne 7, 3) := by decide +kernel
theorem dX11_chance_124 : decode cX11_chance 124 = .ok (.lconst 1, 1) := by decide +kernel
theorem dX11_chance_125 : decode cX11_chance 125 = .ok (.goto 4, 3) := by decide +kernel
theorem dX11_chance_128 : decode cX11_chance 128 = .ok (.lconst 0, 1) := by decide +kernel
theorem dX11_chance_129 : decode cX11_chance 129 = .ok (.ladd, 1) := by decide +kernel
theorem dX11_chance_130 : decode cX11_chance 130 = .ok (.lstore 5, 2) := by decide +kernel
theorem dX11_chance_132 : decode cX11_chance 132 = .ok (.iinc 8 1, 3) := by decide +kernel
theorem dX11_chance_135 : decode cX11_chance 135 = .ok (.goto (-55), 3) := by decide +kernel
theorem dX11_chance_138 : decode cX11_chance 138 = .ok (.iinc 7 1, 3) := by decide +kernel
theorem dX11_chance_141 : decode cX11_chance 141 = .ok (.goto (-101), 3) := by decide +kernel
theorem dX11_chance_144 : decode cX11_chance 144 = .ok (.aload_n 0, 1) := by decide +kernel
theorem dX11_chance_145 : decode cX11_chance 145 = .ok (.invokevirtual 274, 3) := by decide +kernel
theorem dX11_chance_148 : decode cX11_chance 148 = .ok (.i2l, 1) := by decide +kernel
theorem dX11_chance_149 : decode cX11_chance 149 = .ok (.lstore 7, 2) := by decide +kernel
theorem dX11_chance_151 : decode cX11_chance 151 = .ok (.iload_n 1, 1) := by decide +kernel
theorem dX11_chance_152 : decode cX11_chance 152 = .ok (.ifCond .ge 23, 3) := by decide +kernel
theorem dX11_chance_155 : decode cX11_chance 155 = .ok (.lload 5, 2) := by decide +kernel
theorem dX11_chance_157 : decode cX11_chance 157 = .ok (.lload 7, 2) := by decide +kernel
theorem dX11_chance_159 : decode cX11_chance 159 = .ok (.lload 7, 2) := by decide +kernel
theorem dX11_chance_161 : decode cX11_chance 161 = .ok (.lconst 1, 1) := by decide +kernel
theorem dX11_chance_162 : decode cX11_chance 162 = .ok (.lsub, 1) := by decide +kernel
theorem dX11_chance_163 : decode cX11_chance 163 = .ok (.lmul, 1) := by decide +kernel
theorem dX11_chance_164 : decode cX11_chance 164 = .ok (.ldc2_w 254, 3) := by decide +kernel
theorem dX11_chance_167 : decode cX11_chance 167 = .ok (.ldiv, 1) := by decide +kernel
theorem dX11_chance_168 : decode cX11_chance 168 = .ok (.iload_n 2, 1) := by decide +kernel
theorem dX11_chance_169 : decode cX11_chance 169 = .ok (.invokestatic 283, 3) := by decide +kernel
theorem dX11_chance_172 : decode cX11_chance 172 = .ok (.goto 10, 3) := by decide +kernel
theorem dX11_chance_175 : decode cX11_chance 175 = .ok (.lload_n 3, 1) := by decide +kernel
theorem dX11_chance_176 : decode cX11_chance 176 = .ok (.lload 7, 2) := by decide +kernel
theorem dX11_chance_178 : decode cX11_chance 178 = .ok (.iload_n 2, 1) := by decide +kernel
theorem dX11_chance_179 : decode cX11_chance 179 = .ok (.invokestatic 283, 3) := by decide +kernel
theorem dX11_chance_182 : decode cX11_chance 182 = .ok (.lreturn, 1) := by decide +kernel
theorem dX11_bytesIs_0 : decode cX11_bytesIs 0 = .ok (.iload_n 1, 1) := by decide +kernel
theorem dX11_bytesIs_1 : decode cX11_bytesIs 1 = .ok (.invokestatic 119, 3) := by decide +kernel
theorem dX11_bytesIs_4 : decode cX11_bytesIs 4 = .ok (.ifCond .ne 7, 3) := by decide +kernel
theorem dX11_bytesIs_7 : decode cX11_bytesIs 7 = .ok (.iconst (-1), 1) := by decide +kernel
theorem dX11_bytesIs_8 : decode cX11_bytesIs 8 = .ok (.goto 34, 3) := by decide +kernel
theorem dX11_bytesIs_11 : decode cX11_bytesIs 11 = .ok (.aload_n 0, 1) := by decide +kernel
theorem dX11_bytesIs_12 : decode cX11_bytesIs 12 = .ok (.getfield 77, 3) := by decide +kernel
theorem dX11_bytesIs_15 : decode cX11_bytesIs 15 = .ok (.iload_n 1, 1) := by decide +kernel
theorem dX11_bytesIs_16 : decode cX11_bytesIs 16 = .ok (.iaload, 1) := by decide +kernel
theorem dX11_bytesIs_17 : decode cX11_bytesIs 17 = .ok (.ifCond .ge 8, 3) := by decide +kernel
theorem dX11_bytesIs_20 : decode cX11_bytesIs 20 = .ok (.bipush (-11), 2) := by decide +kernel
theorem dX11_bytesIs_22 : decode cX11_bytesIs 22 = .ok (.goto 20, 3) := by decide +kernel
theorem dX11_bytesIs_25 : decode cX11_bytesIs 25 = .ok (.aload_n 0, 1) := by decide +kernel
theorem dX11_bytesIs_26 : decode cX11_bytesIs 26 = .ok (.getfield 77, 3) := by decide +kernel
theorem dX11_bytesIs_29 : decode cX11_bytesIs 29 = .ok (.iload_n 1, 1) := by decide +kernel
theorem dX11_bytesIs_30 : decode cX11_bytesIs 30 = .ok (.iaload, 1) := by decide +kernel
theorem dX11_bytesIs_31 : decode cX11_bytesIs 31 = .ok (.bipush 50, 2) := by decide +kernel
theorem dX11_bytesIs_33 : decode cX11_bytesIs 33 = .ok (.if_icmp .ne 7, 3) := by decide +kernel
theorem dX11_bytesIs_36 : decode cX11_bytesIs 36 = .ok (.iconst 1, 1) := by decide +kernel
theorem dX11_bytesIs_37 : decode cX11_bytesIs 37 = .ok (.goto 5, 3) := by decide +kernel
theorem dX11_bytesIs_40 : decode cX11_bytesIs 40 = .ok (.bipush (-12), 2) := by decide +kernel
theorem dX11_bytesIs_42 : decode cX11_bytesIs 42 = .ok (.ireturn, 1) := by decide +kernel
theorem dX11_firstFalse_0 : decode cX11_firstFalse 0 = .ok (.aload_n 0, 1) := by decide +kernel
theorem dX11_firstFalse_1 : decode cX11_firstFalse 1 = .ok (.invokevirtual 231, 3) := by decide +kernel
theorem dX11_firstFalse_4 : decode cX11_firstFalse 4 = .ok (.iconst 0, 1) := by decide +kernel
theorem dX11_firstFalse_5 : decode cX11_firstFalse 5 = .ok (.istore_n 3, 1) := by decide +kernel
theorem dX11_firstFalse_6 : decode cX11_firstFalse 6 = .ok (.iload_n 3, 1) := by decide +kernel
theorem dX11_firstFalse_7 : decode cX11_firstFalse 7 = .ok (.bipush 41, 2) := by decide +kernel
theorem dX11_firstFalse_9 : decode cX11_firstFalse 9 = .ok (.if_icmp .ge 59, 3) := by decide +kernel
theorem dX11_firstFalse_12 : decode cX11_firstFalse 12 = .ok (.iload_n 3, 1) := by decide +kernel
theorem dX11_firstFalse_13 : decode cX11_firstFalse 13 = .ok (.aload_n 0, 1) := by decide +kernel
theorem dX11_firstFalse_14 : decode cX11_firstFalse 14 = .ok (.getfield 80, 3) := by decide +kernel
theorem dX11_firstFalse_17 : decode cX11_firstFalse 17 = .ok (.iload_n 1, 1) := by decide +kernel
theorem dX11_firstFalse_18 : decode cX11_firstFalse 18 = .ok (.iaload, 1) := by decide +kernel
theorem dX11_firstFalse_19 : decode cX11_firstFalse 19 = .ok (.if_icmp .ge 49, 3) := by decide +kernel
theorem dX11_firstFalse_22 : decode cX11_firstFalse 22 = .ok (.aload_n 0, 1) := by decide +kernel
theorem dX11_firstFalse_23 : decode cX11_firstFalse 23 = .ok (.getfield 83, 3) := by decide +kernel
theorem dX11_firstFalse_26 : decode cX11_firstFalse 26 = .ok (.bipush 60, 2) := by decide +kernel
theorem dX11_firstFalse_28 : decode cX11_firstFalse 28 = .ok (.iload_n 1, 1) := by decide +kernel
theorem dX11_firstFalse_29 : decode cX11_firstFalse 29 = .ok (.imul, 1) := by decide +kernel
theorem dX11_firstFalse_30 : decode cX11_firstFalse 30 = .ok (.iload_n 3, 1) := by decide +kernel
theorem dX11_firstFalse_31 : decode cX11_firstFalse 31 = .ok (.iadd, 1) := by decide +kernel
theorem dX11_firstFalse_32 : decode cX11_firstFalse 32 = .ok (.laload, 1) := by decide +kernel
theorem dX11_firstFalse_33 : decode cX11_firstFalse 33 = .ok (.lstore 4, 2) := by decide +kernel
theorem dX11_firstFalse_35 : decode cX11_firstFalse 35 = .ok (.lload 4, 2) := by decide +kernel
theorem dX11_firstFalse_37 : decode cX11_firstFalse 37 = .ok (.ldc2_w 123, 3) := by decide +kernel
theorem dX11_firstFalse_40 : decode cX11_firstFalse 40 = .ok (.lcmp, 1) := by decide +kernel
theorem dX11_firstFalse_41 : decode cX11_firstFalse 41 = .ok (.ifCond .eq 17, 3) := by decide +kernel
theorem dX11_firstFalse_44 : decode cX11_firstFalse 44 = .ok (.lload 4, 2) := by decide +kernel
theorem dX11_firstFalse_46 : decode cX11_firstFalse 46 = .ok (.aload_n 0, 1) := by decide +kernel
theorem dX11_firstFalse_47 : decode cX11_firstFalse 47 = .ok (.iload_n 2, 1) := by decide +kernel
theorem dX11_firstFalse_48 : decode cX11_firstFalse 48 = .ok (.invokevirtual 219, 3) := by decide +kernel
theorem dX11_firstFalse_51 : decode cX11_firstFalse 51 = .ok (.i2l, 1) := by decide +kernel
theorem dX11_firstFalse_52 : decode cX11_firstFalse 52 = .ok (.lcmp, 1) := by decide +kernel
theorem dX11_firstFalse_53 : decode cX11_firstFalse 53 = .ok (.ifCond .eq 5, 3) := by decide +kernel
theorem dX11_firstFalse_56 : decode cX11_firstFalse 56 = .ok (.iload_n 3, 1) := by decide +kernel
theorem dX11_firstFalse_57 : decode cX11_firstFalse 57 = .ok (.ireturn, 1) := by decide +kernel
theorem dX11_firstFalse_58 : decode cX11_firstFalse 58 = .ok (.aload_n 0, 1) := by decide +kernel
theorem dX11_firstFalse_59 : decode cX11_firstFalse 59 = .ok (.invokevirtual 234, 3) := by decide +kernel
theorem dX11_firstFalse_62 : decode cX11_firstFalse 62 = .ok (.iinc 3 1, 3) := by decide +kernel
theorem dX11_firstFalse_65 : decode cX11_firstFalse 65 = .ok (.goto (-59), 3) := by decide +kernel
theorem dX11_firstFalse_68 : decode cX11_firstFalse 68 = .ok (.bipush (-2), 2) := by decide +kernel
theorem dX11_firstFalse_70 : decode cX11_firstFalse 70 = .ok (.ireturn, 1) := by decide +kernel
theorem dX11_judge_0 : decode cX11_judge 0 = .ok (.aload_n 0, 1) := by decide +kernel
theorem dX11_judge_1 : decode cX11_judge 1 = .ok (.iload_n 1, 1) := by decide +kernel
theorem dX11_judge_2 : decode cX11_judge 2 = .ok (.invokevirtual 287, 3) := by decide +kernel
theorem dX11_judge_5 : decode cX11_judge 5 = .ok (.iconst (-1), 1) := by decide +kernel
theorem dX11_judge_6 : decode cX11_judge 6 = .ok (.if_icmp .eq 12, 3) := by decide +kernel
theorem dX11_judge_9 : decode cX11_judge 9 = .ok (.aload_n 0, 1) := by decide +kernel
theorem dX11_judge_10 : decode cX11_judge 10 = .ok (.iload_n 2, 1) := by decide +kernel
theorem dX11_judge_11 : decode cX11_judge 11 = .ok (.i2l, 1) := by decide +kernel
theorem dX11_judge_12 : decode cX11_judge 12 = .ok (.invokevirtual 127, 3) := by decide +kernel
theorem dX11_judge_15 : decode cX11_judge 15 = .ok (.ifCond .ne 5, 3) := by decide +kernel
theorem dX11_judge_18 : decode cX11_judge 18 = .ok (.iconst (-1), 1) := by decide +kernel
theorem dX11_judge_19 : decode cX11_judge 19 = .ok (.ireturn, 1) := by decide +kernel
theorem dX11_judge_20 : decode cX11_judge 20 = .ok (.aload_n 0, 1) := by decide +kernel
theorem dX11_judge_21 : decode cX11_judge 21 = .ok (.iload_n 1, 1) := by decide +kernel
theorem dX11_judge_22 : decode cX11_judge 22 = .ok (.invokevirtual 287, 3) := by decide +kernel
theorem dX11_judge_25 : decode cX11_judge 25 = .ok (.ifCond .ge 11, 3) := by decide +kernel
theorem dX11_judge_28 : decode cX11_judge 28 = .ok (.aload_n 0, 1) := by decide +kernel
theorem dX11_judge_29 : decode cX11_judge 29 = .ok (.iload_n 1, 1) := by decide +kernel
theorem dX11_judge_30 : decode cX11_judge 30 = .ok (.invokevirtual 287, 3) := by decide +kernel
theorem dX11_judge_33 : decode cX11_judge 33 = .ok (.goto 9, 3) := by decide +kernel
theorem dX11_judge_36 : decode cX11_judge 36 = .ok (.aload_n 0, 1) := by decide +kernel
theorem dX11_judge_37 : decode cX11_judge 37 = .ok (.iload_n 1, 1) := by decide +kernel
theorem dX11_judge_38 : decode cX11_judge 38 = .ok (.iload_n 2, 1) := by decide +kernel
theorem dX11_judge_39 : decode cX11_judge 39 = .ok (.invokevirtual 290, 3) := by decide +kernel
theorem dX11_judge_42 : decode cX11_judge 42 = .ok (.ireturn, 1) := by decide +kernel
theorem dX11_fits_0 : decode cX11_fits 0 = .ok (.aload_n 0, 1) := by decide +kernel
theorem dX11_fits_1 : decode cX11_fits 1 = .ok (.iload_n 1, 1) := by decide +kernel
theorem dX11_fits_2 : decode cX11_fits 2 = .ok (.invokevirtual 287, 3) := by decide +kernel
theorem dX11_fits_5 : decode cX11_fits 5 = .ok (.iconst (-1), 1) := by decide +kernel
theorem dX11_fits_6 : decode cX11_fits 6 = .ok (.if_icmp .eq 22, 3) := by decide +kernel
theorem dX11_fits_9 : decode cX11_fits 9 = .ok (.aload_n 0, 1) := by decide +kernel
theorem dX11_fits_10 : decode cX11_fits 10 = .ok (.iload_n 2, 1) := by decide +kernel
theorem dX11_fits_11 : decode cX11_fits 11 = .ok (.i2l, 1) := by decide +kernel
theorem dX11_fits_12 : decode cX11_fits 12 = .ok (.invokevirtual 127, 3) := by decide +kernel
theorem dX11_fits_15 : decode cX11_fits 15 = .ok (.ifCond .eq 13, 3) := by decide +kernel
theorem dX11_fits_18 : decode cX11_fits 18 = .ok (.iload_n 3, 1) := by decide +kernel
theorem dX11_fits_19 : decode cX11_fits 19 = .ok (.i2l, 1) := by decide +kernel
theorem dX11_fits_20 : decode cX11_fits 20 = .ok (.lconst 0, 1) := by decide +kernel
theorem dX11_fits_21 : decode cX11_fits 21 = .ok (.lconst 1, 1) := by decide +kernel
theorem dX11_fits_22 : decode cX11_fits 22 = .ok (.invokestatic 100, 3) := by decide +kernel
theorem dX11_fits_25 : decode cX11_fits 25 = .ok (.ifCond .ne 5, 3) := by decide +kernel
theorem dX11_fits_28 : decode cX11_fits 28 = .ok (.iconst (-1), 1) := by decide +kernel
theorem dX11_fits_29 : decode cX11_fits 29 = .ok (.ireturn, 1) := by decide +kernel
theorem dX11_fits_30 : decode cX11_fits 30 = .ok (.aload_n 0, 1) := by decide +kernel
theorem dX11_fits_31 : decode cX11_fits 31 = .ok (.iload_n 1, 1) := by decide +kernel
theorem dX11_fits_32 : decode cX11_fits 32 = .ok (.invokevirtual 287, 3) := by decide +kernel
theorem dX11_fits_35 : decode cX11_fits 35 = .ok (.ifCond .ge 9, 3) := by decide +kernel
theorem dX11_fits_38 : decode cX11_fits 38 = .ok (.aload_n 0, 1) := by decide +kernel
theorem dX11_fits_39 : decode cX11_fits 39 = .ok (.iload_n 1, 1) := by decide +kernel
theorem dX11_fits_40 : decode cX11_fits 40 = .ok (.invokevirtual 287, 3) := by decide +kernel
theorem dX11_fits_43 : decode cX11_fits 43 = .ok (.ireturn, 1) := by decide +kernel
theorem dX11_fits_44 : decode cX11_fits 44 = .ok (.iload_n 3, 1) := by decide +kernel
theorem dX11_fits_45 : decode cX11_fits 45 = .ok (.ifCond .ne 10, 3) := by decide +kernel
theorem dX11_fits_48 : decode cX11_fits 48 = .ok (.bipush 10, 2) := by decide +kernel
theorem dX11_fits_50 : decode cX11_fits 50 = .ok (.iload_n 2, 1) := by decide +kernel
theorem dX11_fits_51 : decode cX11_fits 51 = .ok (.iadd, 1) := by decide +kernel
theorem dX11_fits_52 : decode cX11_fits 52 = .ok (.goto 4, 3) := by decide +kernel
theorem dX11_fits_55 : decode cX11_fits 55 = .ok (.iload_n 2, 1) := by decide +kernel
theorem dX11_fits_56 : decode cX11_fits 56 = .ok (.istore 4, 2) := by decide +kernel
theorem dX11_fits_58 : decode cX11_fits 58 = .ok (.aload_n 0, 1) := by decide +kernel
theorem dX11_fits_59 : decode cX11_fits 59 = .ok (.getfield 9, 3) := by decide +kernel
theorem dX11_fits_62 : decode cX11_fits 62 = .ok (.iload 4, 2) := by decide +kernel
theorem dX11_fits_64 : decode cX11_fits 64 = .ok (.iaload, 1) := by decide +kernel
theorem dX11_fits_65 : decode cX11_fits 65 = .ok (.istore 5, 2) := by decide +kernel
theorem dX11_fits_67 : decode cX11_fits 67 = .ok (.iconst 0, 1) := by decide +kernel
theorem dX11_fits_68 : decode cX11_fits 68 = .ok (.istore 6, 2) := by decide +kernel
theorem dX11_fits_70 : decode cX11_fits 70 = .ok (.iconst 0, 1) := by decide +kernel
theorem dX11_fits_71 : decode cX11_fits 71 = .ok (.istore 7, 2) := by decide +kernel
theorem dX11_fits_73 : decode cX11_fits 73 = .ok (.iload 7, 2) := by decide +kernel
theorem dX11_fits_75 : decode cX11_fits 75 = .ok (.iload_n 3, 1) := by decide +kernel
theorem dX11_fits_76 : decode cX11_fits 76 = .ok (.ifCond .ne 8, 3) := by decide +kernel
theorem dX11_fits_79 : decode cX11_fits 79 = .ok (.bipush 16, 2) := by decide +kernel
theorem dX11_fits_81 : decode cX11_fits 81 = .ok (.goto 5, 3) := by decide +kernel
theorem dX11_fits_84 : decode cX11_fits 84 = .ok (.bipush 10, 2) := by decide +kernel
theorem dX11_fits_86 : decode cX11_fits 86 = .ok (.if_icmp .ge 42, 3) := by decide +kernel
theorem dX11_fits_89 : decode cX11_fits 89 = .ok (.aload_n 0, 1) := by decide +kernel
theorem dX11_fits_90 : decode cX11_fits 90 = .ok (.getfield 9, 3) := by decide +kernel
theorem dX11_fits_93 : decode cX11_fits 93 = .ok (.iload 4, 2) := by decide +kernel
theorem dX11_fits_95 : decode cX11_fits 95 = .ok (.iload 7, 2) := by decide +kernel
theorem dX11_fits_97 : decode cX11_fits 97 = .ok (.iastore, 1) := by decide +kernel
theorem dX11_fits_98 : decode cX11_fits 98 = .ok (.iload 6, 2) := by decide +kernel
theorem dX11_fits_100 : decode cX11_fits 100 = .ok (.aload_n 0, 1) := by decide +kernel
theorem dX11_fits_101 : decode cX11_fits 101 = .ok (.iload_n 1, 1) := by decide +kernel
theorem dX11_fits_102 : decode cX11_fits 102 = .ok (.iload_n 2, 1) := by decide +kernel
theorem dX11_fits_103 : decode cX11_fits 103 = .ok (.invokevirtual 290, 3) := by decide +kernel
theorem dX11_fits_106 : decode cX11_fits 106 = .ok (.bipush (-2), 2) := by decide +kernel
theorem dX11_fits_108 : decode cX11_fits 108 = .ok (.if_icmp .ne 10, 3) := by decide +kernel
theorem dX11_fits_111 : decode cX11_fits 111 = .ok (.iconst 1, 1) := by decide +kernel
theorem dX11_fits_112 : decode cX11_fits 112 = .ok (.iload 7, 2) := by decide +kernel
theorem dX11_fits_114 : decode cX11_fits 114 = .ok (.ishl, 1) := by decide +kernel
theorem dX11_fits_115 : decode cX11_fits 115 = .ok (.goto 4, 3) := by decide +kernel
theorem dX11_fits_118 : decode cX11_fits 118 = .ok (.iconst 0, 1) := by decide +kernel
theorem dX11_fits_119 : decode cX11_fits 119 = .ok (.ior, 1) := by decide +kernel
theorem dX11_fits_120 : decode cX11_fits 120 = .ok (.istore 6, 2) := by decide +kernel
theorem dX11_fits_122 : decode cX11_fits 122 = .ok (.iinc 7 1, 3) := by decide +kernel
theorem dX11_fits_125 : decode cX11_fits 125 = .ok (.goto (-52), 3) := by decide +kernel
theorem dX11_fits_128 : decode cX11_fits 128 = .ok (.aload_n 0, 1) := by decide +kernel
theorem dX11_fits_129 : decode cX11_fits 129 = .ok (.getfield 9, 3) := by decide +kernel
theorem dX11_fits_132 : decode cX11_fits 132 = .ok (.iload 4, 2) := by decide +kernel
theorem dX11_fits_134 : decode cX11_fits 134 = .ok (.iload 5, 2) := by decide +kernel
theorem dX11_fits_136 : decode cX11_fits 136 = .ok (.iastore, 1) := by decide +kernel
theorem dX11_fits_137 : decode cX11_fits 137 = .ok (.iload 6, 2) := by decide +kernel
theorem dX11_fits_139 : decode cX11_fits 139 = .ok (.ireturn, 1) := by decide +kernel
theorem dX11_comesTo_0 : decode cX11_comesTo 0 = .ok (.aload_n 0, 1) := by decide +kernel
theorem dX11_comesTo_1 : decode cX11_comesTo 1 = .ok (.invokevirtual 231, 3) := by decide +kernel
theorem dX11_comesTo_4 : decode cX11_comesTo 4 = .ok (.iconst 0, 1) := by decide +kernel
theorem dX11_comesTo_5 : decode cX11_comesTo 5 = .ok (.istore 4, 2) := by decide +kernel
theorem dX11_comesTo_7 : decode cX11_comesTo 7 = .ok (.iload 4, 2) := by decide +kernel
theorem dX11_comesTo_9 : decode cX11_comesTo 9 = .ok (.iload_n 2, 1) := by decide +kernel
theorem dX11_comesTo_10 : decode cX11_comesTo 10 = .ok (.if_icmp .ge 38, 3) := by decide +kernel
theorem dX11_comesTo_13 : decode cX11_comesTo 13 = .ok (.aload_n 0, 1) := by decide +kernel
theorem dX11_comesTo_14 : decode cX11_comesTo 14 = .ok (.iload_n 1, 1) := by decide +kernel
theorem dX11_comesTo_15 : decode cX11_comesTo 15 = .ok (.invokevirtual 228, 3) := by decide +kernel
theorem dX11_comesTo_18 : decode cX11_comesTo 18 = .ok (.aload_n 0, 1) := by decide +kernel
theorem dX11_comesTo_19 : decode cX11_comesTo 19 = .ok (.aload_n 0, 1) := by decide +kernel
theorem dX11_comesTo_20 : decode cX11_comesTo 20 = .ok (.getfield 216, 3) := by decide +kernel
theorem dX11_comesTo_23 : decode cX11_comesTo 23 = .ok (.bipush 99, 2) := by decide +kernel
theorem dX11_comesTo_25 : decode cX11_comesTo 25 = .ok (.if_icmp .ne 8, 3) := by decide +kernel
theorem dX11_comesTo_28 : decode cX11_comesTo 28 = .ok (.bipush 99, 2) := by decide +kernel
theorem dX11_comesTo_30 : decode cX11_comesTo 30 = .ok (.goto 9, 3) := by decide +kernel
theorem dX11_comesTo_33 : decode cX11_comesTo 33 = .ok (.aload_n 0, 1) := by decide +kernel
theorem dX11_comesTo_34 : decode cX11_comesTo 34 = .ok (.getfield 216, 3) := by decide +kernel
theorem dX11_comesTo_37 : decode cX11_comesTo 37 = .ok (.iconst 1, 1) := by decide +kernel
theorem dX11_comesTo_38 : decode cX11_comesTo 38 = .ok (.iadd, 1) := by decide +kernel
theorem dX11_comesTo_39 : decode cX11_comesTo 39 = .ok (.putfield 216, 3) := by decide +kernel
theorem dX11_comesTo_42 : decode cX11_comesTo 42 = .ok (.iinc 4 1, 3) := by decide +kernel
theorem dX11_comesTo_45 : decode cX11_comesTo 45 = .ok (.goto (-38), 3) := by decide +kernel
theorem dX11_comesTo_48 : decode cX11_comesTo 48 = .ok (.aload_n 0, 1) := by decide +kernel
theorem dX11_comesTo_49 : decode cX11_comesTo 49 = .ok (.getfield 49, 3) := by decide +kernel
theorem dX11_comesTo_52 : decode cX11_comesTo 52 = .ok (.iload_n 1, 1) := by decide +kernel
theorem dX11_comesTo_53 : decode cX11_comesTo 53 = .ok (.iaload, 1) := by decide +kernel
theorem dX11_comesTo_54 : decode cX11_comesTo 54 = .ok (.iload_n 3, 1) := by decide +kernel
theorem dX11_comesTo_55 : decode cX11_comesTo 55 = .ok (.if_icmp .ne 7, 3) := by decide +kernel
theorem dX11_comesTo_58 : decode cX11_comesTo 58 = .ok (.iconst 1, 1) := by decide +kernel
theorem dX11_comesTo_59 : decode cX11_comesTo 59 = .ok (.goto 4, 3) := by decide +kernel
theorem dX11_comesTo_62 : decode cX11_comesTo 62 = .ok (.iconst 0, 1) := by decide +kernel
theorem dX11_comesTo_63 : decode cX11_comesTo 63 = .ok (.ireturn, 1) := by decide +kernel
theorem dX11_changed_0 : decode cX11_changed 0 = .ok (.aload_n 0, 1) := by decide +kernel
theorem dX11_changed_1 : decode cX11_changed 1 = .ok (.iload_n 1, 1) := by decide +kernel
theorem dX11_changed_2 : decode cX11_changed 2 = .ok (.i2l, 1) := by decide +kernel
theorem dX11_changed_3 : decode cX11_changed 3 = .ok (.invokevirtual 127, 3) := by decide +kernel
theorem dX11_changed_6 : decode cX11_changed 6 = .ok (.ifCond .eq 32, 3) := by decide +kernel
theorem dX11_changed_9 : decode cX11_changed 9 = .ok (.iload_n 2, 1) := by decide +kernel
theorem dX11_changed_10 : decode cX11_changed 10 = .ok (.ifCond .lt 28, 3) := by decide +kernel
theorem dX11_changed_13 : decode cX11_changed 13 = .ok (.iload_n 2, 1) := by decide +kernel
theorem dX11_changed_14 : decode cX11_changed 14 = .ok (.bipush 16, 2) := by decide +kernel
theorem dX11_changed_16 : decode cX11_changed 16 = .ok (.idiv, 1) := by decide +kernel
theorem dX11_changed_17 : decode cX11_changed 17 = .ok (.i2l, 1) := by decide +kernel
theorem dX11_changed_18 : decode cX11_changed 18 = .ok (.lconst 1, 1) := by decide +kernel
theorem dX11_changed_19 : decode cX11_changed 19 = .ok (.ldc2_w 293, 3) := by decide +kernel
theorem dX11_changed_22 : decode cX11_changed 22 = .ok (.invokestatic 100, 3) := by decide +kernel
theorem dX11_changed_25 : decode cX11_changed 25 = .ok (.ifCond .eq 13, 3) := by decide +kernel
theorem dX11_changed_28 : decode cX11_changed 28 = .ok (.iload_n 3, 1) := by decide +kernel
theorem dX11_changed_29 : decode cX11_changed 29 = .ok (.i2l, 1) := by decide +kernel
theorem dX11_changed_30 : decode cX11_changed 30 = .ok (.lconst 0, 1) := by decide +kernel
theorem dX11_changed_31 : decode cX11_changed 31 = .ok (.lconst 1, 1) := by decide +kernel
theorem dX11_changed_32 : decode cX11_changed 32 = .ok (.invokestatic 100, 3) := by decide +kernel
theorem dX11_changed_35 : decode cX11_changed 35 = .ok (.ifCond .ne 5, 3) := by decide +kernel
theorem dX11_changed_38 : decode cX11_changed 38 = .ok (.iconst (-1), 1) := by decide +kernel
theorem dX11_changed_39 : decode cX11_changed 39 = .ok (.ireturn, 1) := by decide +kernel
theorem dX11_changed_40 : decode cX11_changed 40 = .ok (.iload_n 2, 1) := by decide +kernel
theorem dX11_changed_41 : decode cX11_changed 41 = .ok (.bipush 16, 2) := by decide +kernel
theorem dX11_changed_43 : decode cX11_changed 43 = .ok (.idiv, 1) := by decide +kernel
theorem dX11_changed_44 : decode cX11_changed 44 = .ok (.istore 4, 2) := by decide +kernel
theorem dX11_changed_46 : decode cX11_changed 46 = .ok (.iload_n 2, 1) := by decide +kernel
theorem dX11_changed_47 : decode cX11_changed 47 = .ok (.bipush 16, 2) := by decide +kernel
theorem dX11_changed_49 : decode cX11_changed 49 = .ok (.irem, 1) := by decide +kernel
theorem dX11_changed_50 : decode cX11_changed 50 = .ok (.istore 5, 2) := by decide +kernel
theorem dX11_changed_52 : decode cX11_changed 52 = .ok (.aload_n 0, 1) := by decide +kernel
theorem dX11_changed_53 : decode cX11_changed 53 = .ok (.iload_n 1, 1) := by decide +kernel
theorem dX11_changed_54 : decode cX11_changed 54 = .ok (.iload 4, 2) := by decide +kernel
theorem dX11_changed_56 : decode cX11_changed 56 = .ok (.iload 5, 2) := by decide +kernel
theorem dX11_changed_58 : decode cX11_changed 58 = .ok (.invokevirtual 295, 3) := by decide +kernel
theorem dX11_changed_61 : decode cX11_changed 61 = .ok (.ifCond .eq 15, 3) := by decide +kernel
theorem dX11_changed_64 : decode cX11_changed 64 = .ok (.iload_n 3, 1) := by decide +kernel
theorem dX11_changed_65 : decode cX11_changed 65 = .ok (.ifCond .ne 7, 3) := by decide +kernel
theorem dX11_changed_68 : decode cX11_changed 68 = .ok (.iconst 0, 1) := by decide +kernel
theorem dX11_changed_69 : decode cX11_changed 69 = .ok (.goto 6, 3) := by decide +kernel
theorem dX11_changed_72 : decode cX11_changed 72 = .ok (.sipush 256, 3) := by decide +kernel
theorem dX11_changed_75 : decode cX11_changed 75 = .ok (.ireturn, 1) := by decide +kernel
theorem dX11_changed_76 : decode cX11_changed 76 = .ok (.iconst 0, 1) := by decide +kernel
theorem dX11_changed_77 : decode cX11_changed 77 = .ok (.istore 6, 2) := by decide +kernel
theorem dX11_changed_79 : decode cX11_changed 79 = .ok (.iload 6, 2) := by decide +kernel
theorem dX11_changed_81 : decode cX11_changed 81 = .ok (.bipush 16, 2) := by decide +kernel
theorem dX11_changed_83 : decode cX11_changed 83 = .ok (.if_icmp .ge 109, 3) := by decide +kernel
theorem dX11_changed_86 : decode cX11_changed 86 = .ok (.aload_n 0, 1) := by decide +kernel
theorem dX11_changed_87 : decode cX11_changed 87 = .ok (.getfield 9, 3) := by decide +kernel
theorem dX11_changed_90 : decode cX11_changed 90 = .ok (.bipush 50, 2) := by decide +kernel
theorem dX11_changed_92 : decode cX11_changed 92 = .ok (.iload 6, 2) := by decide +kernel
theorem dX11_changed_94 : decode cX11_changed 94 = .ok (.iadd, 1) := by decide +kernel
theorem dX11_changed_95 : decode cX11_changed 95 = .ok (.iaload, 1) := by decide +kernel
theorem dX11_changed_96 : decode cX11_changed 96 = .ok (.istore 7, 2) := by decide +kernel
theorem dX11_changed_98 : decode cX11_changed 98 = .ok (.iconst 0, 1) := by decide +kernel
theorem dX11_changed_99 : decode cX11_changed 99 = .ok (.istore 8, 2) := by decide +kernel
theorem dX11_changed_101 : decode cX11_changed 101 = .ok (.iload 8, 2) := by decide +kernel
theorem dX11_changed_103 : decode cX11_changed 103 = .ok (.bipush 16, 2) := by decide +kernel
theorem dX11_changed_105 : decode cX11_changed 105 = .ok (.if_icmp .ge 81, 3) := by decide +kernel
theorem dX11_changed_108 : decode cX11_changed 108 = .ok (.aload_n 0, 1) := by decide +kernel
theorem dX11_changed_109 : decode cX11_changed 109 = .ok (.getfield 9, 3) := by decide +kernel
theorem dX11_changed_112 : decode cX11_changed 112 = .ok (.bipush 50, 2) := by decide +kernel
theorem dX11_changed_114 : decode cX11_changed 114 = .ok (.iload 6, 2) := by decide +kernel
theorem dX11_changed_116 : decode cX11_changed 116 = .ok (.iadd, 1) := by decide +kernel
theorem dX11_changed_117 : decode cX11_changed 117 = .ok (.iload 8, 2) := by decide +kernel
theorem dX11_changed_119 : decode cX11_changed 119 = .ok (.iastore, 1) := by decide +kernel
theorem dX11_changed_120 : decode cX11_changed 120 = .ok (.iload 8, 2) := by decide +kernel
theorem dX11_changed_122 : decode cX11_changed 122 = .ok (.iload 7, 2) := by decide +kernel
theorem dX11_changed_124 : decode cX11_changed 124 = .ok (.if_icmp .eq 19, 3) := by decide +kernel
theorem dX11_changed_127 : decode cX11_changed 127 = .ok (.aload_n 0, 1) := by decide +kernel
theorem dX11_changed_128 : decode cX11_changed 128 = .ok (.iload_n 1, 1) := by decide +kernel
theorem dX11_changed_129 : decode cX11_changed 129 = .ok (.iload 4, 2) := by decide +kernel
theorem dX11_changed_131 : decode cX11_changed 131 = .ok (.iload 5, 2) := by decide +kernel
theorem dX11_changed_133 : decode cX11_changed 133 = .ok (.invokevirtual 295, 3) := by decide +kernel
theorem dX11_changed_136 : decode cX11_changed 136 = .ok (.ifCond .eq 7, 3) := by decide +kernel
theorem dX11_changed_139 : decode cX11_changed 139 = .ok (.iconst 1, 1) := by decide +kernel
theorem dX11_changed_140 : decode cX11_changed 140 = .ok (.goto 4, 3) := by decide +kernel
theorem dX11_changed_143 : decode cX11_changed 143 = .ok (.iconst 0, 1) := by decide +kernel
theorem dX11_changed_144 : decode cX11_changed 144 = .ok (.istore 9, 2) := by decide +kernel
theorem dX11_changed_146 : decode cX11_changed 146 = .ok (.aload_n 0, 1) := by decide +kernel
theorem dX11_changed_147 : decode cX11_changed 147 = .ok (.getfield 9, 3) := by decide +kernel
theorem dX11_changed_150 : decode cX11_changed 150 = .ok (.bipush 50, 2) := by decide +kernel
theorem dX11_changed_152 : decode cX11_changed 152 = .ok (.iload 6, 2) := by decide +kernel
theorem dX11_changed_154 : decode cX11_changed 154 = .ok (.iadd, 1) := by decide +kernel
theorem dX11_changed_155 : decode cX11_changed 155 = .ok (.iload 7, 2) := by decide +kernel
theorem dX11_changed_157 : decode cX11_changed 157 = .ok (.iastore, 1) := by decide +kernel
theorem dX11_changed_158 : decode cX11_changed 158 = .ok (.iload 9, 2) := by decide +kernel
theorem dX11_changed_160 : decode cX11_changed 160 = .ok (.ifCond .eq 20, 3) := by decide +kernel
theorem dX11_changed_163 : decode cX11_changed 163 = .ok (.iload_n 3, 1) := by decide +kernel
theorem dX11_changed_164 : decode cX11_changed 164 = .ok (.ifCond .ne 7, 3) := by decide +kernel
theorem dX11_changed_167 : decode cX11_changed 167 = .ok (.iconst 1, 1) := by decide +kernel
theorem dX11_changed_168 : decode cX11_changed 168 = .ok (.goto 11, 3) := by decide +kernel
theorem dX11_changed_171 : decode cX11_changed 171 = .ok (.bipush 16, 2) := by decide +kernel
theorem dX11_changed_173 : decode cX11_changed 173 = .ok (.iload 6, 2) := by decide +kernel
theorem dX11_changed_175 : decode cX11_changed 175 = .ok (.imul, 1) := by decide +kernel
theorem dX11_changed_176 : decode cX11_changed 176 = .ok (.iload 8, 2) := by decide +kernel
theorem dX11_changed_178 : decode cX11_changed 178 = .ok (.iadd, 1) := by decide +kernel
theorem dX11_changed_179 : decode cX11_changed 179 = .ok (.ireturn, 1) := by decide +kernel
theorem dX11_changed_180 : decode cX11_changed 180 = .ok (.iinc 8 1, 3) := by decide +kernel
theorem dX11_changed_183 : decode cX11_changed 183 = .ok (.goto (-82), 3) := by decide +kernel
theorem dX11_changed_186 : decode cX11_changed 186 = .ok (.iinc 6 1, 3) := by decide +kernel
theorem dX11_changed_189 : decode cX11_changed 189 = .ok (.goto (-110), 3) := by decide +kernel
theorem dX11_changed_192 : decode cX11_changed 192 = .ok (.bipush (-2), 2) := by decide +kernel
theorem dX11_changed_194 : decode cX11_changed 194 = .ok (.ireturn, 1) := by decide +kernel
theorem dX11_playsFrom_0 : decode cX11_playsFrom 0 = .ok (.iload_n 1, 1) := by decide +kernel
theorem dX11_playsFrom_1 : decode cX11_playsFrom 1 = .ok (.iload_n 2, 1) := by decide +kernel
theorem dX11_playsFrom_2 : decode cX11_playsFrom 2 = .ok (.if_icmp .eq 14, 3) := by decide +kernel
theorem dX11_playsFrom_5 : decode cX11_playsFrom 5 = .ok (.iload_n 3, 1) := by decide +kernel
theorem dX11_playsFrom_6 : decode cX11_playsFrom 6 = .ok (.invokestatic 248, 3) := by decide +kernel
theorem dX11_playsFrom_9 : decode cX11_playsFrom 9 = .ok (.aload_n 0, 1) := by decide +kernel
theorem dX11_playsFrom_10 : decode cX11_playsFrom 10 = .ok (.getfield 97, 3) := by decide +kernel
theorem dX11_playsFrom_13 : decode cX11_playsFrom 13 = .ok (.if_icmp .ne 5, 3) := by decide +kernel
theorem dX11_playsFrom_16 : decode cX11_playsFrom 16 = .ok (.iconst 0, 1) := by decide +kernel
theorem dX11_playsFrom_17 : decode cX11_playsFrom 17 = .ok (.ireturn, 1) := by decide +kernel
theorem dX11_playsFrom_18 : decode cX11_playsFrom 18 = .ok (.iload_n 1, 1) := by decide +kernel
theorem dX11_playsFrom_19 : decode cX11_playsFrom 19 = .ok (.iconst 2, 1) := by decide +kernel
theorem dX11_playsFrom_20 : decode cX11_playsFrom 20 = .ok (.irem, 1) := by decide +kernel
theorem dX11_playsFrom_21 : decode cX11_playsFrom 21 = .ok (.ifCond .ne 9, 3) := by decide +kernel
theorem dX11_playsFrom_24 : decode cX11_playsFrom 24 = .ok (.ldc_w 299, 3) := by decide +kernel
theorem dX11_playsFrom_27 : decode cX11_playsFrom 27 = .ok (.goto 6, 3) := by decide +kernel
theorem dX11_playsFrom_30 : decode cX11_playsFrom 30 = .ok (.ldc_w 300, 3) := by decide +kernel
theorem dX11_playsFrom_33 : decode cX11_playsFrom 33 = .ok (.istore 4, 2) := by decide +kernel
theorem dX11_playsFrom_35 : decode cX11_playsFrom 35 = .ok (.iconst 0, 1) := by decide +kernel
theorem dX11_playsFrom_36 : decode cX11_playsFrom 36 = .ok (.istore 5, 2) := by decide +kernel
theorem dX11_playsFrom_38 : decode cX11_playsFrom 38 = .ok (.iload 5, 2) := by decide +kernel
theorem dX11_playsFrom_40 : decode cX11_playsFrom 40 = .ok (.aload_n 0, 1) := by decide +kernel
theorem dX11_playsFrom_41 : decode cX11_playsFrom 41 = .ok (.getfield 97, 3) := by decide +kernel
theorem dX11_playsFrom_44 : decode cX11_playsFrom 44 = .ok (.if_icmp .ge 96, 3) := by decide +kernel
theorem dX11_playsFrom_47 : decode cX11_playsFrom 47 = .ok (.iload_n 3, 1) := by decide +kernel
theorem dX11_playsFrom_48 : decode cX11_playsFrom 48 = .ok (.iload 5, 2) := by decide +kernel
theorem dX11_playsFrom_50 : decode cX11_playsFrom 50 = .ok (.invokestatic 261, 3) := by decide +kernel
theorem dX11_playsFrom_53 : decode cX11_playsFrom 53 = .ok (.ifCond .ne 81, 3) := by decide +kernel
theorem dX11_playsFrom_56 : decode cX11_playsFrom 56 = .ok (.iload_n 1, 1) := by decide +kernel
theorem dX11_playsFrom_57 : decode cX11_playsFrom 57 = .ok (.iconst 2, 1) := by decide +kernel
theorem dX11_playsFrom_58 : decode cX11_playsFrom 58 = .ok (.irem, 1) := by decide +kernel
theorem dX11_playsFrom_59 : decode cX11_playsFrom 59 = .ok (.ifCond .ne 12, 3) := by decide +kernel
theorem dX11_playsFrom_62 : decode cX11_playsFrom 62 = .ok (.aload_n 0, 1) := by decide +kernel
theorem dX11_playsFrom_63 : decode cX11_playsFrom 63 = .ok (.iload 5, 2) := by decide +kernel
theorem dX11_playsFrom_65 : decode cX11_playsFrom 65 = .ok (.invokevirtual 219, 3) := by decide +kernel
theorem dX11_playsFrom_68 : decode cX11_playsFrom 68 = .ok (.goto 10, 3) := by decide +kernel
theorem dX11_playsFrom_71 : decode cX11_playsFrom 71 = .ok (.aload_n 0, 1) := by decide +kernel
theorem dX11_playsFrom_72 : decode cX11_playsFrom 72 = .ok (.iload 5, 2) := by decide +kernel
theorem dX11_playsFrom_74 : decode cX11_playsFrom 74 = .ok (.invokevirtual 219, 3) := by decide +kernel
theorem dX11_playsFrom_77 : decode cX11_playsFrom 77 = .ok (.ineg, 1) := by decide +kernel
theorem dX11_playsFrom_78 : decode cX11_playsFrom 78 = .ok (.aload_n 0, 1) := by decide +kernel
theorem dX11_playsFrom_79 : decode cX11_playsFrom 79 = .ok (.iload_n 1, 1) := by decide +kernel
theorem dX11_playsFrom_80 : decode cX11_playsFrom 80 = .ok (.iconst 1, 1) := by decide +kernel
theorem dX11_playsFrom_81 : decode cX11_playsFrom 81 = .ok (.iadd, 1) := by decide +kernel
theorem dX11_playsFrom_82 : decode cX11_playsFrom 82 = .ok (.iload_n 2, 1) := by decide +kernel
theorem dX11_playsFrom_83 : decode cX11_playsFrom 83 = .ok (.iload_n 3, 1) := by decide +kernel
theorem dX11_playsFrom_84 : decode cX11_playsFrom 84 = .ok (.iconst 1, 1) := by decide +kernel
theorem dX11_playsFrom_85 : decode cX11_playsFrom 85 = .ok (.iload 5, 2) := by decide +kernel
theorem dX11_playsFrom_87 : decode cX11_playsFrom 87 = .ok (.ishl, 1) := by decide +kernel
theorem dX11_playsFrom_88 : decode cX11_playsFrom 88 = .ok (.ior, 1) := by decide +kernel
theorem dX11_playsFrom_89 : decode cX11_playsFrom 89 = .ok (.invokevirtual 301, 3) := by decide +kernel
theorem dX11_playsFrom_92 : decode cX11_playsFrom 92 = .ok (.iadd, 1) := by decide +kernel
theorem dX11_playsFrom_93 : decode cX11_playsFrom 93 = .ok (.istore 6, 2) := by decide +kernel
theorem dX11_playsFrom_95 : decode cX11_playsFrom 95 = .ok (.iload_n 1, 1) := by decide +kernel
theorem dX11_playsFrom_96 : decode cX11_playsFrom 96 = .ok (.iconst 2, 1) := by decide +kernel
theorem dX11_playsFrom_97 : decode cX11_playsFrom 97 = .ok (.irem, 1) := by decide +kernel
theorem dX11_playsFrom_98 : decode cX11_playsFrom 98 = .ok (.ifCond .ne 20, 3) := by decide +kernel
theorem dX11_playsFrom_101 : decode cX11_playsFrom 101 = .ok (.iload 6, 2) := by decide +kernel
theorem dX11_playsFrom_103 : decode cX11_playsFrom 103 = .ok (.iload 4, 2) := by decide +kernel
theorem dX11_playsFrom_105 : decode cX11_playsFrom 105 = .ok (.if_icmp .le 8, 3) := by decide +kernel
theorem dX11_playsFrom_108 : decode cX11_playsFrom 108 = .ok (.iload 6, 2) := by decide +kernel
theorem dX11_playsFrom_110 : decode cX11_playsFrom 110 = .ok (.goto 22, 3) := by decide +kernel
theorem dX11_playsFrom_113 : decode cX11_playsFrom 113 = .ok (.iload 4, 2) := by decide +kernel
theorem dX11_playsFrom_115 : decode cX11_playsFrom 115 = .ok (.goto 17, 3) := by decide +kernel
theorem dX11_playsFrom_118 : decode cX11_playsFrom 118 = .ok (.iload 6, 2) := by decide +kernel
theorem dX11_playsFrom_120 : decode cX11_playsFrom 120 = .ok (.iload 4, 2) := by decide +kernel
theorem dX11_playsFrom_122 : decode cX11_playsFrom 122 = .ok (.if_icmp .ge 8, 3) := by decide +kernel
theorem dX11_playsFrom_125 : decode cX11_playsFrom 125 = .ok (.iload 6, 2) := by decide +kernel
theorem dX11_playsFrom_127 : decode cX11_playsFrom 127 = .ok (.goto 5, 3) := by decide +kernel
theorem dX11_playsFrom_130 : decode cX11_playsFrom 130 = .ok (.iload 4, 2) := by decide +kernel
theorem dX11_playsFrom_132 : decode cX11_playsFrom 132 = .ok (.istore 4, 2) := by decide +kernel
theorem dX11_playsFrom_134 : decode cX11_playsFrom 134 = .ok (.iinc 5 1, 3) := by decide +kernel
theorem dX11_playsFrom_137 : decode cX11_playsFrom 137 = .ok (.goto (-99), 3) := by decide +kernel
theorem dX11_playsFrom_140 : decode cX11_playsFrom 140 = .ok (.iload 4, 2) := by decide +kernel
theorem dX11_playsFrom_142 : decode cX11_playsFrom 142 = .ok (.ireturn, 1) := by decide +kernel
theorem dX11_byTurns_0 : decode cX11_byTurns 0 = .ok (.iload_n 1, 1) := by decide +kernel
theorem dX11_byTurns_1 : decode cX11_byTurns 1 = .ok (.i2l, 1) := by decide +kernel
theorem dX11_byTurns_2 : decode cX11_byTurns 2 = .ok (.lconst 1, 1) := by decide +kernel
theorem dX11_byTurns_3 : decode cX11_byTurns 3 = .ok (.ldc2_w 125, 3) := by decide +kernel
theorem dX11_byTurns_6 : decode cX11_byTurns 6 = .ok (.invokestatic 100, 3) := by decide +kernel
theorem dX11_byTurns_9 : decode cX11_byTurns 9 = .ok (.ifCond .eq 13, 3) := by decide +kernel
theorem dX11_byTurns_12 : decode cX11_byTurns 12 = .ok (.iload_n 2, 1) := by decide +kernel
theorem dX11_byTurns_13 : decode cX11_byTurns 13 = .ok (.i2l, 1) := by decide +kernel
theorem dX11_byTurns_14 : decode cX11_byTurns 14 = .ok (.lconst 0, 1) := by decide +kernel
theorem dX11_byTurns_15 : decode cX11_byTurns 15 = .ok (.lconst 1, 1) := by decide +kernel
theorem dX11_byTurns_16 : decode cX11_byTurns 16 = .ok (.invokestatic 100, 3) := by decide +kernel
theorem dX11_byTurns_19 : decode cX11_byTurns 19 = .ok (.ifCond .ne 7, 3) := by decide +kernel
theorem dX11_byTurns_22 : decode cX11_byTurns 22 = .ok (.ldc_w 304, 3) := by decide +kernel
theorem dX11_byTurns_25 : decode cX11_byTurns 25 = .ok (.ireturn, 1) := by decide +kernel
theorem dX11_byTurns_26 : decode cX11_byTurns 26 = .ok (.aload_n 0, 1) := by decide +kernel
theorem dX11_byTurns_27 : decode cX11_byTurns 27 = .ok (.invokevirtual 231, 3) := by decide +kernel
theorem dX11_byTurns_30 : decode cX11_byTurns 30 = .ok (.iconst 0, 1) := by decide +kernel
theorem dX11_byTurns_31 : decode cX11_byTurns 31 = .ok (.istore_n 3, 1) := by decide +kernel
theorem dX11_byTurns_32 : decode cX11_byTurns 32 = .ok (.iconst 0, 1) := by decide +kernel
theorem dX11_byTurns_33 : decode cX11_byTurns 33 = .ok (.istore 4, 2) := by decide +kernel
theorem dX11_byTurns_35 : decode cX11_byTurns 35 = .ok (.iload 4, 2) := by decide +kernel
theorem dX11_byTurns_37 : decode cX11_byTurns 37 = .ok (.aload_n 0, 1) := by decide +kernel
theorem dX11_byTurns_38 : decode cX11_byTurns 38 = .ok (.getfield 97, 3) := by decide +kernel
theorem dX11_byTurns_41 : decode cX11_byTurns 41 = .ok (.if_icmp .ge 30, 3) := by decide +kernel
theorem dX11_byTurns_44 : decode cX11_byTurns 44 = .ok (.iload_n 3, 1) := by decide +kernel
theorem dX11_byTurns_45 : decode cX11_byTurns 45 = .ok (.aload_n 0, 1) := by decide +kernel
theorem dX11_byTurns_46 : decode cX11_byTurns 46 = .ok (.getfield 52, 3) := by decide +kernel
theorem dX11_byTurns_49 : decode cX11_byTurns 49 = .ok (.iload 4, 2) := by decide +kernel
theorem dX11_byTurns_51 : decode cX11_byTurns 51 = .ok (.baload, 1) := by decide +kernel
theorem dX11_byTurns_52 : decode cX11_byTurns 52 = .ok (.ifCond .eq 10, 3) := by decide +kernel
theorem dX11_byTurns_55 : decode cX11_byTurns 55 = .ok (.iconst 1, 1) := by decide +kernel
theorem dX11_byTurns_56 : decode cX11_byTurns 56 = .ok (.iload 4, 2) := by decide +kernel
theorem dX11_byTurns_58 : decode cX11_byTurns 58 = .ok (.ishl, 1) := by decide +kernel
theorem dX11_byTurns_59 : decode cX11_byTurns 59 = .ok (.goto 4, 3) := by decide +kernel
theorem dX11_byTurns_62 : decode cX11_byTurns 62 = .ok (.iconst 0, 1) := by decide +kernel
theorem dX11_byTurns_63 : decode cX11_byTurns 63 = .ok (.ior, 1) := by decide +kernel
theorem dX11_byTurns_64 : decode cX11_byTurns 64 = .ok (.istore_n 3, 1) := by decide +kernel
theorem dX11_byTurns_65 : decode cX11_byTurns 65 = .ok (.iinc 4 1, 3) := by decide +kernel
theorem dX11_byTurns_68 : decode cX11_byTurns 68 = .ok (.goto (-33), 3) := by decide +kernel
theorem dX11_byTurns_71 : decode cX11_byTurns 71 = .ok (.aload_n 0, 1) := by decide +kernel
theorem dX11_byTurns_72 : decode cX11_byTurns 72 = .ok (.iconst 0, 1) := by decide +kernel
theorem dX11_byTurns_73 : decode cX11_byTurns 73 = .ok (.iload_n 1, 1) := by decide +kernel
theorem dX11_byTurns_74 : decode cX11_byTurns 74 = .ok (.iload_n 3, 1) := by decide +kernel
theorem dX11_byTurns_75 : decode cX11_byTurns 75 = .ok (.invokevirtual 301, 3) := by decide +kernel
theorem dX11_byTurns_78 : decode cX11_byTurns 78 = .ok (.istore 4, 2) := by decide +kernel
theorem dX11_byTurns_80 : decode cX11_byTurns 80 = .ok (.iload_n 2, 1) := by decide +kernel
theorem dX11_byTurns_81 : decode cX11_byTurns 81 = .ok (.ifCond .ne 6, 3) := by decide +kernel
theorem dX11_byTurns_84 : decode cX11_byTurns 84 = .ok (.iload 4, 2) := by decide +kernel
theorem dX11_byTurns_86 : decode cX11_byTurns 86 = .ok (.ireturn, 1) := by decide +kernel
theorem dX11_byTurns_87 : decode cX11_byTurns 87 = .ok (.bipush 10, 2) := by decide +kernel
theorem dX11_byTurns_89 : decode cX11_byTurns 89 = .ok (.istore 5, 2) := by decide +kernel
theorem dX11_byTurns_91 : decode cX11_byTurns 91 = .ok (.aload_n 0, 1) := by decide +kernel
theorem dX11_byTurns_92 : decode cX11_byTurns 92 = .ok (.getfield 97, 3) := by decide +kernel
theorem dX11_byTurns_95 : decode cX11_byTurns 95 = .ok (.iconst 1, 1) := by decide +kernel
theorem dX11_byTurns_96 : decode cX11_byTurns 96 = .ok (.isub, 1) := by decide +kernel
theorem dX11_byTurns_97 : decode cX11_byTurns 97 = .ok (.istore 6, 2) := by decide +kernel
theorem dX11_byTurns_99 : decode cX11_byTurns 99 = .ok (.iload 6, 2) := by decide +kernel
theorem dX11_byTurns_101 : decode cX11_byTurns 101 = .ok (.ifCond .lt 51, 3) := by decide +kernel
theorem dX11_byTurns_104 : decode cX11_byTurns 104 = .ok (.iload_n 3, 1) := by decide +kernel
theorem dX11_byTurns_105 : decode cX11_byTurns 105 = .ok (.iload 6, 2) := by decide +kernel
theorem dX11_byTurns_107 : decode cX11_byTurns 107 = .ok (.invokestatic 261, 3) := by decide +kernel
theorem dX11_byTurns_110 : decode cX11_byTurns 110 = .ok (.ifCond .ne 32, 3) := by decide +kernel
theorem dX11_byTurns_113 : decode cX11_byTurns 113 = .ok (.aload_n 0, 1) := by decide +kernel
theorem dX11_byTurns_114 : decode cX11_byTurns 114 = .ok (.iload 6, 2) := by decide +kernel
theorem dX11_byTurns_116 : decode cX11_byTurns 116 = .ok (.invokevirtual 219, 3) := by decide +kernel
theorem dX11_byTurns_119 : decode cX11_byTurns 119 = .ok (.aload_n 0, 1) := by decide +kernel
theorem dX11_byTurns_120 : decode cX11_byTurns 120 = .ok (.iconst 1, 1) := by decide +kernel
theorem dX11_byTurns_121 : decode cX11_byTurns 121 = .ok (.iload_n 1, 1) := by decide +kernel
theorem dX11_byTurns_122 : decode cX11_byTurns 122 = .ok (.iload_n 3, 1) := by decide +kernel
theorem dX11_byTurns_123 : decode cX11_byTurns 123 = .ok (.iconst 1, 1) := by decide +kernel
theorem dX11_byTurns_124 : decode cX11_byTurns 124 = .ok (.iload 6, 2) := by decide +kernel
theorem dX11_byTurns_126 : decode cX11_byTurns 126 = .ok (.ishl, 1) := by decide +kernel
theorem dX11_byTurns_127 : decode cX11_byTurns 127 = .ok (.ior, 1) := by decide +kernel
theorem dX11_byTurns_128 : decode cX11_byTurns 128 = .ok (.invokevirtual 301, 3) := by decide +kernel
theorem dX11_byTurns_131 : decode cX11_byTurns 131 = .ok (.iadd, 1) := by decide +kernel
theorem dX11_byTurns_132 : decode cX11_byTurns 132 = .ok (.iload 4, 2) := by decide +kernel
theorem dX11_byTurns_134 : decode cX11_byTurns 134 = .ok (.if_icmp .ne 8, 3) := by decide +kernel
theorem dX11_byTurns_137 : decode cX11_byTurns 137 = .ok (.iload 6, 2) := by decide +kernel
theorem dX11_byTurns_139 : decode cX11_byTurns 139 = .ok (.goto 5, 3) := by decide +kernel
theorem dX11_byTurns_142 : decode cX11_byTurns 142 = .ok (.iload 5, 2) := by decide +kernel
theorem dX11_byTurns_144 : decode cX11_byTurns 144 = .ok (.istore 5, 2) := by decide +kernel
theorem dX11_byTurns_146 : decode cX11_byTurns 146 = .ok (.iinc 6 (-1), 3) := by decide +kernel
theorem dX11_byTurns_149 : decode cX11_byTurns 149 = .ok (.goto (-50), 3) := by decide +kernel
theorem dX11_byTurns_152 : decode cX11_byTurns 152 = .ok (.iload 5, 2) := by decide +kernel
theorem dX11_byTurns_154 : decode cX11_byTurns 154 = .ok (.ireturn, 1) := by decide +kernel
theorem dX11_drawn_0 : decode cX11_drawn 0 = .ok (.iload_n 2, 1) := by decide +kernel
theorem dX11_drawn_1 : decode cX11_drawn 1 = .ok (.ifCond .lt 66, 3) := by decide +kernel
theorem dX11_drawn_4 : decode cX11_drawn 4 = .ok (.iload_n 2, 1) := by decide +kernel
theorem dX11_drawn_5 : decode cX11_drawn 5 = .ok (.sipush 10000, 3) := by decide +kernel
theorem dX11_drawn_8 : decode cX11_drawn 8 = .ok (.idiv, 1) := by decide +kernel
theorem dX11_drawn_9 : decode cX11_drawn 9 = .ok (.i2l, 1) := by decide +kernel
theorem dX11_drawn_10 : decode cX11_drawn 10 = .ok (.lconst 1, 1) := by decide +kernel
theorem dX11_drawn_11 : decode cX11_drawn 11 = .ok (.ldc2_w 305, 3) := by decide +kernel
theorem dX11_drawn_14 : decode cX11_drawn 14 = .ok (.invokestatic 100, 3) := by decide +kernel
theorem dX11_drawn_17 : decode cX11_drawn 17 = .ok (.ifCond .eq 50, 3) := by decide +kernel
theorem dX11_drawn_20 : decode cX11_drawn 20 = .ok (.iload_n 2, 1) := by decide +kernel
theorem dX11_drawn_21 : decode cX11_drawn 21 = .ok (.bipush 100, 2) := by decide +kernel
theorem dX11_drawn_23 : decode cX11_drawn 23 = .ok (.idiv, 1) := by decide +kernel
theorem dX11_drawn_24 : decode cX11_drawn 24 = .ok (.bipush 100, 2) := by decide +kernel
theorem dX11_drawn_26 : decode cX11_drawn 26 = .ok (.irem, 1) := by decide +kernel
theorem dX11_drawn_27 : decode cX11_drawn 27 = .ok (.i2l, 1) := by decide +kernel
theorem dX11_drawn_28 : decode cX11_drawn 28 = .ok (.lconst 1, 1) := by decide +kernel
theorem dX11_drawn_29 : decode cX11_drawn 29 = .ok (.ldc2_w 237, 3) := by decide +kernel
theorem dX11_drawn_32 : decode cX11_drawn 32 = .ok (.invokestatic 100, 3) := by decide +kernel
theorem dX11_drawn_35 : decode cX11_drawn 35 = .ok (.ifCond .eq 32, 3) := by decide +kernel
theorem dX11_drawn_38 : decode cX11_drawn 38 = .ok (.iload_n 2, 1) := by decide +kernel
theorem dX11_drawn_39 : decode cX11_drawn 39 = .ok (.bipush 100, 2) := by decide +kernel
theorem dX11_drawn_41 : decode cX11_drawn 41 = .ok (.irem, 1) := by decide +kernel
theorem dX11_drawn_42 : decode cX11_drawn 42 = .ok (.i2l, 1) := by decide +kernel
theorem dX11_drawn_43 : decode cX11_drawn 43 = .ok (.lconst 0, 1) := by decide +kernel
theorem dX11_drawn_44 : decode cX11_drawn 44 = .ok (.ldc2_w 307, 3) := by decide +kernel
theorem dX11_drawn_47 : decode cX11_drawn 47 = .ok (.invokestatic 100, 3) := by decide +kernel
theorem dX11_drawn_50 : decode cX11_drawn 50 = .ok (.ifCond .eq 17, 3) := by decide +kernel
theorem dX11_drawn_53 : decode cX11_drawn 53 = .ok (.iload_n 3, 1) := by decide +kernel
theorem dX11_drawn_54 : decode cX11_drawn 54 = .ok (.iconst (-1), 1) := by decide +kernel
theorem dX11_drawn_55 : decode cX11_drawn 55 = .ok (.if_icmp .eq 14, 3) := by decide +kernel
theorem dX11_drawn_58 : decode cX11_drawn 58 = .ok (.aload_n 0, 1) := by decide +kernel
theorem dX11_drawn_59 : decode cX11_drawn 59 = .ok (.iload_n 3, 1) := by decide +kernel
theorem dX11_drawn_60 : decode cX11_drawn 60 = .ok (.i2l, 1) := by decide +kernel
theorem dX11_drawn_61 : decode cX11_drawn 61 = .ok (.invokevirtual 127, 3) := by decide +kernel
theorem dX11_drawn_64 : decode cX11_drawn 64 = .ok (.ifCond .ne 5, 3) := by decide +kernel
theorem dX11_drawn_67 : decode cX11_drawn 67 = .ok (.iconst (-1), 1) := by decide +kernel
theorem dX11_drawn_68 : decode cX11_drawn 68 = .ok (.ireturn, 1) := by decide +kernel
theorem dX11_drawn_69 : decode cX11_drawn 69 = .ok (.iload_n 1, 1) := by decide +kernel
theorem dX11_drawn_70 : decode cX11_drawn 70 = .ok (.istore 4, 2) := by decide +kernel
theorem dX11_drawn_72 : decode cX11_drawn 72 = .ok (.iconst 0, 1) := by decide +kernel
theorem dX11_drawn_73 : decode cX11_drawn 73 = .ok (.istore 5, 2) := by decide +kernel
theorem dX11_drawn_75 : decode cX11_drawn 75 = .ok (.iconst 0, 1) := by decide +kernel
theorem dX11_drawn_76 : decode cX11_drawn 76 = .ok (.istore 6, 2) := by decide +kernel
theorem dX11_drawn_78 : decode cX11_drawn 78 = .ok (.iconst 0, 1) := by decide +kernel
theorem dX11_drawn_79 : decode cX11_drawn 79 = .ok (.istore 7, 2) := by decide +kernel
theorem dX11_drawn_81 : decode cX11_drawn 81 = .ok (.iload 7, 2) := by decide +kernel
theorem dX11_drawn_83 : decode cX11_drawn 83 = .ok (.iload_n 2, 1) := by decide +kernel
theorem dX11_drawn_84 : decode cX11_drawn 84 = .ok (.sipush 10000, 3) := by decide +kernel
theorem dX11_drawn_87 : decode cX11_drawn 87 = .ok (.idiv, 1) := by decide +kernel
theorem dX11_drawn_88 : decode cX11_drawn 88 = .ok (.if_icmp .ge 157, 3) := by decide +kernel
theorem dX11_drawn_91 : decode cX11_drawn 91 = .ok (.aload_n 0, 1) := by decide +kernel
theorem dX11_drawn_92 : decode cX11_drawn 92 = .ok (.invokevirtual 231, 3) := by decide +kernel
theorem dX11_drawn_95 : decode cX11_drawn 95 = .ok (.iconst 0, 1) := by decide +kernel
theorem dX11_drawn_96 : decode cX11_drawn 96 = .ok (.istore 8, 2) := by decide +kernel
theorem dX11_drawn_98 : decode cX11_drawn 98 = .ok (.iload 8, 2) := by decide +kernel
theorem dX11_drawn_100 : decode cX11_drawn 100 = .ok (.iload_n 2, 1) := by decide +kernel
theorem dX11_drawn_101 : decode cX11_drawn 101 = .ok (.bipush 100, 2) := by decide +kernel
theorem dX11_drawn_103 : decode cX11_drawn 103 = .ok (.idiv, 1) := by decide +kernel
theorem dX11_drawn_104 : decode cX11_drawn 104 = .ok (.bipush 100, 2) := by decide +kernel
theorem dX11_drawn_106 : decode cX11_drawn 106 = .ok (.irem, 1) := by decide +kernel
theorem dX11_drawn_107 : decode cX11_drawn 107 = .ok (.if_icmp .ge 109, 3) := by decide +kernel
theorem dX11_drawn_110 : decode cX11_drawn 110 = .ok (.iload 4, 2) := by decide +kernel
theorem dX11_drawn_112 : decode cX11_drawn 112 = .ok (.ldc_w 309, 3) := by decide +kernel
theorem dX11_drawn_115 : decode cX11_drawn 115 = .ok (.imul, 1) := by decide +kernel
theorem dX11_drawn_116 : decode cX11_drawn 116 = .ok (.sipush 12345, 3) := by decide +kernel
theorem dX11_drawn_119 : decode cX11_drawn 119 = .ok (.iadd, 1) := by decide +kernel
theorem dX11_drawn_120 : decode cX11_drawn 120 = .ok (.istore 4, 2) := by decide +kernel
theorem dX11_drawn_122 : decode cX11_drawn 122 = .ok (.aload_n 0, 1) := by decide +kernel
theorem dX11_drawn_123 : decode cX11_drawn 123 = .ok (.getfield 97, 3) := by decide +kernel
theorem dX11_drawn_126 : decode cX11_drawn 126 = .ok (.ifCond .ne 7, 3) := by decide +kernel
theorem dX11_drawn_129 : decode cX11_drawn 129 = .ok (.iconst 0, 1) := by decide +kernel
theorem dX11_drawn_130 : decode cX11_drawn 130 = .ok (.goto 13, 3) := by decide +kernel
theorem dX11_drawn_133 : decode cX11_drawn 133 = .ok (.iload 4, 2) := by decide +kernel
theorem dX11_drawn_135 : decode cX11_drawn 135 = .ok (.bipush 8, 2) := by decide +kernel
theorem dX11_drawn_137 : decode cX11_drawn 137 = .ok (.iushr, 1) := by decide +kernel
theorem dX11_drawn_138 : decode cX11_drawn 138 = .ok (.aload_n 0, 1) := by decide +kernel
theorem dX11_drawn_139 : decode cX11_drawn 139 = .ok (.getfield 97, 3) := by decide +kernel
theorem dX11_drawn_142 : decode cX11_drawn 142 = .ok (.irem, 1) := by decide +kernel
theorem dX11_drawn_143 : decode cX11_drawn 143 = .ok (.istore 9, 2) := by decide +kernel
theorem dX11_drawn_145 : decode cX11_drawn 145 = .ok (.aload_n 0, 1) := by decide +kernel
theorem dX11_drawn_146 : decode cX11_drawn 146 = .ok (.getfield 97, 3) := by decide +kernel
theorem dX11_drawn_149 : decode cX11_drawn 149 = .ok (.ifCond .le 57, 3) := by decide +kernel
theorem dX11_drawn_152 : decode cX11_drawn 152 = .ok (.aload_n 0, 1) := by decide +kernel
theorem dX11_drawn_153 : decode cX11_drawn 153 = .ok (.getfield 52, 3) := by decide +kernel
theorem dX11_drawn_156 : decode cX11_drawn 156 = .ok (.iload 9, 2) := by decide +kernel
theorem dX11_drawn_158 : decode cX11_drawn 158 = .ok (.baload, 1) := by decide +kernel
theorem dX11_drawn_159 : decode cX11_drawn 159 = .ok (.ifCond .ne 47, 3) := by decide +kernel
theorem dX11_drawn_162 : decode cX11_drawn 162 = .ok (.iload 4, 2) := by decide +kernel
theorem dX11_drawn_164 : decode cX11_drawn 164 = .ok (.bipush 16, 2) := by decide +kernel
theorem dX11_drawn_166 : decode cX11_drawn 166 = .ok (.iushr, 1) := by decide +kernel
theorem dX11_drawn_167 : decode cX11_drawn 167 = .ok (.bipush 12, 2) := by decide +kernel
theorem dX11_drawn_169 : decode cX11_drawn 169 = .ok (.irem, 1) := by decide +kernel
theorem dX11_drawn_170 : decode cX11_drawn 170 = .ok (.iload_n 2, 1) := by decide +kernel
theorem dX11_drawn_171 : decode cX11_drawn 171 = .ok (.bipush 100, 2) := by decide +kernel
theorem dX11_drawn_173 : decode cX11_drawn 173 = .ok (.irem, 1) := by decide +kernel
theorem dX11_drawn_174 : decode cX11_drawn 174 = .ok (.if_icmp .ge 32, 3) := by decide +kernel
theorem dX11_drawn_177 : decode cX11_drawn 177 = .ok (.iload 5, 2) := by decide +kernel
theorem dX11_drawn_179 : decode cX11_drawn 179 = .ok (.aload_n 0, 1) := by decide +kernel
theorem dX11_drawn_180 : decode cX11_drawn 180 = .ok (.iload 9, 2) := by decide +kernel
theorem dX11_drawn_182 : decode cX11_drawn 182 = .ok (.invokevirtual 219, 3) := by decide +kernel
theorem dX11_drawn_185 : decode cX11_drawn 185 = .ok (.iadd, 1) := by decide +kernel
theorem dX11_drawn_186 : decode cX11_drawn 186 = .ok (.istore 5, 2) := by decide +kernel
theorem dX11_drawn_188 : decode cX11_drawn 188 = .ok (.aload_n 0, 1) := by decide +kernel
theorem dX11_drawn_189 : decode cX11_drawn 189 = .ok (.getfield 52, 3) := by decide +kernel
theorem dX11_drawn_192 : decode cX11_drawn 192 = .ok (.iload 9, 2) := by decide +kernel
theorem dX11_drawn_194 : decode cX11_drawn 194 = .ok (.iconst 1, 1) := by decide +kernel
theorem dX11_drawn_195 : decode cX11_drawn 195 = .ok (.bastore, 1) := by decide +kernel
theorem dX11_drawn_196 : decode cX11_drawn 196 = .ok (.aload_n 0, 1) := by decide +kernel
theorem dX11_drawn_197 : decode cX11_drawn 197 = .ok (.dup, 1) := by decide +kernel
theorem dX11_drawn_198 : decode cX11_drawn 198 = .ok (.getfield 213, 3) := by decide +kernel
theorem dX11_drawn_201 : decode cX11_drawn 201 = .ok (.iconst 1, 1) := by decide +kernel
theorem dX11_drawn_202 : decode cX11_drawn 202 = .ok (.iadd, 1) := by decide +kernel
theorem dX11_drawn_203 : decode cX11_drawn 203 = .ok (.putfield 213, 3) := by decide +kernel
theorem dX11_drawn_206 : decode cX11_drawn 206 = .ok (.aload_n 0, 1) := by decide +kernel
theorem dX11_drawn_207 : decode cX11_drawn 207 = .ok (.invokevirtual 234, 3) := by decide +kernel
theorem dX11_drawn_210 : decode cX11_drawn 210 = .ok (.iinc 8 1, 3) := by decide +kernel
theorem dX11_drawn_213 : decode cX11_drawn 213 = .ok (.goto (-115), 3) := by decide +kernel
theorem dX11_drawn_216 : decode cX11_drawn 216 = .ok (.iload 6, 2) := by decide +kernel
theorem dX11_drawn_218 : decode cX11_drawn 218 = .ok (.iload_n 3, 1) := by decide +kernel
theorem dX11_drawn_219 : decode cX11_drawn 219 = .ok (.ifCond .lt 16, 3) := by decide +kernel
theorem dX11_drawn_222 : decode cX11_drawn 222 = .ok (.aload_n 0, 1) := by decide +kernel
theorem dX11_drawn_223 : decode cX11_drawn 223 = .ok (.getfield 52, 3) := by decide +kernel
theorem dX11_drawn_226 : decode cX11_drawn 226 = .ok (.iload_n 3, 1) := by decide +kernel
theorem dX11_drawn_227 : decode cX11_drawn 227 = .ok (.baload, 1) := by decide +kernel
theorem dX11_drawn_228 : decode cX11_drawn 228 = .ok (.ifCond .eq 7, 3) := by decide +kernel
theorem dX11_drawn_231 : decode cX11_drawn 231 = .ok (.iconst 1, 1) := by decide +kernel
theorem dX11_drawn_232 : decode cX11_drawn 232 = .ok (.goto 4, 3) := by decide +kernel
theorem dX11_drawn_235 : decode cX11_drawn 235 = .ok (.iconst 0, 1) := by decide +kernel
theorem dX11_drawn_236 : decode cX11_drawn 236 = .ok (.iadd, 1) := by decide +kernel
theorem dX11_drawn_237 : decode cX11_drawn 237 = .ok (.istore 6, 2) := by decide +kernel
theorem dX11_drawn_239 : decode cX11_drawn 239 = .ok (.iinc 7 1, 3) := by decide +kernel
theorem dX11_drawn_242 : decode cX11_drawn 242 = .ok (.goto (-161), 3) := by decide +kernel
theorem dX11_drawn_245 : decode cX11_drawn 245 = .ok (.iload_n 3, 1) := by decide +kernel
theorem dX11_drawn_246 : decode cX11_drawn 246 = .ok (.ifCond .ge 8, 3) := by decide +kernel
theorem dX11_drawn_249 : decode cX11_drawn 249 = .ok (.iload 5, 2) := by decide +kernel
theorem dX11_drawn_251 : decode cX11_drawn 251 = .ok (.goto 5, 3) := by decide +kernel
theorem dX11_drawn_254 : decode cX11_drawn 254 = .ok (.iload 6, 2) := by decide +kernel
theorem dX11_drawn_256 : decode cX11_drawn 256 = .ok (.ireturn, 1) := by decide +kernel
theorem dX11_century_0 : decode cX11_century 0 = .ok (.aload_n 0, 1) := by decide +kernel
theorem dX11_century_1 : decode cX11_century 1 = .ok (.invokevirtual 231, 3) := by decide +kernel
theorem dX11_century_4 : decode cX11_century 4 = .ok (.aload_n 0, 1) := by decide +kernel
theorem dX11_century_5 : decode cX11_century 5 = .ok (.invokevirtual 234, 3) := by decide +kernel
theorem dX11_century_8 : decode cX11_century 8 = .ok (.iconst 0, 1) := by decide +kernel
theorem dX11_century_9 : decode cX11_century 9 = .ok (.istore_n 1, 1) := by decide +kernel
theorem dX11_century_10 : decode cX11_century 10 = .ok (.iload_n 1, 1) := by decide +kernel
theorem dX11_century_11 : decode cX11_century 11 = .ok (.aload_n 0, 1) := by decide +kernel
theorem dX11_century_12 : decode cX11_century 12 = .ok (.getfield 97, 3) := by decide +kernel
theorem dX11_century_15 : decode cX11_century 15 = .ok (.if_icmp .ge 24, 3) := by decide +kernel
theorem dX11_century_18 : decode cX11_century 18 = .ok (.aload_n 0, 1) := by decide +kernel
theorem dX11_century_19 : decode cX11_century 19 = .ok (.getfield 9, 3) := by decide +kernel
theorem dX11_century_22 : decode cX11_century 22 = .ok (.bipush 10, 2) := by decide +kernel
theorem dX11_century_24 : decode cX11_century 24 = .ok (.iload_n 1, 1) := by decide +kernel
theorem dX11_century_25 : decode cX11_century 25 = .ok (.iadd, 1) := by decide +kernel
theorem dX11_century_26 : decode cX11_century 26 = .ok (.aload_n 0, 1) := by decide +kernel
theorem dX11_century_27 : decode cX11_century 27 = .ok (.getfield 49, 3) := by decide +kernel
theorem dX11_century_30 : decode cX11_century 30 = .ok (.iload_n 1, 1) := by decide +kernel
theorem dX11_century_31 : decode cX11_century 31 = .ok (.iaload, 1) := by decide +kernel
theorem dX11_century_32 : decode cX11_century 32 = .ok (.iastore, 1) := by decide +kernel
theorem dX11_century_33 : decode cX11_century 33 = .ok (.iinc 1 1, 3) := by decide +kernel
theorem dX11_century_36 : decode cX11_century 36 = .ok (.goto (-26), 3) := by decide +kernel
theorem dX11_century_39 : decode cX11_century 39 = .ok (.aload_n 0, 1) := by decide +kernel
theorem dX11_century_40 : decode cX11_century 40 = .ok (.getfield 9, 3) := by decide +kernel
theorem dX11_century_43 : decode cX11_century 43 = .ok (.bipush 82, 2) := by decide +kernel
theorem dX11_century_45 : decode cX11_century 45 = .ok (.aload_n 0, 1) := by decide +kernel
theorem dX11_century_46 : decode cX11_century 46 = .ok (.getfield 216, 3) := by decide +kernel
theorem dX11_century_49 : decode cX11_century 49 = .ok (.iastore, 1) := by decide +kernel
theorem dX11_century_50 : decode cX11_century 50 = .ok (.aload_n 0, 1) := by decide +kernel
theorem dX11_century_51 : decode cX11_century 51 = .ok (.getfield 62, 3) := by decide +kernel
theorem dX11_century_54 : decode cX11_century 54 = .ok (.iconst 0, 1) := by decide +kernel
theorem dX11_century_55 : decode cX11_century 55 = .ok (.dup2, 1) := by decide +kernel
theorem dX11_century_56 : decode cX11_century 56 = .ok (.iaload, 1) := by decide +kernel
theorem dX11_century_57 : decode cX11_century 57 = .ok (.iconst 1, 1) := by decide +kernel
theorem dX11_century_58 : decode cX11_century 58 = .ok (.iadd, 1) := by decide +kernel
theorem dX11_century_59 : decode cX11_century 59 = .ok (.iastore, 1) := by decide +kernel
theorem dX11_century_60 : decode cX11_century 60 = .ok (.aload_n 0, 1) := by decide +kernel
theorem dX11_century_61 : decode cX11_century 61 = .ok (.getfield 216, 3) := by decide +kernel
theorem dX11_century_64 : decode cX11_century 64 = .ok (.ireturn, 1) := by decide +kernel
theorem dX11_open_0 : decode cX11_open 0 = .ok (.aload_n 0, 1) := by decide +kernel
theorem dX11_open_1 : decode cX11_open 1 = .ok (.iload_n 1, 1) := by decide +kernel
theorem dX11_open_2 : decode cX11_open 2 = .ok (.i2l, 1) := by decide +kernel
theorem dX11_open_3 : decode cX11_open 3 = .ok (.invokevirtual 127, 3) := by decide +kernel
theorem dX11_open_6 : decode cX11_open 6 = .ok (.ifCond .ne 5, 3) := by decide +kernel
theorem dX11_open_9 : decode cX11_open 9 = .ok (.iconst (-1), 1) := by decide +kernel
theorem dX11_open_10 : decode cX11_open 10 = .ok (.ireturn, 1) := by decide +kernel
theorem dX11_open_11 : decode cX11_open 11 = .ok (.aload_n 0, 1) := by decide +kernel
theorem dX11_open_12 : decode cX11_open 12 = .ok (.getfield 9, 3) := by decide +kernel
theorem dX11_open_15 : decode cX11_open 15 = .ok (.bipush 30, 2) := by decide +kernel
theorem dX11_open_17 : decode cX11_open 17 = .ok (.iload_n 1, 1) := by decide +kernel
theorem dX11_open_18 : decode cX11_open 18 = .ok (.iadd, 1) := by decide +kernel
theorem dX11_open_19 : decode cX11_open 19 = .ok (.iaload, 1) := by decide +kernel
theorem dX11_open_20 : decode cX11_open 20 = .ok (.iconst 1, 1) := by decide +kernel
theorem dX11_open_21 : decode cX11_open 21 = .ok (.if_icmp .ne 6, 3) := by decide +kernel
theorem dX11_open_24 : decode cX11_open 24 = .ok (.bipush (-5), 2) := by decide +kernel
theorem dX11_open_26 : decode cX11_open 26 = .ok (.ireturn, 1) := by decide +kernel
theorem dX11_open_27 : decode cX11_open 27 = .ok (.aload_n 0, 1) := by decide +kernel
theorem dX11_open_28 : decode cX11_open 28 = .ok (.invokevirtual 231, 3) := by decide +kernel
theorem dX11_open_31 : decode cX11_open 31 = .ok (.aload_n 0, 1) := by decide +kernel
theorem dX11_open_32 : decode cX11_open 32 = .ok (.iload_n 1, 1) := by decide +kernel
theorem dX11_open_33 : decode cX11_open 33 = .ok (.invokevirtual 219, 3) := by decide +kernel
theorem dX11_open_36 : decode cX11_open 36 = .ok (.istore_n 2, 1) := by decide +kernel
theorem dX11_open_37 : decode cX11_open 37 = .ok (.aload_n 0, 1) := by decide +kernel
theorem dX11_open_38 : decode cX11_open 38 = .ok (.getfield 9, 3) := by decide +kernel
theorem dX11_open_41 : decode cX11_open 41 = .ok (.bipush 30, 2) := by decide +kernel
theorem dX11_open_43 : decode cX11_open 43 = .ok (.iload_n 1, 1) := by decide +kernel
theorem dX11_open_44 : decode cX11_open 44 = .ok (.iadd, 1) := by decide +kernel
theorem dX11_open_45 : decode cX11_open 45 = .ok (.iconst 1, 1) := by decide +kernel
theorem dX11_open_46 : decode cX11_open 46 = .ok (.iastore, 1) := by decide +kernel
theorem dX11_open_47 : decode cX11_open 47 = .ok (.aload_n 0, 1) := by decide +kernel
theorem dX11_open_48 : decode cX11_open 48 = .ok (.getfield 62, 3) := by decide +kernel
theorem dX11_open_51 : decode cX11_open 51 = .ok (.iconst 1, 1) := by decide +kernel
theorem dX11_open_52 : decode cX11_open 52 = .ok (.dup2, 1) := by decide +kernel
theorem dX11_open_53 : decode cX11_open 53 = .ok (.iaload, 1) := by decide +kernel
theorem dX11_open_54 : decode cX11_open 54 = .ok (.iconst 1, 1) := by decide +kernel
theorem dX11_open_55 : decode cX11_open 55 = .ok (.iadd, 1) := by decide +kernel
theorem dX11_open_56 : decode cX11_open 56 = .ok (.iastore, 1) := by decide +kernel
theorem dX11_open_57 : decode cX11_open 57 = .ok (.aload_n 0, 1) := by decide +kernel
theorem dX11_open_58 : decode cX11_open 58 = .ok (.getfield 62, 3) := by decide +kernel
theorem dX11_open_61 : decode cX11_open 61 = .ok (.iconst 2, 1) := by decide +kernel
theorem dX11_open_62 : decode cX11_open 62 = .ok (.dup2, 1) := by decide +kernel
theorem dX11_open_63 : decode cX11_open 63 = .ok (.iaload, 1) := by decide +kernel
theorem dX11_open_64 : decode cX11_open 64 = .ok (.iload_n 2, 1) := by decide +kernel
theorem dX11_open_65 : decode cX11_open 65 = .ok (.iadd, 1) := by decide +kernel
theorem dX11_open_66 : decode cX11_open 66 = .ok (.iastore, 1) := by decide +kernel
theorem dX11_open_67 : decode cX11_open 67 = .ok (.aload_n 0, 1) := by decide +kernel
theorem dX11_open_68 : decode cX11_open 68 = .ok (.getfield 62, 3) := by decide +kernel
theorem dX11_open_71 : decode cX11_open 71 = .ok (.iconst 3, 1) := by decide +kernel
theorem dX11_open_72 : decode cX11_open 72 = .ok (.dup2, 1) := by decide +kernel
theorem dX11_open_73 : decode cX11_open 73 = .ok (.iaload, 1) := by decide +kernel
theorem dX11_open_74 : decode cX11_open 74 = .ok (.iconst 1, 1) := by decide +kernel
theorem dX11_open_75 : decode cX11_open 75 = .ok (.iload_n 2, 1) := by decide +kernel
theorem dX11_open_76 : decode cX11_open 76 = .ok (.ishl, 1) := by decide +kernel
theorem dX11_open_77 : decode cX11_open 77 = .ok (.ior, 1) := by decide +kernel
theorem dX11_open_78 : decode cX11_open 78 = .ok (.iastore, 1) := by decide +kernel
theorem dX11_open_79 : decode cX11_open 79 = .ok (.iload_n 2, 1) := by decide +kernel
theorem dX11_open_80 : decode cX11_open 80 = .ok (.ireturn, 1) := by decide +kernel
theorem dX11_hours_0 : decode cX11_hours 0 = .ok (.iload_n 1, 1) := by decide +kernel
theorem dX11_hours_1 : decode cX11_hours 1 = .ok (.i2l, 1) := by decide +kernel
theorem dX11_hours_2 : decode cX11_hours 2 = .ok (.lconst 1, 1) := by decide +kernel
theorem dX11_hours_3 : decode cX11_hours 3 = .ok (.ldc2_w 134, 3) := by decide +kernel
theorem dX11_hours_6 : decode cX11_hours 6 = .ok (.invokestatic 100, 3) := by decide +kernel
theorem dX11_hours_9 : decode cX11_hours 9 = .ok (.ifCond .ne 5, 3) := by decide +kernel
theorem dX11_hours_12 : decode cX11_hours 12 = .ok (.iconst (-1), 1) := by decide +kernel
theorem dX11_hours_13 : decode cX11_hours 13 = .ok (.ireturn, 1) := by decide +kernel
theorem dX11_hours_14 : decode cX11_hours 14 = .ok (.iconst 0, 1) := by decide +kernel
theorem dX11_hours_15 : decode cX11_hours 15 = .ok (.istore_n 2, 1) := by decide +kernel
theorem dX11_hours_16 : decode cX11_hours 16 = .ok (.iconst 0, 1) := by decide +kernel
theorem dX11_hours_17 : decode cX11_hours 17 = .ok (.istore_n 3, 1) := by decide +kernel
theorem dX11_hours_18 : decode cX11_hours 18 = .ok (.iload_n 3, 1) := by decide +kernel
theorem dX11_hours_19 : decode cX11_hours 19 = .ok (.aload_n 0, 1) := by decide +kernel
theorem dX11_hours_20 : decode cX11_hours 20 = .ok (.getfield 97, 3) := by decide +kernel
theorem dX11_hours_23 : decode cX11_hours 23 = .ok (.if_icmp .ge 109, 3) := by decide +kernel
theorem dX11_hours_26 : decode cX11_hours 26 = .ok (.aload_n 0, 1) := by decide +kernel
theorem dX11_hours_27 : decode cX11_hours 27 = .ok (.getfield 9, 3) := by decide +kernel
theorem dX11_hours_30 : decode cX11_hours 30 = .ok (.bipush 30, 2) := by decide +kernel
theorem dX11_hours_32 : decode cX11_hours 32 = .ok (.iload_n 3, 1) := by decide +kernel
theorem dX11_hours_33 : decode cX11_hours 33 = .ok (.iadd, 1) := by decide +kernel
theorem dX11_hours_34 : decode cX11_hours 34 = .ok (.iaload, 1) := by decide +kernel
theorem dX11_hours_35 : decode cX11_hours 35 = .ok (.iconst 1, 1) := by decide +kernel
theorem dX11_hours_36 : decode cX11_hours 36 = .ok (.if_icmp .ne 90, 3) := by decide +kernel
theorem dX11_hours_39 : decode cX11_hours 39 = .ok (.aload_n 0, 1) := by decide +kernel
theorem dX11_hours_40 : decode cX11_hours 40 = .ok (.getfield 9, 3) := by decide +kernel
theorem dX11_hours_43 : decode cX11_hours 43 = .ok (.bipush 40, 2) := by decide +kernel
theorem dX11_hours_45 : decode cX11_hours 45 = .ok (.iload_n 3, 1) := by decide +kernel
theorem dX11_hours_46 : decode cX11_hours 46 = .ok (.iadd, 1) := by decide +kernel
theorem dX11_hours_47 : decode cX11_hours 47 = .ok (.iaload, 1) := by decide +kernel
theorem dX11_hours_48 : decode cX11_hours 48 = .ok (.ifCond .ne 78, 3) := by decide +kernel
theorem dX11_hours_51 : decode cX11_hours 51 = .ok (.aload_n 0, 1) := by decide +kernel
theorem dX11_hours_52 : decode cX11_hours 52 = .ok (.getfield 9, 3) := by decide +kernel
theorem dX11_hours_55 : decode cX11_hours 55 = .ok (.bipush 20, 2) := by decide +kernel
theorem dX11_hours_57 : decode cX11_hours 57 = .ok (.iload_n 3, 1) := by decide +kernel
theorem dX11_hours_58 : decode cX11_hours 58 = .ok (.iadd, 1) := by decide +kernel
theorem dX11_hours_59 : decode cX11_hours 59 = .ok (.aload_n 0, 1) := by decide +kernel
theorem dX11_hours_60 : decode cX11_hours 60 = .ok (.getfield 9, 3) := by decide +kernel
theorem dX11_hours_63 : decode cX11_hours 63 = .ok (.bipush 20, 2) := by decide +kernel
theorem dX11_hours_65 : decode cX11_hours 65 = .ok (.iload_n 3, 1) := by decide +kernel
theorem dX11_hours_66 : decode cX11_hours 66 = .ok (.iadd, 1) := by decide +kernel
theorem dX11_hours_67 : decode cX11_hours 67 = .ok (.iaload, 1) := by decide +kernel
theorem dX11_hours_68 : decode cX11_hours 68 = .ok (.iload_n 1, 1) := by decide +kernel
theorem dX11_hours_69 : decode cX11_hours 69 = .ok (.if_icmp .ge 7, 3) := by decide +kernel
theorem dX11_hours_72 : decode cX11_hours 72 = .ok (.iconst 0, 1) := by decide +kernel
theorem dX11_hours_73 : decode cX11_hours 73 = .ok (.goto 14, 3) := by decide +kernel
theorem dX11_hours_76 : decode cX11_hours 76 = .ok (.aload_n 0, 1) := by decide +kernel
theorem dX11_hours_77 : decode cX11_hours 77 = .ok (.getfield 9, 3) := by decide +kernel
theorem dX11_hours_80 : decode cX11_hours 80 = .ok (.bipush 20, 2) := by decide +kernel
theorem dX11_hours_82 : decode cX11_hours 82 = .ok (.iload_n 3, 1) := by decide +kernel
theorem dX11_hours_83 : decode cX11_hours 83 = .ok (.iadd, 1) := by decide +kernel
theorem dX11_hours_84 : decode cX11_hours 84 = .ok (.iaload, 1) := by decide +kernel
theorem dX11_hours_85 : decode cX11_hours 85 = .ok (.iload_n 1, 1) := by decide +kernel
theorem dX11_hours_86 : decode cX11_hours 86 = .ok (.isub, 1) := by decide +kernel
theorem dX11_hours_87 : decode cX11_hours 87 = .ok (.iastore, 1) := by decide +kernel
theorem dX11_hours_88 : decode cX11_hours 88 = .ok (.aload_n 0, 1) := by decide +kernel
theorem dX11_hours_89 : decode cX11_hours 89 = .ok (.getfield 9, 3) := by decide +kernel
theorem dX11_hours_92 : decode cX11_hours 92 = .ok (.bipush 40, 2) := by decide +kernel
theorem dX11_hours_94 : decode cX11_hours 94 = .ok (.iload_n 3, 1) := by decide +kernel
theorem dX11_hours_95 : decode cX11_hours 95 = .ok (.iadd, 1) := by decide +kernel
theorem dX11_hours_96 : decode cX11_hours 96 = .ok (.aload_n 0, 1) := by decide +kernel
theorem dX11_hours_97 : decode cX11_hours 97 = .ok (.getfield 9, 3) := by decide +kernel
theorem dX11_hours_100 : decode cX11_hours 100 = .ok (.bipush 20, 2) := by decide +kernel
theorem dX11_hours_102 : decode cX11_hours 102 = .ok (.iload_n 3, 1) := by decide +kernel
theorem dX11_hours_103 : decode cX11_hours 103 = .ok (.iadd, 1) := by decide +kernel
theorem dX11_hours_104 : decode cX11_hours 104 = .ok (.iaload, 1) := by decide +kernel
theorem dX11_hours_105 : decode cX11_hours 105 = .ok (.ifCond .ne 7, 3) := by decide +kernel
theorem dX11_hours_108 : decode cX11_hours 108 = .ok (.iconst 1, 1) := by decide +kernel
theorem dX11_hours_109 : decode cX11_hours 109 = .ok (.goto 4, 3) := by decide +kernel
theorem dX11_hours_112 : decode cX11_hours 112 = .ok (.iconst 0, 1) := by decide +kernel
theorem dX11_hours_113 : decode cX11_hours 113 = .ok (.iastore, 1) := by decide +kernel
theorem dX11_hours_114 : decode cX11_hours 114 = .ok (.iload_n 2, 1) := by decide +kernel
theorem dX11_hours_115 : decode cX11_hours 115 = .ok (.aload_n 0, 1) := by decide +kernel
theorem dX11_hours_116 : decode cX11_hours 116 = .ok (.getfield 9, 3) := by decide +kernel
theorem dX11_hours_119 : decode cX11_hours 119 = .ok (.bipush 40, 2) := by decide +kernel
theorem dX11_hours_121 : decode cX11_hours 121 = .ok (.iload_n 3, 1) := by decide +kernel
theorem dX11_hours_122 : decode cX11_hours 122 = .ok (.iadd, 1) := by decide +kernel
theorem dX11_hours_123 : decode cX11_hours 123 = .ok (.iaload, 1) := by decide +kernel
theorem dX11_hours_124 : decode cX11_hours 124 = .ok (.iadd, 1) := by decide +kernel
theorem dX11_hours_125 : decode cX11_hours 125 = .ok (.istore_n 2, 1) := by decide +kernel
theorem dX11_hours_126 : decode cX11_hours 126 = .ok (.iinc 3 1, 3) := by decide +kernel
theorem dX11_hours_129 : decode cX11_hours 129 = .ok (.goto (-111), 3) := by decide +kernel
theorem dX11_hours_132 : decode cX11_hours 132 = .ok (.aload_n 0, 1) := by decide +kernel
theorem dX11_hours_133 : decode cX11_hours 133 = .ok (.getfield 62, 3) := by decide +kernel
theorem dX11_hours_136 : decode cX11_hours 136 = .ok (.iconst 4, 1) := by decide +kernel
theorem dX11_hours_137 : decode cX11_hours 137 = .ok (.dup2, 1) := by decide +kernel
theorem dX11_hours_138 : decode cX11_hours 138 = .ok (.iaload, 1) := by decide +kernel
theorem dX11_hours_139 : decode cX11_hours 139 = .ok (.iload_n 2, 1) := by decide +kernel
theorem dX11_hours_140 : decode cX11_hours 140 = .ok (.iadd, 1) := by decide +kernel
theorem dX11_hours_141 : decode cX11_hours 141 = .ok (.iastore, 1) := by decide +kernel
theorem dX11_hours_142 : decode cX11_hours 142 = .ok (.iload_n 2, 1) := by decide +kernel
theorem dX11_hours_143 : decode cX11_hours 143 = .ok (.ireturn, 1) := by decide +kernel
theorem dX11_led_0 : decode cX11_led 0 = .ok (.iload_n 1, 1) := by decide +kernel
theorem dX11_led_1 : decode cX11_led 1 = .ok (.i2l, 1) := by decide +kernel
theorem dX11_led_2 : decode cX11_led 2 = .ok (.lconst 0, 1) := by decide +kernel
theorem dX11_led_3 : decode cX11_led 3 = .ok (.ldc2_w 125, 3) := by decide +kernel
theorem dX11_led_6 : decode cX11_led 6 = .ok (.invokestatic 100, 3) := by decide +kernel
theorem dX11_led_9 : decode cX11_led 9 = .ok (.ifCond .eq 12, 3) := by decide +kernel
theorem dX11_led_12 : decode cX11_led 12 = .ok (.aload_n 0, 1) := by decide +kernel
theorem dX11_led_13 : decode cX11_led 13 = .ok (.getfield 62, 3) := by decide +kernel
theorem dX11_led_16 : decode cX11_led 16 = .ok (.iload_n 1, 1) := by decide +kernel
theorem dX11_led_17 : decode cX11_led 17 = .ok (.iaload, 1) := by decide +kernel
theorem dX11_led_18 : decode cX11_led 18 = .ok (.goto 4, 3) := by decide +kernel
theorem dX11_led_21 : decode cX11_led 21 = .ok (.iconst (-1), 1) := by decide +kernel
theorem dX11_led_22 : decode cX11_led 22 = .ok (.ireturn, 1) := by decide +kernel
theorem dX11_image_0 : decode cX11_image 0 = .ok (.aload_n 0, 1) := by decide +kernel
theorem dX11_image_1 : decode cX11_image 1 = .ok (.iconst 1, 1) := by decide +kernel
theorem dX11_image_2 : decode cX11_image 2 = .ok (.putfield 310, 3) := by decide +kernel
theorem dX11_image_5 : decode cX11_image 5 = .ok (.aload_n 0, 1) := by decide +kernel
theorem dX11_image_6 : decode cX11_image 6 = .ok (.aload_n 0, 1) := by decide +kernel
theorem dX11_image_7 : decode cX11_image 7 = .ok (.getfield 97, 3) := by decide +kernel
theorem dX11_image_10 : decode cX11_image 10 = .ok (.putfield 314, 3) := by decide +kernel
theorem dX11_image_13 : decode cX11_image 13 = .ok (.iconst 0, 1) := by decide +kernel
theorem dX11_image_14 : decode cX11_image 14 = .ok (.istore_n 1, 1) := by decide +kernel
theorem dX11_image_15 : decode cX11_image 15 = .ok (.iload_n 1, 1) := by decide +kernel
theorem dX11_image_16 : decode cX11_image 16 = .ok (.bipush 82, 2) := by decide +kernel
theorem dX11_image_18 : decode cX11_image 18 = .ok (.if_icmp .gt 21, 3) := by decide +kernel
theorem dX11_image_21 : decode cX11_image 21 = .ok (.aload_n 0, 1) := by decide +kernel
theorem dX11_image_22 : decode cX11_image 22 = .ok (.getfield 65, 3) := by decide +kernel
theorem dX11_image_25 : decode cX11_image 25 = .ok (.iload_n 1, 1) := by decide +kernel
theorem dX11_image_26 : decode cX11_image 26 = .ok (.aload_n 0, 1) := by decide +kernel
theorem dX11_image_27 : decode cX11_image 27 = .ok (.getfield 9, 3) := by decide +kernel
theorem dX11_image_30 : decode cX11_image 30 = .ok (.iload_n 1, 1) := by decide +kernel
theorem dX11_image_31 : decode cX11_image 31 = .ok (.iaload, 1) := by decide +kernel
theorem dX11_image_32 : decode cX11_image 32 = .ok (.iastore, 1) := by decide +kernel
theorem dX11_image_33 : decode cX11_image 33 = .ok (.iinc 1 1, 3) := by decide +kernel
theorem dX11_image_36 : decode cX11_image 36 = .ok (.goto (-21), 3) := by decide +kernel
theorem dX11_image_39 : decode cX11_image 39 = .ok (.iconst 0, 1) := by decide +kernel
theorem dX11_image_40 : decode cX11_image 40 = .ok (.istore_n 1, 1) := by decide +kernel
theorem dX11_image_41 : decode cX11_image 41 = .ok (.iload_n 1, 1) := by decide +kernel
theorem dX11_image_42 : decode cX11_image 42 = .ok (.iconst 5, 1) := by decide +kernel
theorem dX11_image_43 : decode cX11_image 43 = .ok (.if_icmp .ge 21, 3) := by decide +kernel
theorem dX11_image_46 : decode cX11_image 46 = .ok (.aload_n 0, 1) := by decide +kernel
theorem dX11_image_47 : decode cX11_image 47 = .ok (.getfield 68, 3) := by decide +kernel
theorem dX11_image_50 : decode cX11_image 50 = .ok (.iload_n 1, 1) := by decide +kernel
theorem dX11_image_51 : decode cX11_image 51 = .ok (.aload_n 0, 1) := by decide +kernel
theorem dX11_image_52 : decode cX11_image 52 = .ok (.getfield 62, 3) := by decide +kernel
theorem dX11_image_55 : decode cX11_image 55 = .ok (.iload_n 1, 1) := by decide +kernel
theorem dX11_image_56 : decode cX11_image 56 = .ok (.iaload, 1) := by decide +kernel
theorem dX11_image_57 : decode cX11_image 57 = .ok (.iastore, 1) := by decide +kernel
theorem dX11_image_58 : decode cX11_image 58 = .ok (.iinc 1 1, 3) := by decide +kernel
theorem dX11_image_61 : decode cX11_image 61 = .ok (.goto (-20), 3) := by decide +kernel
theorem dX11_image_64 : decode cX11_image 64 = .ok (.aload_n 0, 1) := by decide +kernel
theorem dX11_image_65 : decode cX11_image 65 = .ok (.getfield 62, 3) := by decide +kernel
theorem dX11_image_68 : decode cX11_image 68 = .ok (.iconst 1, 1) := by decide +kernel
theorem dX11_image_69 : decode cX11_image 69 = .ok (.iaload, 1) := by decide +kernel
theorem dX11_image_70 : decode cX11_image 70 = .ok (.ireturn, 1) := by decide +kernel
theorem dX11_back_0 : decode cX11_back 0 = .ok (.aload_n 0, 1) := by decide +kernel
theorem dX11_back_1 : decode cX11_back 1 = .ok (.getfield 310, 3) := by decide +kernel
theorem dX11_back_4 : decode cX11_back 4 = .ok (.ifCond .ne 6, 3) := by decide +kernel
theorem dX11_back_7 : decode cX11_back 7 = .ok (.bipush (-5), 2) := by decide +kernel
theorem dX11_back_9 : decode cX11_back 9 = .ok (.ireturn, 1) := by decide +kernel
theorem dX11_back_10 : decode cX11_back 10 = .ok (.iconst 0, 1) := by decide +kernel
theorem dX11_back_11 : decode cX11_back 11 = .ok (.istore_n 1, 1) := by decide +kernel
theorem dX11_back_12 : decode cX11_back 12 = .ok (.iload_n 1, 1) := by decide +kernel
theorem dX11_back_13 : decode cX11_back 13 = .ok (.aload_n 0, 1) := by decide +kernel
theorem dX11_back_14 : decode cX11_back 14 = .ok (.getfield 314, 3) := by decide +kernel
theorem dX11_back_17 : decode cX11_back 17 = .ok (.if_icmp .ge 81, 3) := by decide +kernel
theorem dX11_back_20 : decode cX11_back 20 = .ok (.aload_n 0, 1) := by decide +kernel
theorem dX11_back_21 : decode cX11_back 21 = .ok (.getfield 9, 3) := by decide +kernel
theorem dX11_back_24 : decode cX11_back 24 = .ok (.bipush 10, 2) := by decide +kernel
theorem dX11_back_26 : decode cX11_back 26 = .ok (.iload_n 1, 1) := by decide +kernel
theorem dX11_back_27 : decode cX11_back 27 = .ok (.iadd, 1) := by decide +kernel
theorem dX11_back_28 : decode cX11_back 28 = .ok (.aload_n 0, 1) := by decide +kernel
theorem dX11_back_29 : decode cX11_back 29 = .ok (.getfield 65, 3) := by decide +kernel
theorem dX11_back_32 : decode cX11_back 32 = .ok (.bipush 10, 2) := by decide +kernel
theorem dX11_back_34 : decode cX11_back 34 = .ok (.iload_n 1, 1) := by decide +kernel
theorem dX11_back_35 : decode cX11_back 35 = .ok (.iadd, 1) := by decide +kernel
theorem dX11_back_36 : decode cX11_back 36 = .ok (.iaload, 1) := by decide +kernel
theorem dX11_back_37 : decode cX11_back 37 = .ok (.iastore, 1) := by decide +kernel
theorem dX11_back_38 : decode cX11_back 38 = .ok (.aload_n 0, 1) := by decide +kernel
theorem dX11_back_39 : decode cX11_back 39 = .ok (.getfield 9, 3) := by decide +kernel
theorem dX11_back_42 : decode cX11_back 42 = .ok (.bipush 20, 2) := by decide +kernel
theorem dX11_back_44 : decode cX11_back 44 = .ok (.iload_n 1, 1) := by decide +kernel
theorem dX11_back_45 : decode cX11_back 45 = .ok (.iadd, 1) := by decide +kernel
theorem dX11_back_46 : decode cX11_back 46 = .ok (.aload_n 0, 1) := by decide +kernel
theorem dX11_back_47 : decode cX11_back 47 = .ok (.getfield 65, 3) := by decide +kernel
theorem dX11_back_50 : decode cX11_back 50 = .ok (.bipush 20, 2) := by decide +kernel
theorem dX11_back_52 : decode cX11_back 52 = .ok (.iload_n 1, 1) := by decide +kernel
theorem dX11_back_53 : decode cX11_back 53 = .ok (.iadd, 1) := by decide +kernel
theorem dX11_back_54 : decode cX11_back 54 = .ok (.iaload, 1) := by decide +kernel
theorem dX11_back_55 : decode cX11_back 55 = .ok (.iastore, 1) := by decide +kernel
theorem dX11_back_56 : decode cX11_back 56 = .ok (.aload_n 0, 1) := by decide +kernel
theorem dX11_back_57 : decode cX11_back 57 = .ok (.getfield 9, 3) := by decide +kernel
theorem dX11_back_60 : decode cX11_back 60 = .ok (.bipush 30, 2) := by decide +kernel
theorem dX11_back_62 : decode cX11_back 62 = .ok (.iload_n 1, 1) := by decide +kernel
theorem dX11_back_63 : decode cX11_back 63 = .ok (.iadd, 1) := by decide +kernel
theorem dX11_back_64 : decode cX11_back 64 = .ok (.aload_n 0, 1) := by decide +kernel
theorem dX11_back_65 : decode cX11_back 65 = .ok (.getfield 65, 3) := by decide +kernel
theorem dX11_back_68 : decode cX11_back 68 = .ok (.bipush 30, 2) := by decide +kernel
theorem dX11_back_70 : decode cX11_back 70 = .ok (.iload_n 1, 1) := by decide +kernel
theorem dX11_back_71 : decode cX11_back 71 = .ok (.iadd, 1) := by decide +kernel
theorem dX11_back_72 : decode cX11_back 72 = .ok (.iaload, 1) := by decide +kernel
theorem dX11_back_73 : decode cX11_back 73 = .ok (.iastore, 1) := by decide +kernel
theorem dX11_back_74 : decode cX11_back 74 = .ok (.aload_n 0, 1) := by decide +kernel
theorem dX11_back_75 : decode cX11_back 75 = .ok (.getfield 9, 3) := by decide +kernel
theorem dX11_back_78 : decode cX11_back 78 = .ok (.bipush 40, 2) := by decide +kernel
theorem dX11_back_80 : decode cX11_back 80 = .ok (.iload_n 1, 1) := by decide +kernel
theorem dX11_back_81 : decode cX11_back 81 = .ok (.iadd, 1) := by decide +kernel
theorem dX11_back_82 : decode cX11_back 82 = .ok (.aload_n 0, 1) := by decide +kernel
theorem dX11_back_83 : decode cX11_back 83 = .ok (.getfield 65, 3) := by decide +kernel
theorem dX11_back_86 : decode cX11_back 86 = .ok (.bipush 40, 2) := by decide +kernel
theorem dX11_back_88 : decode cX11_back 88 = .ok (.iload_n 1, 1) := by decide +kernel
theorem dX11_back_89 : decode cX11_back 89 = .ok (.iadd, 1) := by decide +kernel
theorem dX11_back_90 : decode cX11_back 90 = .ok (.iaload, 1) := by decide +kernel
theorem dX11_back_91 : decode cX11_back 91 = .ok (.iastore, 1) := by decide +kernel
theorem dX11_back_92 : decode cX11_back 92 = .ok (.iinc 1 1, 3) := by decide +kernel
theorem dX11_back_95 : decode cX11_back 95 = .ok (.goto (-83), 3) := by decide +kernel
theorem dX11_back_98 : decode cX11_back 98 = .ok (.aload_n 0, 1) := by decide +kernel
theorem dX11_back_99 : decode cX11_back 99 = .ok (.getfield 9, 3) := by decide +kernel
theorem dX11_back_102 : decode cX11_back 102 = .ok (.bipush 82, 2) := by decide +kernel
theorem dX11_back_104 : decode cX11_back 104 = .ok (.aload_n 0, 1) := by decide +kernel
theorem dX11_back_105 : decode cX11_back 105 = .ok (.getfield 65, 3) := by decide +kernel
theorem dX11_back_108 : decode cX11_back 108 = .ok (.bipush 82, 2) := by decide +kernel
theorem dX11_back_110 : decode cX11_back 110 = .ok (.iaload, 1) := by decide +kernel
theorem dX11_back_111 : decode cX11_back 111 = .ok (.iastore, 1) := by decide +kernel
theorem dX11_back_112 : decode cX11_back 112 = .ok (.iconst 0, 1) := by decide +kernel
theorem dX11_back_113 : decode cX11_back 113 = .ok (.istore_n 1, 1) := by decide +kernel
theorem dX11_back_114 : decode cX11_back 114 = .ok (.iload_n 1, 1) := by decide +kernel
theorem dX11_back_115 : decode cX11_back 115 = .ok (.iconst 5, 1) := by decide +kernel
theorem dX11_back_116 : decode cX11_back 116 = .ok (.if_icmp .ge 21, 3) := by decide +kernel
theorem dX11_back_119 : decode cX11_back 119 = .ok (.aload_n 0, 1) := by decide +kernel
theorem dX11_back_120 : decode cX11_back 120 = .ok (.getfield 62, 3) := by decide +kernel
theorem dX11_back_123 : decode cX11_back 123 = .ok (.iload_n 1, 1) := by decide +kernel
theorem dX11_back_124 : decode cX11_back 124 = .ok (.aload_n 0, 1) := by decide +kernel
theorem dX11_back_125 : decode cX11_back 125 = .ok (.getfield 68, 3) := by decide +kernel
theorem dX11_back_128 : decode cX11_back 128 = .ok (.iload_n 1, 1) := by decide +kernel
theorem dX11_back_129 : decode cX11_back 129 = .ok (.iaload, 1) := by decide +kernel
theorem dX11_back_130 : decode cX11_back 130 = .ok (.iastore, 1) := by decide +kernel
theorem dX11_back_131 : decode cX11_back 131 = .ok (.iinc 1 1, 3) := by decide +kernel
theorem dX11_back_134 : decode cX11_back 134 = .ok (.goto (-20), 3) := by decide +kernel
theorem dX11_back_137 : decode cX11_back 137 = .ok (.aload_n 0, 1) := by decide +kernel
theorem dX11_back_138 : decode cX11_back 138 = .ok (.getfield 62, 3) := by decide +kernel
theorem dX11_back_141 : decode cX11_back 141 = .ok (.iconst 1, 1) := by decide +kernel
theorem dX11_back_142 : decode cX11_back 142 = .ok (.iaload, 1) := by decide +kernel
theorem dX11_back_143 : decode cX11_back 143 = .ok (.ireturn, 1) := by decide +kernel
theorem dX11_manyOpen_0 : decode cX11_manyOpen 0 = .ok (.aload_n 0, 1) := by decide +kernel
theorem dX11_manyOpen_1 : decode cX11_manyOpen 1 = .ok (.invokevirtual 231, 3) := by decide +kernel
theorem dX11_manyOpen_4 : decode cX11_manyOpen 4 = .ok (.aload_n 0, 1) := by decide +kernel
theorem dX11_manyOpen_5 : decode cX11_manyOpen 5 = .ok (.getfield 213, 3) := by decide +kernel
theorem dX11_manyOpen_8 : decode cX11_manyOpen 8 = .ok (.ireturn, 1) := by decide +kernel
theorem dX11_isBody_0 : decode cX11_isBody 0 = .ok (.iload_n 1, 1) := by decide +kernel
theorem dX11_isBody_1 : decode cX11_isBody 1 = .ok (.i2l, 1) := by decide +kernel
theorem dX11_isBody_2 : decode cX11_isBody 2 = .ok (.lconst 0, 1) := by decide +kernel
theorem dX11_isBody_3 : decode cX11_isBody 3 = .ok (.aload_n 0, 1) := by decide +kernel
theorem dX11_isBody_4 : decode cX11_isBody 4 = .ok (.getfield 317, 3) := by decide +kernel
theorem dX11_isBody_7 : decode cX11_isBody 7 = .ok (.iconst 1, 1) := by decide +kernel
theorem dX11_isBody_8 : decode cX11_isBody 8 = .ok (.isub, 1) := by decide +kernel
theorem dX11_isBody_9 : decode cX11_isBody 9 = .ok (.i2l, 1) := by decide +kernel
theorem dX11_isBody_10 : decode cX11_isBody 10 = .ok (.invokestatic 100, 3) := by decide +kernel
theorem dX11_isBody_13 : decode cX11_isBody 13 = .ok (.ireturn, 1) := by decide +kernel
theorem dX11_kindOf_0 : decode cX11_kindOf 0 = .ok (.aload_n 0, 1) := by decide +kernel
theorem dX11_kindOf_1 : decode cX11_kindOf 1 = .ok (.getfield 71, 3) := by decide +kernel
theorem dX11_kindOf_4 : decode cX11_kindOf 4 = .ok (.iload_n 1, 1) := by decide +kernel
theorem dX11_kindOf_5 : decode cX11_kindOf 5 = .ok (.iaload, 1) := by decide +kernel
theorem dX11_kindOf_6 : decode cX11_kindOf 6 = .ok (.ireturn, 1) := by decide +kernel
theorem dX11_body_0 : decode cX11_body 0 = .ok (.iload_n 1, 1) := by decide +kernel
theorem dX11_body_1 : decode cX11_body 1 = .ok (.i2l, 1) := by decide +kernel
theorem dX11_body_2 : decode cX11_body 2 = .ok (.lconst 0, 1) := by decide +kernel
theorem dX11_body_3 : decode cX11_body 3 = .ok (.ldc2_w 320, 3) := by decide +kernel
theorem dX11_body_6 : decode cX11_body 6 = .ok (.invokestatic 100, 3) := by decide +kernel
theorem dX11_body_9 : decode cX11_body 9 = .ok (.ifCond .ne 5, 3) := by decide +kernel
theorem dX11_body_12 : decode cX11_body 12 = .ok (.iconst (-1), 1) := by decide +kernel
theorem dX11_body_13 : decode cX11_body 13 = .ok (.ireturn, 1) := by decide +kernel
theorem dX11_body_14 : decode cX11_body 14 = .ok (.aload_n 0, 1) := by decide +kernel
theorem dX11_body_15 : decode cX11_body 15 = .ok (.getfield 317, 3) := by decide +kernel
theorem dX11_body_18 : decode cX11_body 18 = .ok (.bipush 50, 2) := by decide +kernel
theorem dX11_body_20 : decode cX11_body 20 = .ok (.if_icmp .ne 6, 3) := by decide +kernel
theorem dX11_body_23 : decode cX11_body 23 = .ok (.bipush (-3), 2) := by decide +kernel
theorem dX11_body_25 : decode cX11_body 25 = .ok (.ireturn, 1) := by decide +kernel
theorem dX11_body_26 : decode cX11_body 26 = .ok (.aload_n 0, 1) := by decide +kernel
theorem dX11_body_27 : decode cX11_body 27 = .ok (.getfield 71, 3) := by decide +kernel
theorem dX11_body_30 : decode cX11_body 30 = .ok (.aload_n 0, 1) := by decide +kernel
theorem dX11_body_31 : decode cX11_body 31 = .ok (.getfield 317, 3) := by decide +kernel
theorem dX11_body_34 : decode cX11_body 34 = .ok (.iload_n 1, 1) := by decide +kernel
theorem dX11_body_35 : decode cX11_body 35 = .ok (.iastore, 1) := by decide +kernel
theorem dX11_body_36 : decode cX11_body 36 = .ok (.aload_n 0, 1) := by decide +kernel
theorem dX11_body_37 : decode cX11_body 37 = .ok (.dup, 1) := by decide +kernel
theorem dX11_body_38 : decode cX11_body 38 = .ok (.getfield 317, 3) := by decide +kernel
theorem dX11_body_41 : decode cX11_body 41 = .ok (.iconst 1, 1) := by decide +kernel
theorem dX11_body_42 : decode cX11_body 42 = .ok (.iadd, 1) := by decide +kernel
theorem dX11_body_43 : decode cX11_body 43 = .ok (.putfield 317, 3) := by decide +kernel
theorem dX11_body_46 : decode cX11_body 46 = .ok (.aload_n 0, 1) := by decide +kernel
theorem dX11_body_47 : decode cX11_body 47 = .ok (.getfield 317, 3) := by decide +kernel
theorem dX11_body_50 : decode cX11_body 50 = .ok (.iconst 1, 1) := by decide +kernel
theorem dX11_body_51 : decode cX11_body 51 = .ok (.isub, 1) := by decide +kernel
theorem dX11_body_52 : decode cX11_body 52 = .ok (.ireturn, 1) := by decide +kernel
theorem dX11_above_0 : decode cX11_above 0 = .ok (.iload_n 0, 1) := by decide +kernel
theorem dX11_above_1 : decode cX11_above 1 = .ok (.iconst 3, 1) := by decide +kernel
theorem dX11_above_2 : decode cX11_above 2 = .ok (.if_icmp .ne 7, 3) := by decide +kernel
theorem dX11_above_5 : decode cX11_above 5 = .ok (.iconst 2, 1) := by decide +kernel
theorem dX11_above_6 : decode cX11_above 6 = .ok (.goto 32, 3) := by decide +kernel
theorem dX11_above_9 : decode cX11_above 9 = .ok (.iload_n 0, 1) := by decide +kernel
theorem dX11_above_10 : decode cX11_above 10 = .ok (.iconst 4, 1) := by decide +kernel
theorem dX11_above_11 : decode cX11_above 11 = .ok (.if_icmp .ne 7, 3) := by decide +kernel
theorem dX11_above_14 : decode cX11_above 14 = .ok (.iconst 1, 1) := by decide +kernel
theorem dX11_above_15 : decode cX11_above 15 = .ok (.goto 23, 3) := by decide +kernel
theorem dX11_above_18 : decode cX11_above 18 = .ok (.iload_n 0, 1) := by decide +kernel
theorem dX11_above_19 : decode cX11_above 19 = .ok (.iconst 5, 1) := by decide +kernel
theorem dX11_above_20 : decode cX11_above 20 = .ok (.if_icmp .ne 7, 3) := by decide +kernel
theorem dX11_above_23 : decode cX11_above 23 = .ok (.iconst 3, 1) := by decide +kernel
theorem dX11_above_24 : decode cX11_above 24 = .ok (.goto 14, 3) := by decide +kernel
theorem dX11_above_27 : decode cX11_above 27 = .ok (.iload_n 0, 1) := by decide +kernel
theorem dX11_above_28 : decode cX11_above 28 = .ok (.bipush 7, 2) := by decide +kernel
theorem dX11_above_30 : decode cX11_above 30 = .ok (.if_icmp .ne 7, 3) := by decide +kernel
theorem dX11_above_33 : decode cX11_above 33 = .ok (.iconst 4, 1) := by decide +kernel
theorem dX11_above_34 : decode cX11_above 34 = .ok (.goto 4, 3) := by decide +kernel
theorem dX11_above_37 : decode cX11_above 37 = .ok (.iconst 0, 1) := by decide +kernel
theorem dX11_above_38 : decode cX11_above 38 = .ok (.ireturn, 1) := by decide +kernel
theorem dX11_runs_0 : decode cX11_runs 0 = .ok (.aload_n 0, 1) := by decide +kernel
theorem dX11_runs_1 : decode cX11_runs 1 = .ok (.getfield 322, 3) := by decide +kernel
theorem dX11_runs_4 : decode cX11_runs 4 = .ok (.bipush 24, 2) := by decide +kernel
theorem dX11_runs_6 : decode cX11_runs 6 = .ok (.if_icmp .ge 13, 3) := by decide +kernel
theorem dX11_runs_9 : decode cX11_runs 9 = .ok (.aload_n 0, 1) := by decide +kernel
theorem dX11_runs_10 : decode cX11_runs 10 = .ok (.getfield 74, 3) := by decide +kernel
theorem dX11_runs_13 : decode cX11_runs 13 = .ok (.aload_n 0, 1) := by decide +kernel
theorem dX11_runs_14 : decode cX11_runs 14 = .ok (.getfield 322, 3) := by decide +kernel
theorem dX11_runs_17 : decode cX11_runs 17 = .ok (.iload_n 1, 1) := by decide +kernel
theorem dX11_runs_18 : decode cX11_runs 18 = .ok (.iastore, 1) := by decide +kernel
theorem dX11_runs_19 : decode cX11_runs 19 = .ok (.aload_n 0, 1) := by decide +kernel
theorem dX11_runs_20 : decode cX11_runs 20 = .ok (.dup, 1) := by decide +kernel
theorem dX11_runs_21 : decode cX11_runs 21 = .ok (.getfield 322, 3) := by decide +kernel
theorem dX11_runs_24 : decode cX11_runs 24 = .ok (.iconst 1, 1) := by decide +kernel
theorem dX11_runs_25 : decode cX11_runs 25 = .ok (.iadd, 1) := by decide +kernel
theorem dX11_runs_26 : decode cX11_runs 26 = .ok (.putfield 322, 3) := by decide +kernel
theorem dX11_runs_29 : decode cX11_runs 29 = .ok (.return_, 1) := by decide +kernel
theorem dX11_thinksAs_0 : decode cX11_thinksAs 0 = .ok (.iload_n 1, 1) := by decide +kernel
theorem dX11_thinksAs_1 : decode cX11_thinksAs 1 = .ok (.iconst 1, 1) := by decide +kernel
theorem dX11_thinksAs_2 : decode cX11_thinksAs 2 = .ok (.if_icmp .eq 14, 3) := by decide +kernel
theorem dX11_thinksAs_5 : decode cX11_thinksAs 5 = .ok (.iload_n 1, 1) := by decide +kernel
theorem dX11_thinksAs_6 : decode cX11_thinksAs 6 = .ok (.iconst 4, 1) := by decide +kernel
theorem dX11_thinksAs_7 : decode cX11_thinksAs 7 = .ok (.if_icmp .eq 9, 3) := by decide +kernel
theorem dX11_thinksAs_10 : decode cX11_thinksAs 10 = .ok (.iload_n 1, 1) := by decide +kernel
theorem dX11_thinksAs_11 : decode cX11_thinksAs 11 = .ok (.bipush 7, 2) := by decide +kernel
theorem dX11_thinksAs_13 : decode cX11_thinksAs 13 = .ok (.if_icmp .ne 18, 3) := by decide +kernel
theorem dX11_thinksAs_16 : decode cX11_thinksAs 16 = .ok (.aload_n 0, 1) := by decide +kernel
theorem dX11_thinksAs_17 : decode cX11_thinksAs 17 = .ok (.bipush 20, 2) := by decide +kernel
theorem dX11_thinksAs_19 : decode cX11_thinksAs 19 = .ok (.invokevirtual 325, 3) := by decide +kernel
theorem dX11_thinksAs_22 : decode cX11_thinksAs 22 = .ok (.aload_n 0, 1) := by decide +kernel
theorem dX11_thinksAs_23 : decode cX11_thinksAs 23 = .ok (.iconst 0, 1) := by decide +kernel
theorem dX11_thinksAs_24 : decode cX11_thinksAs 24 = .ok (.iload_n 2, 1) := by decide +kernel
theorem dX11_thinksAs_25 : decode cX11_thinksAs 25 = .ok (.invokevirtual 328, 3) := by decide +kernel
theorem dX11_thinksAs_28 : decode cX11_thinksAs 28 = .ok (.iconst 3, 1) := by decide +kernel
theorem dX11_thinksAs_29 : decode cX11_thinksAs 29 = .ok (.iadd, 1) := by decide +kernel
theorem dX11_thinksAs_30 : decode cX11_thinksAs 30 = .ok (.ireturn, 1) := by decide +kernel
theorem dX11_thinksAs_31 : decode cX11_thinksAs 31 = .ok (.iload_n 1, 1) := by decide +kernel
theorem dX11_thinksAs_32 : decode cX11_thinksAs 32 = .ok (.bipush 6, 2) := by decide +kernel
theorem dX11_thinksAs_34 : decode cX11_thinksAs 34 = .ok (.if_icmp .ne 18, 3) := by decide +kernel
theorem dX11_thinksAs_37 : decode cX11_thinksAs 37 = .ok (.aload_n 0, 1) := by decide +kernel
theorem dX11_thinksAs_38 : decode cX11_thinksAs 38 = .ok (.bipush 70, 2) := by decide +kernel
theorem dX11_thinksAs_40 : decode cX11_thinksAs 40 = .ok (.invokevirtual 325, 3) := by decide +kernel
theorem dX11_thinksAs_43 : decode cX11_thinksAs 43 = .ok (.aload_n 0, 1) := by decide +kernel
theorem dX11_thinksAs_44 : decode cX11_thinksAs 44 = .ok (.iconst 0, 1) := by decide +kernel
theorem dX11_thinksAs_45 : decode cX11_thinksAs 45 = .ok (.iload_n 2, 1) := by decide +kernel
theorem dX11_thinksAs_46 : decode cX11_thinksAs 46 = .ok (.invokevirtual 328, 3) := by decide +kernel
theorem dX11_thinksAs_49 : decode cX11_thinksAs 49 = .ok (.iconst 2, 1) := by decide +kernel
theorem dX11_thinksAs_50 : decode cX11_thinksAs 50 = .ok (.imul, 1) := by decide +kernel
theorem dX11_thinksAs_51 : decode cX11_thinksAs 51 = .ok (.ireturn, 1) := by decide +kernel
theorem dX11_thinksAs_52 : decode cX11_thinksAs 52 = .ok (.aload_n 0, 1) := by decide +kernel
theorem dX11_thinksAs_53 : decode cX11_thinksAs 53 = .ok (.iconst 1, 1) := by decide +kernel
theorem dX11_thinksAs_54 : decode cX11_thinksAs 54 = .ok (.invokevirtual 325, 3) := by decide +kernel
theorem dX11_thinksAs_57 : decode cX11_thinksAs 57 = .ok (.iload_n 2, 1) := by decide +kernel
theorem dX11_thinksAs_58 : decode cX11_thinksAs 58 = .ok (.aload_n 0, 1) := by decide +kernel
theorem dX11_thinksAs_59 : decode cX11_thinksAs 59 = .ok (.getfield 331, 3) := by decide +kernel
theorem dX11_thinksAs_62 : decode cX11_thinksAs 62 = .ok (.iadd, 1) := by decide +kernel
theorem dX11_thinksAs_63 : decode cX11_thinksAs 63 = .ok (.ireturn, 1) := by decide +kernel
theorem dX11_saysAs_0 : decode cX11_saysAs 0 = .ok (.iload_n 1, 1) := by decide +kernel
theorem dX11_saysAs_1 : decode cX11_saysAs 1 = .ok (.iconst 3, 1) := by decide +kernel
theorem dX11_saysAs_2 : decode cX11_saysAs 2 = .ok (.if_icmp .eq 8, 3) := by decide +kernel
theorem dX11_saysAs_5 : decode cX11_saysAs 5 = .ok (.iload_n 1, 1) := by decide +kernel
theorem dX11_saysAs_6 : decode cX11_saysAs 6 = .ok (.iconst 5, 1) := by decide +kernel
theorem dX11_saysAs_7 : decode cX11_saysAs 7 = .ok (.if_icmp .ne 18, 3) := by decide +kernel
theorem dX11_saysAs_10 : decode cX11_saysAs 10 = .ok (.aload_n 0, 1) := by decide +kernel
theorem dX11_saysAs_11 : decode cX11_saysAs 11 = .ok (.bipush 41, 2) := by decide +kernel
theorem dX11_saysAs_13 : decode cX11_saysAs 13 = .ok (.invokevirtual 325, 3) := by decide +kernel
theorem dX11_saysAs_16 : decode cX11_saysAs 16 = .ok (.aload_n 0, 1) := by decide +kernel
theorem dX11_saysAs_17 : decode cX11_saysAs 17 = .ok (.iconst 2, 1) := by decide +kernel
theorem dX11_saysAs_18 : decode cX11_saysAs 18 = .ok (.iload_n 2, 1) := by decide +kernel
theorem dX11_saysAs_19 : decode cX11_saysAs 19 = .ok (.iconst 1, 1) := by decide +kernel
theorem dX11_saysAs_20 : decode cX11_saysAs 20 = .ok (.iadd, 1) := by decide +kernel
theorem dX11_saysAs_21 : decode cX11_saysAs 21 = .ok (.invokevirtual 334, 3) := by decide +kernel
theorem dX11_saysAs_24 : decode cX11_saysAs 24 = .ok (.ireturn, 1) := by decide +kernel
theorem dX11_saysAs_25 : decode cX11_saysAs 25 = .ok (.iload_n 1, 1) := by decide +kernel
theorem dX11_saysAs_26 : decode cX11_saysAs 26 = .ok (.iconst 2, 1) := by decide +kernel
theorem dX11_saysAs_27 : decode cX11_saysAs 27 = .ok (.if_icmp .ne 17, 3) := by decide +kernel
theorem dX11_saysAs_30 : decode cX11_saysAs 30 = .ok (.aload_n 0, 1) := by decide +kernel
theorem dX11_saysAs_31 : decode cX11_saysAs 31 = .ok (.bipush 30, 2) := by decide +kernel
theorem dX11_saysAs_33 : decode cX11_saysAs 33 = .ok (.invokevirtual 325, 3) := by decide +kernel
theorem dX11_saysAs_36 : decode cX11_saysAs 36 = .ok (.aload_n 0, 1) := by decide +kernel
theorem dX11_saysAs_37 : decode cX11_saysAs 37 = .ok (.iconst 0, 1) := by decide +kernel
theorem dX11_saysAs_38 : decode cX11_saysAs 38 = .ok (.iload_n 2, 1) := by decide +kernel
theorem dX11_saysAs_39 : decode cX11_saysAs 39 = .ok (.invokevirtual 334, 3) := by decide +kernel
theorem dX11_saysAs_42 : decode cX11_saysAs 42 = .ok (.ineg, 1) := by decide +kernel
theorem dX11_saysAs_43 : decode cX11_saysAs 43 = .ok (.ireturn, 1) := by decide +kernel
theorem dX11_saysAs_44 : decode cX11_saysAs 44 = .ok (.iload_n 1, 1) := by decide +kernel
theorem dX11_saysAs_45 : decode cX11_saysAs 45 = .ok (.bipush 7, 2) := by decide +kernel
theorem dX11_saysAs_47 : decode cX11_saysAs 47 = .ok (.if_icmp .ne 28, 3) := by decide +kernel
theorem dX11_saysAs_50 : decode cX11_saysAs 50 = .ok (.aload_n 0, 1) := by decide +kernel
theorem dX11_saysAs_51 : decode cX11_saysAs 51 = .ok (.bipush 80, 2) := by decide +kernel
theorem dX11_saysAs_53 : decode cX11_saysAs 53 = .ok (.invokevirtual 325, 3) := by decide +kernel
theorem dX11_saysAs_56 : decode cX11_saysAs 56 = .ok (.aload_n 0, 1) := by decide +kernel
theorem dX11_saysAs_57 : decode cX11_saysAs 57 = .ok (.iconst 4, 1) := by decide +kernel
theorem dX11_saysAs_58 : decode cX11_saysAs 58 = .ok (.iload_n 2, 1) := by decide +kernel
theorem dX11_saysAs_59 : decode cX11_saysAs 59 = .ok (.invokevirtual 334, 3) := by decide +kernel
theorem dX11_saysAs_62 : decode cX11_saysAs 62 = .ok (.istore_n 3, 1) := by decide +kernel
theorem dX11_saysAs_63 : decode cX11_saysAs 63 = .ok (.iload_n 3, 1) := by decide +kernel
theorem dX11_saysAs_64 : decode cX11_saysAs 64 = .ok (.aload_n 0, 1) := by decide +kernel
theorem dX11_saysAs_65 : decode cX11_saysAs 65 = .ok (.aload_n 0, 1) := by decide +kernel
theorem dX11_saysAs_66 : decode cX11_saysAs 66 = .ok (.getfield 337, 3) := by decide +kernel
theorem dX11_saysAs_69 : decode cX11_saysAs 69 = .ok (.iconst 2, 1) := by decide +kernel
theorem dX11_saysAs_70 : decode cX11_saysAs 70 = .ok (.invokevirtual 340, 3) := by decide +kernel
theorem dX11_saysAs_73 : decode cX11_saysAs 73 = .ok (.iadd, 1) := by decide +kernel
theorem dX11_saysAs_74 : decode cX11_saysAs 74 = .ok (.ireturn, 1) := by decide +kernel
theorem dX11_saysAs_75 : decode cX11_saysAs 75 = .ok (.aload_n 0, 1) := by decide +kernel
theorem dX11_saysAs_76 : decode cX11_saysAs 76 = .ok (.bipush 10, 2) := by decide +kernel
theorem dX11_saysAs_78 : decode cX11_saysAs 78 = .ok (.invokevirtual 325, 3) := by decide +kernel
theorem dX11_saysAs_81 : decode cX11_saysAs 81 = .ok (.aload_n 0, 1) := by decide +kernel
theorem dX11_saysAs_82 : decode cX11_saysAs 82 = .ok (.aload_n 0, 1) := by decide +kernel
theorem dX11_saysAs_83 : decode cX11_saysAs 83 = .ok (.getfield 337, 3) := by decide +kernel
theorem dX11_saysAs_86 : decode cX11_saysAs 86 = .ok (.iload_n 2, 1) := by decide +kernel
theorem dX11_saysAs_87 : decode cX11_saysAs 87 = .ok (.invokevirtual 328, 3) := by decide +kernel
theorem dX11_saysAs_90 : decode cX11_saysAs 90 = .ok (.iconst 2, 1) := by decide +kernel
theorem dX11_saysAs_91 : decode cX11_saysAs 91 = .ok (.imul, 1) := by decide +kernel
theorem dX11_saysAs_92 : decode cX11_saysAs 92 = .ok (.ireturn, 1) := by decide +kernel
theorem dX11_blinksAs_0 : decode cX11_blinksAs 0 = .ok (.iload_n 1, 1) := by decide +kernel
theorem dX11_blinksAs_1 : decode cX11_blinksAs 1 = .ok (.iconst 3, 1) := by decide +kernel
theorem dX11_blinksAs_2 : decode cX11_blinksAs 2 = .ok (.if_icmp .eq 8, 3) := by decide +kernel
theorem dX11_blinksAs_5 : decode cX11_blinksAs 5 = .ok (.iload_n 1, 1) := by decide +kernel
theorem dX11_blinksAs_6 : decode cX11_blinksAs 6 = .ok (.iconst 5, 1) := by decide +kernel
theorem dX11_blinksAs_7 : decode cX11_blinksAs 7 = .ok (.if_icmp .ne 18, 3) := by decide +kernel
theorem dX11_blinksAs_10 : decode cX11_blinksAs 10 = .ok (.aload_n 0, 1) := by decide +kernel
theorem dX11_blinksAs_11 : decode cX11_blinksAs 11 = .ok (.bipush 40, 2) := by decide +kernel
theorem dX11_blinksAs_13 : decode cX11_blinksAs 13 = .ok (.invokevirtual 325, 3) := by decide +kernel
theorem dX11_blinksAs_16 : decode cX11_blinksAs 16 = .ok (.aload_n 0, 1) := by decide +kernel
theorem dX11_blinksAs_17 : decode cX11_blinksAs 17 = .ok (.iconst 2, 1) := by decide +kernel
theorem dX11_blinksAs_18 : decode cX11_blinksAs 18 = .ok (.iload_n 2, 1) := by decide +kernel
theorem dX11_blinksAs_19 : decode cX11_blinksAs 19 = .ok (.invokevirtual 340, 3) := by decide +kernel
theorem dX11_blinksAs_22 : decode cX11_blinksAs 22 = .ok (.iconst 3, 1) := by decide +kernel
theorem dX11_blinksAs_23 : decode cX11_blinksAs 23 = .ok (.imul, 1) := by decide +kernel
theorem dX11_blinksAs_24 : decode cX11_blinksAs 24 = .ok (.ireturn, 1) := by decide +kernel
theorem dX11_blinksAs_25 : decode cX11_blinksAs 25 = .ok (.iload_n 1, 1) := by decide +kernel
theorem dX11_blinksAs_26 : decode cX11_blinksAs 26 = .ok (.iconst 4, 1) := by decide +kernel
theorem dX11_blinksAs_27 : decode cX11_blinksAs 27 = .ok (.if_icmp .eq 9, 3) := by decide +kernel
theorem dX11_blinksAs_30 : decode cX11_blinksAs 30 = .ok (.iload_n 1, 1) := by decide +kernel
theorem dX11_blinksAs_31 : decode cX11_blinksAs 31 = .ok (.bipush 7, 2) := by decide +kernel
theorem dX11_blinksAs_33 : decode cX11_blinksAs 33 = .ok (.if_icmp .ne 28, 3) := by decide +kernel
theorem dX11_blinksAs_36 : decode cX11_blinksAs 36 = .ok (.aload_n 0, 1) := by decide +kernel
theorem dX11_blinksAs_37 : decode cX11_blinksAs 37 = .ok (.bipush 50, 2) := by decide +kernel
theorem dX11_blinksAs_39 : decode cX11_blinksAs 39 = .ok (.invokevirtual 325, 3) := by decide +kernel
theorem dX11_blinksAs_42 : decode cX11_blinksAs 42 = .ok (.aload_n 0, 1) := by decide +kernel
theorem dX11_blinksAs_43 : decode cX11_blinksAs 43 = .ok (.iconst 1, 1) := by decide +kernel
theorem dX11_blinksAs_44 : decode cX11_blinksAs 44 = .ok (.iload_n 2, 1) := by decide +kernel
theorem dX11_blinksAs_45 : decode cX11_blinksAs 45 = .ok (.invokevirtual 340, 3) := by decide +kernel
theorem dX11_blinksAs_48 : decode cX11_blinksAs 48 = .ok (.istore_n 3, 1) := by decide +kernel
theorem dX11_blinksAs_49 : decode cX11_blinksAs 49 = .ok (.iload_n 3, 1) := by decide +kernel
theorem dX11_blinksAs_50 : decode cX11_blinksAs 50 = .ok (.aload_n 0, 1) := by decide +kernel
theorem dX11_blinksAs_51 : decode cX11_blinksAs 51 = .ok (.aload_n 0, 1) := by decide +kernel
theorem dX11_blinksAs_52 : decode cX11_blinksAs 52 = .ok (.getfield 337, 3) := by decide +kernel
theorem dX11_blinksAs_55 : decode cX11_blinksAs 55 = .ok (.iconst 2, 1) := by decide +kernel
theorem dX11_blinksAs_56 : decode cX11_blinksAs 56 = .ok (.invokevirtual 328, 3) := by decide +kernel
theorem dX11_blinksAs_59 : decode cX11_blinksAs 59 = .ok (.isub, 1) := by decide +kernel
theorem dX11_blinksAs_60 : decode cX11_blinksAs 60 = .ok (.ireturn, 1) := by decide +kernel
theorem dX11_blinksAs_61 : decode cX11_blinksAs 61 = .ok (.aload_n 0, 1) := by decide +kernel
theorem dX11_blinksAs_62 : decode cX11_blinksAs 62 = .ok (.bipush 11, 2) := by decide +kernel
theorem dX11_blinksAs_64 : decode cX11_blinksAs 64 = .ok (.invokevirtual 325, 3) := by decide +kernel
theorem dX11_blinksAs_67 : decode cX11_blinksAs 67 = .ok (.iload_n 2, 1) := by decide +kernel
theorem dX11_blinksAs_68 : decode cX11_blinksAs 68 = .ok (.aload_n 0, 1) := by decide +kernel
theorem dX11_blinksAs_69 : decode cX11_blinksAs 69 = .ok (.getfield 331, 3) := by decide +kernel
theorem dX11_blinksAs_72 : decode cX11_blinksAs 72 = .ok (.ixor, 1) := by decide +kernel
theorem dX11_blinksAs_73 : decode cX11_blinksAs 73 = .ok (.ireturn, 1) := by decide +kernel
theorem dX11_tellsAs_0 : decode cX11_tellsAs 0 = .ok (.iload_n 1, 1) := by decide +kernel
theorem dX11_tellsAs_1 : decode cX11_tellsAs 1 = .ok (.iconst 5, 1) := by decide +kernel
theorem dX11_tellsAs_2 : decode cX11_tellsAs 2 = .ok (.if_icmp .ne 18, 3) := by decide +kernel
theorem dX11_tellsAs_5 : decode cX11_tellsAs 5 = .ok (.aload_n 0, 1) := by decide +kernel
theorem dX11_tellsAs_6 : decode cX11_tellsAs 6 = .ok (.bipush 60, 2) := by decide +kernel
theorem dX11_tellsAs_8 : decode cX11_tellsAs 8 = .ok (.invokevirtual 325, 3) := by decide +kernel
theorem dX11_tellsAs_11 : decode cX11_tellsAs 11 = .ok (.aload_n 0, 1) := by decide +kernel
theorem dX11_tellsAs_12 : decode cX11_tellsAs 12 = .ok (.iconst 3, 1) := by decide +kernel
theorem dX11_tellsAs_13 : decode cX11_tellsAs 13 = .ok (.iload_n 2, 1) := by decide +kernel
theorem dX11_tellsAs_14 : decode cX11_tellsAs 14 = .ok (.invokevirtual 343, 3) := by decide +kernel
theorem dX11_tellsAs_17 : decode cX11_tellsAs 17 = .ok (.iconst 5, 1) := by decide +kernel
theorem dX11_tellsAs_18 : decode cX11_tellsAs 18 = .ok (.ixor, 1) := by decide +kernel
theorem dX11_tellsAs_19 : decode cX11_tellsAs 19 = .ok (.ireturn, 1) := by decide +kernel
theorem dX11_tellsAs_20 : decode cX11_tellsAs 20 = .ok (.iload_n 1, 1) := by decide +kernel
theorem dX11_tellsAs_21 : decode cX11_tellsAs 21 = .ok (.bipush 7, 2) := by decide +kernel
theorem dX11_tellsAs_23 : decode cX11_tellsAs 23 = .ok (.if_icmp .ne 18, 3) := by decide +kernel
theorem dX11_tellsAs_26 : decode cX11_tellsAs 26 = .ok (.aload_n 0, 1) := by decide +kernel
theorem dX11_tellsAs_27 : decode cX11_tellsAs 27 = .ok (.bipush 81, 2) := by decide +kernel
theorem dX11_tellsAs_29 : decode cX11_tellsAs 29 = .ok (.invokevirtual 325, 3) := by decide +kernel
theorem dX11_tellsAs_32 : decode cX11_tellsAs 32 = .ok (.aload_n 0, 1) := by decide +kernel
theorem dX11_tellsAs_33 : decode cX11_tellsAs 33 = .ok (.iconst 4, 1) := by decide +kernel
theorem dX11_tellsAs_34 : decode cX11_tellsAs 34 = .ok (.iload_n 2, 1) := by decide +kernel
theorem dX11_tellsAs_35 : decode cX11_tellsAs 35 = .ok (.invokevirtual 343, 3) := by decide +kernel
theorem dX11_tellsAs_38 : decode cX11_tellsAs 38 = .ok (.iconst 1, 1) := by decide +kernel
theorem dX11_tellsAs_39 : decode cX11_tellsAs 39 = .ok (.isub, 1) := by decide +kernel
theorem dX11_tellsAs_40 : decode cX11_tellsAs 40 = .ok (.ireturn, 1) := by decide +kernel
theorem dX11_tellsAs_41 : decode cX11_tellsAs 41 = .ok (.aload_n 0, 1) := by decide +kernel
theorem dX11_tellsAs_42 : decode cX11_tellsAs 42 = .ok (.iconst 2, 1) := by decide +kernel
theorem dX11_tellsAs_43 : decode cX11_tellsAs 43 = .ok (.invokevirtual 325, 3) := by decide +kernel
theorem dX11_tellsAs_46 : decode cX11_tellsAs 46 = .ok (.aload_n 0, 1) := by decide +kernel
theorem dX11_tellsAs_47 : decode cX11_tellsAs 47 = .ok (.aload_n 0, 1) := by decide +kernel
theorem dX11_tellsAs_48 : decode cX11_tellsAs 48 = .ok (.getfield 337, 3) := by decide +kernel
theorem dX11_tellsAs_51 : decode cX11_tellsAs 51 = .ok (.iload_n 2, 1) := by decide +kernel
theorem dX11_tellsAs_52 : decode cX11_tellsAs 52 = .ok (.invokevirtual 334, 3) := by decide +kernel
theorem dX11_tellsAs_55 : decode cX11_tellsAs 55 = .ok (.istore_n 3, 1) := by decide +kernel
theorem dX11_tellsAs_56 : decode cX11_tellsAs 56 = .ok (.iload_n 3, 1) := by decide +kernel
theorem dX11_tellsAs_57 : decode cX11_tellsAs 57 = .ok (.aload_n 0, 1) := by decide +kernel
theorem dX11_tellsAs_58 : decode cX11_tellsAs 58 = .ok (.aload_n 0, 1) := by decide +kernel
theorem dX11_tellsAs_59 : decode cX11_tellsAs 59 = .ok (.getfield 337, 3) := by decide +kernel
theorem dX11_tellsAs_62 : decode cX11_tellsAs 62 = .ok (.iconst 1, 1) := by decide +kernel
theorem dX11_tellsAs_63 : decode cX11_tellsAs 63 = .ok (.invokevirtual 340, 3) := by decide +kernel
theorem dX11_tellsAs_66 : decode cX11_tellsAs 66 = .ok (.isub, 1) := by decide +kernel
theorem dX11_tellsAs_67 : decode cX11_tellsAs 67 = .ok (.ireturn, 1) := by decide +kernel
theorem dX11_act_0 : decode cX11_act 0 = .ok (.aload_n 0, 1) := by decide +kernel
theorem dX11_act_1 : decode cX11_act 1 = .ok (.iconst 0, 1) := by decide +kernel
theorem dX11_act_2 : decode cX11_act 2 = .ok (.putfield 322, 3) := by decide +kernel
theorem dX11_act_5 : decode cX11_act 5 = .ok (.aload_n 0, 1) := by decide +kernel
theorem dX11_act_6 : decode cX11_act 6 = .ok (.iload_n 1, 1) := by decide +kernel
theorem dX11_act_7 : decode cX11_act 7 = .ok (.invokevirtual 346, 3) := by decide +kernel
theorem dX11_act_10 : decode cX11_act 10 = .ok (.ifCond .ne 5, 3) := by decide +kernel
theorem dX11_act_13 : decode cX11_act 13 = .ok (.iconst 0, 1) := by decide +kernel
theorem dX11_act_14 : decode cX11_act 14 = .ok (.ireturn, 1) := by decide +kernel
theorem dX11_act_15 : decode cX11_act 15 = .ok (.aload_n 0, 1) := by decide +kernel
theorem dX11_act_16 : decode cX11_act 16 = .ok (.aload_n 0, 1) := by decide +kernel
theorem dX11_act_17 : decode cX11_act 17 = .ok (.getfield 71, 3) := by decide +kernel
theorem dX11_act_20 : decode cX11_act 20 = .ok (.iload_n 1, 1) := by decide +kernel
theorem dX11_act_21 : decode cX11_act 21 = .ok (.iaload, 1) := by decide +kernel
theorem dX11_act_22 : decode cX11_act 22 = .ok (.putfield 337, 3) := by decide +kernel
theorem dX11_act_25 : decode cX11_act 25 = .ok (.aload_n 0, 1) := by decide +kernel
theorem dX11_act_26 : decode cX11_act 26 = .ok (.iload_n 1, 1) := by decide +kernel
theorem dX11_act_27 : decode cX11_act 27 = .ok (.putfield 331, 3) := by decide +kernel
theorem dX11_act_30 : decode cX11_act 30 = .ok (.iload_n 2, 1) := by decide +kernel
theorem dX11_act_31 : decode cX11_act 31 = .ok (.tableswitch 69 0 3 #[29, 39, 49, 59], 29) := by decide +kernel
theorem dX11_act_60 : decode cX11_act 60 = .ok (.aload_n 0, 1) := by decide +kernel
theorem dX11_act_61 : decode cX11_act 61 = .ok (.aload_n 0, 1) := by decide +kernel
theorem dX11_act_62 : decode cX11_act 62 = .ok (.getfield 337, 3) := by decide +kernel
theorem dX11_act_65 : decode cX11_act 65 = .ok (.iload_n 3, 1) := by decide +kernel
theorem dX11_act_66 : decode cX11_act 66 = .ok (.invokevirtual 328, 3) := by decide +kernel
theorem dX11_act_69 : decode cX11_act 69 = .ok (.ireturn, 1) := by decide +kernel
theorem dX11_act_70 : decode cX11_act 70 = .ok (.aload_n 0, 1) := by decide +kernel
theorem dX11_act_71 : decode cX11_act 71 = .ok (.aload_n 0, 1) := by decide +kernel
theorem dX11_act_72 : decode cX11_act 72 = .ok (.getfield 337, 3) := by decide +kernel
theorem dX11_act_75 : decode cX11_act 75 = .ok (.iload_n 3, 1) := by decide +kernel
theorem dX11_act_76 : decode cX11_act 76 = .ok (.invokevirtual 334, 3) := by decide +kernel
theorem dX11_act_79 : decode cX11_act 79 = .ok (.ireturn, 1) := by decide +kernel
theorem dX11_act_80 : decode cX11_act 80 = .ok (.aload_n 0, 1) := by decide +kernel
theorem dX11_act_81 : decode cX11_act 81 = .ok (.aload_n 0, 1) := by decide +kernel
theorem dX11_act_82 : decode cX11_act 82 = .ok (.getfield 337, 3) := by decide +kernel
theorem dX11_act_85 : decode cX11_act 85 = .ok (.iload_n 3, 1) := by decide +kernel
theorem dX11_act_86 : decode cX11_act 86 = .ok (.invokevirtual 340, 3) := by decide +kernel
theorem dX11_act_89 : decode cX11_act 89 = .ok (.ireturn, 1) := by decide +kernel
theorem dX11_act_90 : decode cX11_act 90 = .ok (.aload_n 0, 1) := by decide +kernel
theorem dX11_act_91 : decode cX11_act 91 = .ok (.aload_n 0, 1) := by decide +kernel
theorem dX11_act_92 : decode cX11_act 92 = .ok (.getfield 337, 3) := by decide +kernel
theorem dX11_act_95 : decode cX11_act 95 = .ok (.iload_n 3, 1) := by decide +kernel
theorem dX11_act_96 : decode cX11_act 96 = .ok (.invokevirtual 343, 3) := by decide +kernel
theorem dX11_act_99 : decode cX11_act 99 = .ok (.ireturn, 1) := by decide +kernel
theorem dX11_act_100 : decode cX11_act 100 = .ok (.iconst 0, 1) := by decide +kernel
theorem dX11_act_101 : decode cX11_act 101 = .ok (.ireturn, 1) := by decide +kernel
theorem dX11_trace_0 : decode cX11_trace 0 = .ok (.iload_n 1, 1) := by decide +kernel
theorem dX11_trace_1 : decode cX11_trace 1 = .ok (.ifCond .lt 26, 3) := by decide +kernel
theorem dX11_trace_4 : decode cX11_trace 4 = .ok (.iload_n 1, 1) := by decide +kernel
theorem dX11_trace_5 : decode cX11_trace 5 = .ok (.aload_n 0, 1) := by decide +kernel
theorem dX11_trace_6 : decode cX11_trace 6 = .ok (.getfield 322, 3) := by decide +kernel
theorem dX11_trace_9 : decode cX11_trace 9 = .ok (.if_icmp .ge 18, 3) := by decide +kernel
theorem dX11_trace_12 : decode cX11_trace 12 = .ok (.iload_n 1, 1) := by decide +kernel
theorem dX11_trace_13 : decode cX11_trace 13 = .ok (.bipush 24, 2) := by decide +kernel
theorem dX11_trace_15 : decode cX11_trace 15 = .ok (.if_icmp .ge 12, 3) := by decide +kernel
theorem dX11_trace_18 : decode cX11_trace 18 = .ok (.aload_n 0, 1) := by decide +kernel
theorem dX11_trace_19 : decode cX11_trace 19 = .ok (.getfield 74, 3) := by decide +kernel
theorem dX11_trace_22 : decode cX11_trace 22 = .ok (.iload_n 1, 1) := by decide +kernel
theorem dX11_trace_23 : decode cX11_trace 23 = .ok (.iaload, 1) := by decide +kernel
theorem dX11_trace_24 : decode cX11_trace 24 = .ok (.goto 4, 3) := by decide +kernel
theorem dX11_trace_27 : decode cX11_trace 27 = .ok (.iconst (-1), 1) := by decide +kernel
theorem dX11_trace_28 : decode cX11_trace 28 = .ok (.ireturn, 1) := by decide +kernel
theorem dX11_isShelf_0 : decode cX11_isShelf 0 = .ok (.iload_n 0, 1) := by decide +kernel
theorem dX11_isShelf_1 : decode cX11_isShelf 1 = .ok (.i2l, 1) := by decide +kernel
theorem dX11_isShelf_2 : decode cX11_isShelf 2 = .ok (.lconst 0, 1) := by decide +kernel
theorem dX11_isShelf_3 : decode cX11_isShelf 3 = .ok (.ldc2_w 130, 3) := by decide +kernel
theorem dX11_isShelf_6 : decode cX11_isShelf 6 = .ok (.invokestatic 100, 3) := by decide +kernel
theorem dX11_isShelf_9 : decode cX11_isShelf 9 = .ok (.ireturn, 1) := by decide +kernel
theorem dX11_keep_0 : decode cX11_keep 0 = .ok (.iload_n 1, 1) := by decide +kernel
theorem dX11_keep_1 : decode cX11_keep 1 = .ok (.invokestatic 119, 3) := by decide +kernel
theorem dX11_keep_4 : decode cX11_keep 4 = .ok (.ifCond .eq 16, 3) := by decide +kernel
theorem dX11_keep_7 : decode cX11_keep 7 = .ok (.iload_n 2, 1) := by decide +kernel
theorem dX11_keep_8 : decode cX11_keep 8 = .ok (.iconst (-1), 1) := by decide +kernel
theorem dX11_keep_9 : decode cX11_keep 9 = .ok (.if_icmp .eq 13, 3) := by decide +kernel
theorem dX11_keep_12 : decode cX11_keep 12 = .ok (.aload_n 0, 1) := by decide +kernel
theorem dX11_keep_13 : decode cX11_keep 13 = .ok (.iload_n 2, 1) := by decide +kernel
theorem dX11_keep_14 : decode cX11_keep 14 = .ok (.invokevirtual 346, 3) := by decide +kernel
theorem dX11_keep_17 : decode cX11_keep 17 = .ok (.ifCond .ne 5, 3) := by decide +kernel
theorem dX11_keep_20 : decode cX11_keep 20 = .ok (.iconst (-1), 1) := by decide +kernel
theorem dX11_keep_21 : decode cX11_keep 21 = .ok (.ireturn, 1) := by decide +kernel
theorem dX11_keep_22 : decode cX11_keep 22 = .ok (.aload_n 0, 1) := by decide +kernel
theorem dX11_keep_23 : decode cX11_keep 23 = .ok (.getfield 77, 3) := by decide +kernel
theorem dX11_keep_26 : decode cX11_keep 26 = .ok (.iload_n 1, 1) := by decide +kernel
theorem dX11_keep_27 : decode cX11_keep 27 = .ok (.iload_n 2, 1) := by decide +kernel
theorem dX11_keep_28 : decode cX11_keep 28 = .ok (.iastore, 1) := by decide +kernel
theorem dX11_keep_29 : decode cX11_keep 29 = .ok (.aload_n 0, 1) := by decide +kernel
theorem dX11_keep_30 : decode cX11_keep 30 = .ok (.getfield 80, 3) := by decide +kernel
theorem dX11_keep_33 : decode cX11_keep 33 = .ok (.iload_n 1, 1) := by decide +kernel
theorem dX11_keep_34 : decode cX11_keep 34 = .ok (.iconst 0, 1) := by decide +kernel
theorem dX11_keep_35 : decode cX11_keep 35 = .ok (.iastore, 1) := by decide +kernel
theorem dX11_keep_36 : decode cX11_keep 36 = .ok (.iconst 1, 1) := by decide +kernel
theorem dX11_keep_37 : decode cX11_keep 37 = .ok (.ireturn, 1) := by decide +kernel
theorem dX11_row_0 : decode cX11_row 0 = .ok (.iload_n 1, 1) := by decide +kernel
theorem dX11_row_1 : decode cX11_row 1 = .ok (.invokestatic 119, 3) := by decide +kernel
theorem dX11_row_4 : decode cX11_row 4 = .ok (.ifCond .eq 21, 3) := by decide +kernel
theorem dX11_row_7 : decode cX11_row 7 = .ok (.iload_n 2, 1) := by decide +kernel
theorem dX11_row_8 : decode cX11_row 8 = .ok (.i2l, 1) := by decide +kernel
theorem dX11_row_9 : decode cX11_row 9 = .ok (.lconst 0, 1) := by decide +kernel
theorem dX11_row_10 : decode cX11_row 10 = .ok (.ldc2_w 125, 3) := by decide +kernel
theorem dX11_row_13 : decode cX11_row 13 = .ok (.invokestatic 100, 3) := by decide +kernel
theorem dX11_row_16 : decode cX11_row 16 = .ok (.ifCond .eq 9, 3) := by decide +kernel
theorem dX11_row_19 : decode cX11_row 19 = .ok (.iload_n 3, 1) := by decide +kernel
theorem dX11_row_20 : decode cX11_row 20 = .ok (.bipush 60, 2) := by decide +kernel
theorem dX11_row_22 : decode cX11_row 22 = .ok (.if_icmp .le 5, 3) := by decide +kernel
theorem dX11_row_25 : decode cX11_row 25 = .ok (.iconst (-1), 1) := by decide +kernel
theorem dX11_row_26 : decode cX11_row 26 = .ok (.ireturn, 1) := by decide +kernel
theorem dX11_row_27 : decode cX11_row 27 = .ok (.iload_n 3, 1) := by decide +kernel
theorem dX11_row_28 : decode cX11_row 28 = .ok (.ifCond .ge 6, 3) := by decide +kernel
theorem dX11_row_31 : decode cX11_row 31 = .ok (.bipush (-14), 2) := by decide +kernel
theorem dX11_row_33 : decode cX11_row 33 = .ok (.ireturn, 1) := by decide +kernel
theorem dX11_row_34 : decode cX11_row 34 = .ok (.aload_n 0, 1) := by decide +kernel
theorem dX11_row_35 : decode cX11_row 35 = .ok (.getfield 77, 3) := by decide +kernel
theorem dX11_row_38 : decode cX11_row 38 = .ok (.iload_n 1, 1) := by decide +kernel
theorem dX11_row_39 : decode cX11_row 39 = .ok (.bipush 50, 2) := by decide +kernel
theorem dX11_row_41 : decode cX11_row 41 = .ok (.iload_n 2, 1) := by decide +kernel
theorem dX11_row_42 : decode cX11_row 42 = .ok (.iadd, 1) := by decide +kernel
theorem dX11_row_43 : decode cX11_row 43 = .ok (.iastore, 1) := by decide +kernel
theorem dX11_row_44 : decode cX11_row 44 = .ok (.aload_n 0, 1) := by decide +kernel
theorem dX11_row_45 : decode cX11_row 45 = .ok (.getfield 80, 3) := by decide +kernel
theorem dX11_row_48 : decode cX11_row 48 = .ok (.iload_n 1, 1) := by decide +kernel
theorem dX11_row_49 : decode cX11_row 49 = .ok (.iload_n 3, 1) := by decide +kernel
theorem dX11_row_50 : decode cX11_row 50 = .ok (.iastore, 1) := by decide +kernel
theorem dX11_row_51 : decode cX11_row 51 = .ok (.bipush 60, 2) := by decide +kernel
theorem dX11_row_53 : decode cX11_row 53 = .ok (.iload_n 1, 1) := by decide +kernel
theorem dX11_row_54 : decode cX11_row 54 = .ok (.imul, 1) := by decide +kernel
theorem dX11_row_55 : decode cX11_row 55 = .ok (.istore 4, 2) := by decide +kernel
theorem dX11_row_57 : decode cX11_row 57 = .ok (.iload 4, 2) := by decide +kernel
theorem dX11_row_59 : decode cX11_row 59 = .ok (.bipush 60, 2) := by decide +kernel
theorem dX11_row_61 : decode cX11_row 61 = .ok (.iload_n 1, 1) := by decide +kernel
theorem dX11_row_62 : decode cX11_row 62 = .ok (.imul, 1) := by decide +kernel
theorem dX11_row_63 : decode cX11_row 63 = .ok (.bipush 60, 2) := by decide +kernel
theorem dX11_row_65 : decode cX11_row 65 = .ok (.iadd, 1) := by decide +kernel
theorem dX11_row_66 : decode cX11_row 66 = .ok (.if_icmp .ge 17, 3) := by decide +kernel
theorem dX11_row_69 : decode cX11_row 69 = .ok (.aload_n 0, 1) := by decide +kernel
theorem dX11_row_70 : decode cX11_row 70 = .ok (.getfield 83, 3) := by decide +kernel
theorem dX11_row_73 : decode cX11_row 73 = .ok (.iload 4, 2) := by decide +kernel
theorem dX11_row_75 : decode cX11_row 75 = .ok (.lconst 0, 1) := by decide +kernel
theorem dX11_row_76 : decode cX11_row 76 = .ok (.lastore, 1) := by decide +kernel
theorem dX11_row_77 : decode cX11_row 77 = .ok (.iinc 4 1, 3) := by decide +kernel
theorem dX11_row_80 : decode cX11_row 80 = .ok (.goto (-23), 3) := by decide +kernel
theorem dX11_row_83 : decode cX11_row 83 = .ok (.iconst 1, 1) := by decide +kernel
theorem dX11_row_84 : decode cX11_row 84 = .ok (.ireturn, 1) := by decide +kernel
theorem dX11_refusal_0 : decode cX11_refusal 0 = .ok (.iload_n 1, 1) := by decide +kernel
theorem dX11_refusal_1 : decode cX11_refusal 1 = .ok (.invokestatic 119, 3) := by decide +kernel
theorem dX11_refusal_4 : decode cX11_refusal 4 = .ok (.ifCond .ne 5, 3) := by decide +kernel
theorem dX11_refusal_7 : decode cX11_refusal 7 = .ok (.iconst (-1), 1) := by decide +kernel
theorem dX11_refusal_8 : decode cX11_refusal 8 = .ok (.ireturn, 1) := by decide +kernel
theorem dX11_refusal_9 : decode cX11_refusal 9 = .ok (.aload_n 0, 1) := by decide +kernel
theorem dX11_refusal_10 : decode cX11_refusal 10 = .ok (.getfield 77, 3) := by decide +kernel
theorem dX11_refusal_13 : decode cX11_refusal 13 = .ok (.iload_n 1, 1) := by decide +kernel
theorem dX11_refusal_14 : decode cX11_refusal 14 = .ok (.iaload, 1) := by decide +kernel
theorem dX11_refusal_15 : decode cX11_refusal 15 = .ok (.ifCond .ge 6, 3) := by decide +kernel
theorem dX11_refusal_18 : decode cX11_refusal 18 = .ok (.bipush (-11), 2) := by decide +kernel
theorem dX11_refusal_20 : decode cX11_refusal 20 = .ok (.ireturn, 1) := by decide +kernel
theorem dX11_refusal_21 : decode cX11_refusal 21 = .ok (.aload_n 0, 1) := by decide +kernel
theorem dX11_refusal_22 : decode cX11_refusal 22 = .ok (.getfield 77, 3) := by decide +kernel
theorem dX11_refusal_25 : decode cX11_refusal 25 = .ok (.iload_n 1, 1) := by decide +kernel
theorem dX11_refusal_26 : decode cX11_refusal 26 = .ok (.iaload, 1) := by decide +kernel
theorem dX11_refusal_27 : decode cX11_refusal 27 = .ok (.bipush 50, 2) := by decide +kernel
theorem dX11_refusal_29 : decode cX11_refusal 29 = .ok (.if_icmp .ge 6, 3) := by decide +kernel
theorem dX11_refusal_32 : decode cX11_refusal 32 = .ok (.bipush (-12), 2) := by decide +kernel
theorem dX11_refusal_34 : decode cX11_refusal 34 = .ok (.ireturn, 1) := by decide +kernel
theorem dX11_refusal_35 : decode cX11_refusal 35 = .ok (.iload_n 2, 1) := by decide +kernel
theorem dX11_refusal_36 : decode cX11_refusal 36 = .ok (.ifCond .lt 17, 3) := by decide +kernel
theorem dX11_refusal_39 : decode cX11_refusal 39 = .ok (.iload_n 2, 1) := by decide +kernel
theorem dX11_refusal_40 : decode cX11_refusal 40 = .ok (.aload_n 0, 1) := by decide +kernel
theorem dX11_refusal_41 : decode cX11_refusal 41 = .ok (.getfield 80, 3) := by decide +kernel
theorem dX11_refusal_44 : decode cX11_refusal 44 = .ok (.iload_n 1, 1) := by decide +kernel
theorem dX11_refusal_45 : decode cX11_refusal 45 = .ok (.iaload, 1) := by decide +kernel
theorem dX11_refusal_46 : decode cX11_refusal 46 = .ok (.if_icmp .ge 7, 3) := by decide +kernel
theorem dX11_refusal_49 : decode cX11_refusal 49 = .ok (.iconst 0, 1) := by decide +kernel
theorem dX11_refusal_50 : decode cX11_refusal 50 = .ok (.goto 5, 3) := by decide +kernel
theorem dX11_refusal_53 : decode cX11_refusal 53 = .ok (.bipush (-13), 2) := by decide +kernel
theorem dX11_refusal_55 : decode cX11_refusal 55 = .ok (.ireturn, 1) := by decide +kernel
theorem dX11_asSort_0 : decode cX11_asSort 0 = .ok (.iload_n 0, 1) := by decide +kernel
theorem dX11_asSort_1 : decode cX11_asSort 1 = .ok (.ifCond .ne 10, 3) := by decide +kernel
theorem dX11_asSort_4 : decode cX11_asSort 4 = .ok (.lload_n 1, 1) := by decide +kernel
theorem dX11_asSort_5 : decode cX11_asSort 5 = .ok (.l2i, 1) := by decide +kernel
theorem dX11_asSort_6 : decode cX11_asSort 6 = .ok (.i2b, 1) := by decide +kernel
theorem dX11_asSort_7 : decode cX11_asSort 7 = .ok (.i2l, 1) := by decide +kernel
theorem dX11_asSort_8 : decode cX11_asSort 8 = .ok (.goto 46, 3) := by decide +kernel
theorem dX11_asSort_11 : decode cX11_asSort 11 = .ok (.iload_n 0, 1) := by decide +kernel
theorem dX11_asSort_12 : decode cX11_asSort 12 = .ok (.iconst 1, 1) := by decide +kernel
theorem dX11_asSort_13 : decode cX11_asSort 13 = .ok (.if_icmp .ne 10, 3) := by decide +kernel
theorem dX11_asSort_16 : decode cX11_asSort 16 = .ok (.lload_n 1, 1) := by decide +kernel
theorem dX11_asSort_17 : decode cX11_asSort 17 = .ok (.l2i, 1) := by decide +kernel
theorem dX11_asSort_18 : decode cX11_asSort 18 = .ok (.i2s, 1) := by decide +kernel
theorem dX11_asSort_19 : decode cX11_asSort 19 = .ok (.i2l, 1) := by decide +kernel
theorem dX11_asSort_20 : decode cX11_asSort 20 = .ok (.goto 34, 3) := by decide +kernel
theorem dX11_asSort_23 : decode cX11_asSort 23 = .ok (.iload_n 0, 1) := by decide +kernel
theorem dX11_asSort_24 : decode cX11_asSort 24 = .ok (.iconst 2, 1) := by decide +kernel
theorem dX11_asSort_25 : decode cX11_asSort 25 = .ok (.if_icmp .ne 9, 3) := by decide +kernel
theorem dX11_asSort_28 : decode cX11_asSort 28 = .ok (.lload_n 1, 1) := by decide +kernel
theorem dX11_asSort_29 : decode cX11_asSort 29 = .ok (.l2i, 1) := by decide +kernel
theorem dX11_asSort_30 : decode cX11_asSort 30 = .ok (.i2l, 1) := by decide +kernel
theorem dX11_asSort_31 : decode cX11_asSort 31 = .ok (.goto 23, 3) := by decide +kernel
theorem dX11_asSort_34 : decode cX11_asSort 34 = .ok (.iload_n 0, 1) := by decide +kernel
theorem dX11_asSort_35 : decode cX11_asSort 35 = .ok (.iconst 4, 1) := by decide +kernel
theorem dX11_asSort_36 : decode cX11_asSort 36 = .ok (.if_icmp .ne 17, 3) := by decide +kernel
theorem dX11_asSort_39 : decode cX11_asSort 39 = .ok (.lload_n 1, 1) := by decide +kernel
theorem dX11_asSort_40 : decode cX11_asSort 40 = .ok (.lconst 0, 1) := by decide +kernel
theorem dX11_asSort_41 : decode cX11_asSort 41 = .ok (.lcmp, 1) := by decide +kernel
theorem dX11_asSort_42 : decode cX11_asSort 42 = .ok (.ifCond .eq 7, 3) := by decide +kernel
theorem dX11_asSort_45 : decode cX11_asSort 45 = .ok (.lconst 1, 1) := by decide +kernel
theorem dX11_asSort_46 : decode cX11_asSort 46 = .ok (.goto 8, 3) := by decide +kernel
theorem dX11_asSort_49 : decode cX11_asSort 49 = .ok (.lconst 0, 1) := by decide +kernel
theorem dX11_asSort_50 : decode cX11_asSort 50 = .ok (.goto 4, 3) := by decide +kernel
theorem dX11_asSort_53 : decode cX11_asSort 53 = .ok (.lload_n 1, 1) := by decide +kernel
theorem dX11_asSort_54 : decode cX11_asSort 54 = .ok (.lreturn, 1) := by decide +kernel
theorem dX11_put_0 : decode cX11_put 0 = .ok (.aload_n 0, 1) := by decide +kernel
theorem dX11_put_1 : decode cX11_put 1 = .ok (.iload_n 1, 1) := by decide +kernel
theorem dX11_put_2 : decode cX11_put 2 = .ok (.iload_n 2, 1) := by decide +kernel
theorem dX11_put_3 : decode cX11_put 3 = .ok (.invokevirtual 349, 3) := by decide +kernel
theorem dX11_put_6 : decode cX11_put 6 = .ok (.istore 5, 2) := by decide +kernel
theorem dX11_put_8 : decode cX11_put 8 = .ok (.iload 5, 2) := by decide +kernel
theorem dX11_put_10 : decode cX11_put 10 = .ok (.ifCond .ne 27, 3) := by decide +kernel
theorem dX11_put_13 : decode cX11_put 13 = .ok (.aload_n 0, 1) := by decide +kernel
theorem dX11_put_14 : decode cX11_put 14 = .ok (.getfield 83, 3) := by decide +kernel
theorem dX11_put_17 : decode cX11_put 17 = .ok (.bipush 60, 2) := by decide +kernel
theorem dX11_put_19 : decode cX11_put 19 = .ok (.iload_n 1, 1) := by decide +kernel
theorem dX11_put_20 : decode cX11_put 20 = .ok (.imul, 1) := by decide +kernel
theorem dX11_put_21 : decode cX11_put 21 = .ok (.iload_n 2, 1) := by decide +kernel
theorem dX11_put_22 : decode cX11_put 22 = .ok (.iadd, 1) := by decide +kernel
theorem dX11_put_23 : decode cX11_put 23 = .ok (.aload_n 0, 1) := by decide +kernel
theorem dX11_put_24 : decode cX11_put 24 = .ok (.getfield 77, 3) := by decide +kernel
theorem dX11_put_27 : decode cX11_put 27 = .ok (.iload_n 1, 1) := by decide +kernel
theorem dX11_put_28 : decode cX11_put 28 = .ok (.iaload, 1) := by decide +kernel
theorem dX11_put_29 : decode cX11_put 29 = .ok (.bipush 50, 2) := by decide +kernel
theorem dX11_put_31 : decode cX11_put 31 = .ok (.isub, 1) := by decide +kernel
theorem dX11_put_32 : decode cX11_put 32 = .ok (.lload_n 3, 1) := by decide +kernel
theorem dX11_put_33 : decode cX11_put 33 = .ok (.invokestatic 352, 3) := by decide +kernel
theorem dX11_put_36 : decode cX11_put 36 = .ok (.lastore, 1) := by decide +kernel
theorem dX11_put_37 : decode cX11_put 37 = .ok (.iload 5, 2) := by decide +kernel
theorem dX11_put_39 : decode cX11_put 39 = .ok (.ifCond .ne 7, 3) := by decide +kernel
theorem dX11_put_42 : decode cX11_put 42 = .ok (.iconst 1, 1) := by decide +kernel
theorem dX11_put_43 : decode cX11_put 43 = .ok (.goto 5, 3) := by decide +kernel
theorem dX11_put_46 : decode cX11_put 46 = .ok (.iload 5, 2) := by decide +kernel
theorem dX11_put_48 : decode cX11_put 48 = .ok (.ireturn, 1) := by decide +kernel
theorem dX11_element_0 : decode cX11_element 0 = .ok (.aload_n 0, 1) := by decide +kernel
theorem dX11_element_1 : decode cX11_element 1 = .ok (.iload_n 1, 1) := by decide +kernel
theorem dX11_element_2 : decode cX11_element 2 = .ok (.iload_n 2, 1) := by decide +kernel
theorem dX11_element_3 : decode cX11_element 3 = .ok (.invokevirtual 349, 3) := by decide +kernel
theorem dX11_element_6 : decode cX11_element 6 = .ok (.ifCond .eq 9, 3) := by decide +kernel
theorem dX11_element_9 : decode cX11_element 9 = .ok (.ldc2_w 281, 3) := by decide +kernel
theorem dX11_element_12 : decode cX11_element 12 = .ok (.goto 14, 3) := by decide +kernel
theorem dX11_element_15 : decode cX11_element 15 = .ok (.aload_n 0, 1) := by decide +kernel
theorem dX11_element_16 : decode cX11_element 16 = .ok (.getfield 83, 3) := by decide +kernel
theorem dX11_element_19 : decode cX11_element 19 = .ok (.bipush 60, 2) := by decide +kernel
theorem dX11_element_21 : decode cX11_element 21 = .ok (.iload_n 1, 1) := by decide +kernel
theorem dX11_element_22 : decode cX11_element 22 = .ok (.imul, 1) := by decide +kernel
theorem dX11_element_23 : decode cX11_element 23 = .ok (.iload_n 2, 1) := by decide +kernel
theorem dX11_element_24 : decode cX11_element 24 = .ok (.iadd, 1) := by decide +kernel
theorem dX11_element_25 : decode cX11_element 25 = .ok (.laload, 1) := by decide +kernel
theorem dX11_element_26 : decode cX11_element 26 = .ok (.lreturn, 1) := by decide +kernel
theorem dX11_shift_0 : decode cX11_shift 0 = .ok (.iload_n 1, 1) := by decide +kernel
theorem dX11_shift_1 : decode cX11_shift 1 = .ok (.invokestatic 119, 3) := by decide +kernel
theorem dX11_shift_4 : decode cX11_shift 4 = .ok (.ifCond .eq 10, 3) := by decide +kernel
theorem dX11_shift_7 : decode cX11_shift 7 = .ok (.iload_n 3, 1) := by decide +kernel
theorem dX11_shift_8 : decode cX11_shift 8 = .ok (.invokestatic 119, 3) := by decide +kernel
theorem dX11_shift_11 : decode cX11_shift 11 = .ok (.ifCond .ne 5, 3) := by decide +kernel
theorem dX11_shift_14 : decode cX11_shift 14 = .ok (.iconst (-1), 1) := by decide +kernel
theorem dX11_shift_15 : decode cX11_shift 15 = .ok (.ireturn, 1) := by decide +kernel
theorem dX11_shift_16 : decode cX11_shift 16 = .ok (.aload_n 0, 1) := by decide +kernel
theorem dX11_shift_17 : decode cX11_shift 17 = .ok (.getfield 77, 3) := by decide +kernel
theorem dX11_shift_20 : decode cX11_shift 20 = .ok (.iload_n 1, 1) := by decide +kernel
theorem dX11_shift_21 : decode cX11_shift 21 = .ok (.iaload, 1) := by decide +kernel
theorem dX11_shift_22 : decode cX11_shift 22 = .ok (.ifCond .lt 12, 3) := by decide +kernel
theorem dX11_shift_25 : decode cX11_shift 25 = .ok (.aload_n 0, 1) := by decide +kernel
theorem dX11_shift_26 : decode cX11_shift 26 = .ok (.getfield 77, 3) := by decide +kernel
theorem dX11_shift_29 : decode cX11_shift 29 = .ok (.iload_n 3, 1) := by decide +kernel
theorem dX11_shift_30 : decode cX11_shift 30 = .ok (.iaload, 1) := by decide +kernel
theorem dX11_shift_31 : decode cX11_shift 31 = .ok (.ifCond .ge 6, 3) := by decide +kernel
theorem dX11_shift_34 : decode cX11_shift 34 = .ok (.bipush (-11), 2) := by decide +kernel
theorem dX11_shift_36 : decode cX11_shift 36 = .ok (.ireturn, 1) := by decide +kernel
theorem dX11_shift_37 : decode cX11_shift 37 = .ok (.aload_n 0, 1) := by decide +kernel
theorem dX11_shift_38 : decode cX11_shift 38 = .ok (.getfield 77, 3) := by decide +kernel
theorem dX11_shift_41 : decode cX11_shift 41 = .ok (.iload_n 1, 1) := by decide +kernel
theorem dX11_shift_42 : decode cX11_shift 42 = .ok (.iaload, 1) := by decide +kernel
theorem dX11_shift_43 : decode cX11_shift 43 = .ok (.bipush 50, 2) := by decide +kernel
theorem dX11_shift_45 : decode cX11_shift 45 = .ok (.if_icmp .lt 18, 3) := by decide +kernel
theorem dX11_shift_48 : decode cX11_shift 48 = .ok (.aload_n 0, 1) := by decide +kernel
theorem dX11_shift_49 : decode cX11_shift 49 = .ok (.getfield 77, 3) := by decide +kernel
theorem dX11_shift_52 : decode cX11_shift 52 = .ok (.iload_n 1, 1) := by decide +kernel
theorem dX11_shift_53 : decode cX11_shift 53 = .ok (.iaload, 1) := by decide +kernel
theorem dX11_shift_54 : decode cX11_shift 54 = .ok (.aload_n 0, 1) := by decide +kernel
theorem dX11_shift_55 : decode cX11_shift 55 = .ok (.getfield 77, 3) := by decide +kernel
theorem dX11_shift_58 : decode cX11_shift 58 = .ok (.iload_n 3, 1) := by decide +kernel
theorem dX11_shift_59 : decode cX11_shift 59 = .ok (.iaload, 1) := by decide +kernel
theorem dX11_shift_60 : decode cX11_shift 60 = .ok (.if_icmp .eq 6, 3) := by decide +kernel
theorem dX11_shift_63 : decode cX11_shift 63 = .ok (.bipush (-12), 2) := by decide +kernel
theorem dX11_shift_65 : decode cX11_shift 65 = .ok (.ireturn, 1) := by decide +kernel
theorem dX11_shift_66 : decode cX11_shift 66 = .ok (.iload 5, 2) := by decide +kernel
theorem dX11_shift_68 : decode cX11_shift 68 = .ok (.ifCond .lt 39, 3) := by decide +kernel
theorem dX11_shift_71 : decode cX11_shift 71 = .ok (.iload_n 2, 1) := by decide +kernel
theorem dX11_shift_72 : decode cX11_shift 72 = .ok (.ifCond .lt 35, 3) := by decide +kernel
theorem dX11_shift_75 : decode cX11_shift 75 = .ok (.iload 4, 2) := by decide +kernel
theorem dX11_shift_77 : decode cX11_shift 77 = .ok (.ifCond .lt 30, 3) := by decide +kernel
theorem dX11_shift_80 : decode cX11_shift 80 = .ok (.iload_n 2, 1) := by decide +kernel
theorem dX11_shift_81 : decode cX11_shift 81 = .ok (.aload_n 0, 1) := by decide +kernel
theorem dX11_shift_82 : decode cX11_shift 82 = .ok (.getfield 80, 3) := by decide +kernel
theorem dX11_shift_85 : decode cX11_shift 85 = .ok (.iload_n 1, 1) := by decide +kernel
theorem dX11_shift_86 : decode cX11_shift 86 = .ok (.iaload, 1) := by decide +kernel
theorem dX11_shift_87 : decode cX11_shift 87 = .ok (.iload 5, 2) := by decide +kernel
theorem dX11_shift_89 : decode cX11_shift 89 = .ok (.isub, 1) := by decide +kernel
theorem dX11_shift_90 : decode cX11_shift 90 = .ok (.if_icmp .gt 17, 3) := by decide +kernel
theorem dX11_shift_93 : decode cX11_shift 93 = .ok (.iload 4, 2) := by decide +kernel
theorem dX11_shift_95 : decode cX11_shift 95 = .ok (.aload_n 0, 1) := by decide +kernel
theorem dX11_shift_96 : decode cX11_shift 96 = .ok (.getfield 80, 3) := by decide +kernel
theorem dX11_shift_99 : decode cX11_shift 99 = .ok (.iload_n 3, 1) := by decide +kernel
theorem dX11_shift_100 : decode cX11_shift 100 = .ok (.iaload, 1) := by decide +kernel
theorem dX11_shift_101 : decode cX11_shift 101 = .ok (.iload 5, 2) := by decide +kernel
theorem dX11_shift_103 : decode cX11_shift 103 = .ok (.isub, 1) := by decide +kernel
theorem dX11_shift_104 : decode cX11_shift 104 = .ok (.if_icmp .le 6, 3) := by decide +kernel
theorem dX11_shift_107 : decode cX11_shift 107 = .ok (.bipush (-13), 2) := by decide +kernel
theorem dX11_shift_109 : decode cX11_shift 109 = .ok (.ireturn, 1) := by decide +kernel
theorem dX11_shift_110 : decode cX11_shift 110 = .ok (.iconst 0, 1) := by decide +kernel
theorem dX11_shift_111 : decode cX11_shift 111 = .ok (.istore 6, 2) := by decide +kernel
theorem dX11_shift_113 : decode cX11_shift 113 = .ok (.iload 6, 2) := by decide +kernel
theorem dX11_shift_115 : decode cX11_shift 115 = .ok (.iload 5, 2) := by decide +kernel
theorem dX11_shift_117 : decode cX11_shift 117 = .ok (.if_icmp .ge 30, 3) := by decide +kernel
theorem dX11_shift_120 : decode cX11_shift 120 = .ok (.aload_n 0, 1) := by decide +kernel
theorem dX11_shift_121 : decode cX11_shift 121 = .ok (.getfield 87, 3) := by decide +kernel
theorem dX11_shift_124 : decode cX11_shift 124 = .ok (.iload 6, 2) := by decide +kernel
theorem dX11_shift_126 : decode cX11_shift 126 = .ok (.aload_n 0, 1) := by decide +kernel
theorem dX11_shift_127 : decode cX11_shift 127 = .ok (.getfield 83, 3) := by decide +kernel
theorem dX11_shift_130 : decode cX11_shift 130 = .ok (.bipush 60, 2) := by decide +kernel
theorem dX11_shift_132 : decode cX11_shift 132 = .ok (.iload_n 1, 1) := by decide +kernel
theorem dX11_shift_133 : decode cX11_shift 133 = .ok (.imul, 1) := by decide +kernel
theorem dX11_shift_134 : decode cX11_shift 134 = .ok (.iload_n 2, 1) := by decide +kernel
theorem dX11_shift_135 : decode cX11_shift 135 = .ok (.iadd, 1) := by decide +kernel
theorem dX11_shift_136 : decode cX11_shift 136 = .ok (.iload 6, 2) := by decide +kernel
theorem dX11_shift_138 : decode cX11_shift 138 = .ok (.iadd, 1) := by decide +kernel
theorem dX11_shift_139 : decode cX11_shift 139 = .ok (.laload, 1) := by decide +kernel
theorem dX11_shift_140 : decode cX11_shift 140 = .ok (.lastore, 1) := by decide +kernel
theorem dX11_shift_141 : decode cX11_shift 141 = .ok (.iinc 6 1, 3) := by decide +kernel
theorem dX11_shift_144 : decode cX11_shift 144 = .ok (.goto (-31), 3) := by decide +kernel
theorem dX11_shift_147 : decode cX11_shift 147 = .ok (.iconst 0, 1) := by decide +kernel
theorem dX11_shift_148 : decode cX11_shift 148 = .ok (.istore 6, 2) := by decide +kernel
theorem dX11_shift_150 : decode cX11_shift 150 = .ok (.iload 6, 2) := by decide +kernel
theorem dX11_shift_152 : decode cX11_shift 152 = .ok (.iload 5, 2) := by decide +kernel
theorem dX11_shift_154 : decode cX11_shift 154 = .ok (.if_icmp .ge 31, 3) := by decide +kernel
theorem dX11_shift_157 : decode cX11_shift 157 = .ok (.aload_n 0, 1) := by decide +kernel
theorem dX11_shift_158 : decode cX11_shift 158 = .ok (.getfield 83, 3) := by decide +kernel
theorem dX11_shift_161 : decode cX11_shift 161 = .ok (.bipush 60, 2) := by decide +kernel
theorem dX11_shift_163 : decode cX11_shift 163 = .ok (.iload_n 3, 1) := by decide +kernel
theorem dX11_shift_164 : decode cX11_shift 164 = .ok (.imul, 1) := by decide +kernel
theorem dX11_shift_165 : decode cX11_shift 165 = .ok (.iload 4, 2) := by decide +kernel
theorem dX11_shift_167 : decode cX11_shift 167 = .ok (.iadd, 1) := by decide +kernel
theorem dX11_shift_168 : decode cX11_shift 168 = .ok (.iload 6, 2) := by decide +kernel
theorem dX11_shift_170 : decode cX11_shift 170 = .ok (.iadd, 1) := by decide +kernel
theorem dX11_shift_171 : decode cX11_shift 171 = .ok (.aload_n 0, 1) := by decide +kernel
theorem dX11_shift_172 : decode cX11_shift 172 = .ok (.getfield 87, 3) := by decide +kernel
theorem dX11_shift_175 : decode cX11_shift 175 = .ok (.iload 6, 2) := by decide +kernel
theorem dX11_shift_177 : decode cX11_shift 177 = .ok (.laload, 1) := by decide +kernel
theorem dX11_shift_178 : decode cX11_shift 178 = .ok (.lastore, 1) := by decide +kernel
theorem dX11_shift_179 : decode cX11_shift 179 = .ok (.iinc 6 1, 3) := by decide +kernel
theorem dX11_shift_182 : decode cX11_shift 182 = .ok (.goto (-32), 3) := by decide +kernel
theorem dX11_shift_185 : decode cX11_shift 185 = .ok (.iload 5, 2) := by decide +kernel
theorem dX11_shift_187 : decode cX11_shift 187 = .ok (.ireturn, 1) := by decide +kernel
theorem dX11_taken_0 : decode cX11_taken 0 = .ok (.iload_n 1, 1) := by decide +kernel
theorem dX11_taken_1 : decode cX11_taken 1 = .ok (.invokestatic 119, 3) := by decide +kernel
theorem dX11_taken_4 : decode cX11_taken 4 = .ok (.ifCond .eq 15, 3) := by decide +kernel
theorem dX11_taken_7 : decode cX11_taken 7 = .ok (.iload_n 2, 1) := by decide +kernel
theorem dX11_taken_8 : decode cX11_taken 8 = .ok (.i2l, 1) := by decide +kernel
theorem dX11_taken_9 : decode cX11_taken 9 = .ok (.lconst 0, 1) := by decide +kernel
theorem dX11_taken_10 : decode cX11_taken 10 = .ok (.ldc2_w 320, 3) := by decide +kernel
theorem dX11_taken_13 : decode cX11_taken 13 = .ok (.invokestatic 100, 3) := by decide +kernel
theorem dX11_taken_16 : decode cX11_taken 16 = .ok (.ifCond .ne 5, 3) := by decide +kernel
theorem dX11_taken_19 : decode cX11_taken 19 = .ok (.iconst (-1), 1) := by decide +kernel
theorem dX11_taken_20 : decode cX11_taken 20 = .ok (.ireturn, 1) := by decide +kernel
theorem dX11_taken_21 : decode cX11_taken 21 = .ok (.aload_n 0, 1) := by decide +kernel
theorem dX11_taken_22 : decode cX11_taken 22 = .ok (.getfield 77, 3) := by decide +kernel
theorem dX11_taken_25 : decode cX11_taken 25 = .ok (.iload_n 1, 1) := by decide +kernel
theorem dX11_taken_26 : decode cX11_taken 26 = .ok (.iaload, 1) := by decide +kernel
theorem dX11_taken_27 : decode cX11_taken 27 = .ok (.ifCond .ge 6, 3) := by decide +kernel
theorem dX11_taken_30 : decode cX11_taken 30 = .ok (.bipush (-11), 2) := by decide +kernel
theorem dX11_taken_32 : decode cX11_taken 32 = .ok (.ireturn, 1) := by decide +kernel
theorem dX11_taken_33 : decode cX11_taken 33 = .ok (.aload_n 0, 1) := by decide +kernel
theorem dX11_taken_34 : decode cX11_taken 34 = .ok (.getfield 77, 3) := by decide +kernel
theorem dX11_taken_37 : decode cX11_taken 37 = .ok (.iload_n 1, 1) := by decide +kernel
theorem dX11_taken_38 : decode cX11_taken 38 = .ok (.iaload, 1) := by decide +kernel
theorem dX11_taken_39 : decode cX11_taken 39 = .ok (.bipush 50, 2) := by decide +kernel
theorem dX11_taken_41 : decode cX11_taken 41 = .ok (.if_icmp .lt 6, 3) := by decide +kernel
theorem dX11_taken_44 : decode cX11_taken 44 = .ok (.bipush (-12), 2) := by decide +kernel
theorem dX11_taken_46 : decode cX11_taken 46 = .ok (.ireturn, 1) := by decide +kernel
theorem dX11_taken_47 : decode cX11_taken 47 = .ok (.aload_n 0, 1) := by decide +kernel
theorem dX11_taken_48 : decode cX11_taken 48 = .ok (.aload_n 0, 1) := by decide +kernel
theorem dX11_taken_49 : decode cX11_taken 49 = .ok (.getfield 77, 3) := by decide +kernel
theorem dX11_taken_52 : decode cX11_taken 52 = .ok (.iload_n 1, 1) := by decide +kernel
theorem dX11_taken_53 : decode cX11_taken 53 = .ok (.iaload, 1) := by decide +kernel
theorem dX11_taken_54 : decode cX11_taken 54 = .ok (.invokevirtual 356, 3) := by decide +kernel
theorem dX11_taken_57 : decode cX11_taken 57 = .ok (.istore_n 3, 1) := by decide +kernel
theorem dX11_taken_58 : decode cX11_taken 58 = .ok (.iload_n 3, 1) := by decide +kernel
theorem dX11_taken_59 : decode cX11_taken 59 = .ok (.iload_n 2, 1) := by decide +kernel
theorem dX11_taken_60 : decode cX11_taken 60 = .ok (.if_icmp .eq 15, 3) := by decide +kernel
theorem dX11_taken_63 : decode cX11_taken 63 = .ok (.iload_n 3, 1) := by decide +kernel
theorem dX11_taken_64 : decode cX11_taken 64 = .ok (.ifCond .le 11, 3) := by decide +kernel
theorem dX11_taken_67 : decode cX11_taken 67 = .ok (.iload_n 3, 1) := by decide +kernel
theorem dX11_taken_68 : decode cX11_taken 68 = .ok (.invokestatic 359, 3) := by decide +kernel
theorem dX11_taken_71 : decode cX11_taken 71 = .ok (.istore_n 3, 1) := by decide +kernel
theorem dX11_taken_72 : decode cX11_taken 72 = .ok (.goto (-14), 3) := by decide +kernel
theorem dX11_taken_75 : decode cX11_taken 75 = .ok (.iload_n 3, 1) := by decide +kernel
theorem dX11_taken_76 : decode cX11_taken 76 = .ok (.iload_n 2, 1) := by decide +kernel
theorem dX11_taken_77 : decode cX11_taken 77 = .ok (.if_icmp .ne 16, 3) := by decide +kernel
theorem dX11_taken_80 : decode cX11_taken 80 = .ok (.aload_n 0, 1) := by decide +kernel
theorem dX11_taken_81 : decode cX11_taken 81 = .ok (.aload_n 0, 1) := by decide +kernel
theorem dX11_taken_82 : decode cX11_taken 82 = .ok (.getfield 77, 3) := by decide +kernel
theorem dX11_taken_85 : decode cX11_taken 85 = .ok (.iload_n 1, 1) := by decide +kernel
theorem dX11_taken_86 : decode cX11_taken 86 = .ok (.iaload, 1) := by decide +kernel
theorem dX11_taken_87 : decode cX11_taken 87 = .ok (.invokevirtual 356, 3) := by decide +kernel
theorem dX11_taken_90 : decode cX11_taken 90 = .ok (.goto 5, 3) := by decide +kernel
theorem dX11_taken_93 : decode cX11_taken 93 = .ok (.bipush (-12), 2) := by decide +kernel
theorem dX11_taken_95 : decode cX11_taken 95 = .ok (.ireturn, 1) := by decide +kernel
theorem dX11_count_0 : decode cX11_count 0 = .ok (.iload_n 1, 1) := by decide +kernel
theorem dX11_count_1 : decode cX11_count 1 = .ok (.tableswitch 69 0 5 #[39, 44, 49, 54, 59, 64], 39) := by decide +kernel
theorem dX11_count_40 : decode cX11_count 40 = .ok (.aload_n 0, 1) := by decide +kernel
theorem dX11_count_41 : decode cX11_count 41 = .ok (.getfield 97, 3) := by decide +kernel
theorem dX11_count_44 : decode cX11_count 44 = .ok (.ireturn, 1) := by decide +kernel
theorem dX11_count_45 : decode cX11_count 45 = .ok (.aload_n 0, 1) := by decide +kernel
theorem dX11_count_46 : decode cX11_count 46 = .ok (.invokevirtual 362, 3) := by decide +kernel
theorem dX11_count_49 : decode cX11_count 49 = .ok (.ireturn, 1) := by decide +kernel
theorem dX11_count_50 : decode cX11_count 50 = .ok (.aload_n 0, 1) := by decide +kernel
theorem dX11_count_51 : decode cX11_count 51 = .ok (.getfield 149, 3) := by decide +kernel
theorem dX11_count_54 : decode cX11_count 54 = .ok (.ireturn, 1) := by decide +kernel
theorem dX11_count_55 : decode cX11_count 55 = .ok (.aload_n 0, 1) := by decide +kernel
theorem dX11_count_56 : decode cX11_count 56 = .ok (.getfield 90, 3) := by decide +kernel
theorem dX11_count_59 : decode cX11_count 59 = .ok (.ireturn, 1) := by decide +kernel
theorem dX11_count_60 : decode cX11_count 60 = .ok (.aload_n 0, 1) := by decide +kernel
theorem dX11_count_61 : decode cX11_count 61 = .ok (.getfield 317, 3) := by decide +kernel
theorem dX11_count_64 : decode cX11_count 64 = .ok (.ireturn, 1) := by decide +kernel
theorem dX11_count_65 : decode cX11_count 65 = .ok (.aload_n 0, 1) := by decide +kernel
theorem dX11_count_66 : decode cX11_count 66 = .ok (.getfield 322, 3) := by decide +kernel
theorem dX11_count_69 : decode cX11_count 69 = .ok (.ireturn, 1) := by decide +kernel
theorem dX11_count_70 : decode cX11_count 70 = .ok (.iconst (-1), 1) := by decide +kernel
theorem dX11_count_71 : decode cX11_count 71 = .ok (.ireturn, 1) := by decide +kernel
