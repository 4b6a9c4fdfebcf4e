theorem dX7_within_0 : decode cX7_within 0 = .ok (.iload_n 0, 1) := by decide +kernel
theorem dX7_within_1 : decode cX7_within 1 = .ok (.iload_n 1, 1) := by decide +kernel
theorem dX7_within_2 : decode cX7_within 2 = .ok (.if_icmp .ge 7, 3) := by decide +kernel
theorem dX7_within_5 : decode cX7_within 5 = .ok (.iload_n 1, 1) := by decide +kernel
theorem dX7_within_6 : decode cX7_within 6 = .ok (.goto 13, 3) := by decide +kernel
theorem dX7_within_9 : decode cX7_within 9 = .ok (.iload_n 0, 1) := by decide +kernel
theorem dX7_within_10 : decode cX7_within 10 = .ok (.iload_n 2, 1) := by decide +kernel
theorem dX7_within_11 : decode cX7_within 11 = .ok (.if_icmp .le 7, 3) := by decide +kernel
theorem dX7_within_14 : decode cX7_within 14 = .ok (.iload_n 2, 1) := by decide +kernel
theorem dX7_within_15 : decode cX7_within 15 = .ok (.goto 4, 3) := by decide +kernel
theorem dX7_within_18 : decode cX7_within 18 = .ok (.iload_n 0, 1) := by decide +kernel
theorem dX7_within_19 : decode cX7_within 19 = .ok (.ireturn, 1) := by decide +kernel
theorem dX7_init_0 : decode cX7_init 0 = .ok (.aload_n 0, 1) := by decide +kernel
theorem dX7_init_1 : decode cX7_init 1 = .ok (.invokespecial 1, 3) := by decide +kernel
theorem dX7_init_4 : decode cX7_init 4 = .ok (.aload_n 0, 1) := by decide +kernel
theorem dX7_init_5 : decode cX7_init 5 = .ok (.bipush 40, 2) := by decide +kernel
theorem dX7_init_7 : decode cX7_init 7 = .ok (.newarray .boolean, 2) := by decide +kernel
theorem dX7_init_9 : decode cX7_init 9 = .ok (.putfield 9, 3) := by decide +kernel
theorem dX7_init_12 : decode cX7_init 12 = .ok (.aload_n 0, 1) := by decide +kernel
theorem dX7_init_13 : decode cX7_init 13 = .ok (.bipush 40, 2) := by decide +kernel
theorem dX7_init_15 : decode cX7_init 15 = .ok (.newarray .int, 2) := by decide +kernel
theorem dX7_init_17 : decode cX7_init 17 = .ok (.putfield 13, 3) := by decide +kernel
theorem dX7_init_20 : decode cX7_init 20 = .ok (.aload_n 0, 1) := by decide +kernel
theorem dX7_init_21 : decode cX7_init 21 = .ok (.bipush 40, 2) := by decide +kernel
theorem dX7_init_23 : decode cX7_init 23 = .ok (.newarray .int, 2) := by decide +kernel
theorem dX7_init_25 : decode cX7_init 25 = .ok (.putfield 17, 3) := by decide +kernel
theorem dX7_init_28 : decode cX7_init 28 = .ok (.aload_n 0, 1) := by decide +kernel
theorem dX7_init_29 : decode cX7_init 29 = .ok (.bipush 40, 2) := by decide +kernel
theorem dX7_init_31 : decode cX7_init 31 = .ok (.newarray .int, 2) := by decide +kernel
theorem dX7_init_33 : decode cX7_init 33 = .ok (.putfield 20, 3) := by decide +kernel
theorem dX7_init_36 : decode cX7_init 36 = .ok (.aload_n 0, 1) := by decide +kernel
theorem dX7_init_37 : decode cX7_init 37 = .ok (.bipush 40, 2) := by decide +kernel
theorem dX7_init_39 : decode cX7_init 39 = .ok (.newarray .int, 2) := by decide +kernel
theorem dX7_init_41 : decode cX7_init 41 = .ok (.putfield 23, 3) := by decide +kernel
theorem dX7_init_44 : decode cX7_init 44 = .ok (.aload_n 0, 1) := by decide +kernel
theorem dX7_init_45 : decode cX7_init 45 = .ok (.bipush 40, 2) := by decide +kernel
theorem dX7_init_47 : decode cX7_init 47 = .ok (.newarray .int, 2) := by decide +kernel
theorem dX7_init_49 : decode cX7_init 49 = .ok (.putfield 26, 3) := by decide +kernel
theorem dX7_init_52 : decode cX7_init 52 = .ok (.aload_n 0, 1) := by decide +kernel
theorem dX7_init_53 : decode cX7_init 53 = .ok (.bipush 40, 2) := by decide +kernel
theorem dX7_init_55 : decode cX7_init 55 = .ok (.newarray .int, 2) := by decide +kernel
theorem dX7_init_57 : decode cX7_init 57 = .ok (.putfield 29, 3) := by decide +kernel
theorem dX7_init_60 : decode cX7_init 60 = .ok (.aload_n 0, 1) := by decide +kernel
theorem dX7_init_61 : decode cX7_init 61 = .ok (.bipush 40, 2) := by decide +kernel
theorem dX7_init_63 : decode cX7_init 63 = .ok (.newarray .int, 2) := by decide +kernel
theorem dX7_init_65 : decode cX7_init 65 = .ok (.putfield 32, 3) := by decide +kernel
theorem dX7_init_68 : decode cX7_init 68 = .ok (.aload_n 0, 1) := by decide +kernel
theorem dX7_init_69 : decode cX7_init 69 = .ok (.bipush 40, 2) := by decide +kernel
theorem dX7_init_71 : decode cX7_init 71 = .ok (.newarray .int, 2) := by decide +kernel
theorem dX7_init_73 : decode cX7_init 73 = .ok (.putfield 35, 3) := by decide +kernel
theorem dX7_init_76 : decode cX7_init 76 = .ok (.aload_n 0, 1) := by decide +kernel
theorem dX7_init_77 : decode cX7_init 77 = .ok (.bipush 40, 2) := by decide +kernel
theorem dX7_init_79 : decode cX7_init 79 = .ok (.newarray .int, 2) := by decide +kernel
theorem dX7_init_81 : decode cX7_init 81 = .ok (.putfield 38, 3) := by decide +kernel
theorem dX7_init_84 : decode cX7_init 84 = .ok (.aload_n 0, 1) := by decide +kernel
theorem dX7_init_85 : decode cX7_init 85 = .ok (.bipush 40, 2) := by decide +kernel
theorem dX7_init_87 : decode cX7_init 87 = .ok (.newarray .int, 2) := by decide +kernel
theorem dX7_init_89 : decode cX7_init 89 = .ok (.putfield 41, 3) := by decide +kernel
theorem dX7_init_92 : decode cX7_init 92 = .ok (.aload_n 0, 1) := by decide +kernel
theorem dX7_init_93 : decode cX7_init 93 = .ok (.bipush 40, 2) := by decide +kernel
theorem dX7_init_95 : decode cX7_init 95 = .ok (.newarray .boolean, 2) := by decide +kernel
theorem dX7_init_97 : decode cX7_init 97 = .ok (.putfield 44, 3) := by decide +kernel
theorem dX7_init_100 : decode cX7_init 100 = .ok (.aload_n 0, 1) := by decide +kernel
theorem dX7_init_101 : decode cX7_init 101 = .ok (.bipush 40, 2) := by decide +kernel
theorem dX7_init_103 : decode cX7_init 103 = .ok (.newarray .int, 2) := by decide +kernel
theorem dX7_init_105 : decode cX7_init 105 = .ok (.putfield 47, 3) := by decide +kernel
theorem dX7_init_108 : decode cX7_init 108 = .ok (.aload_n 0, 1) := by decide +kernel
theorem dX7_init_109 : decode cX7_init 109 = .ok (.bipush 40, 2) := by decide +kernel
theorem dX7_init_111 : decode cX7_init 111 = .ok (.newarray .int, 2) := by decide +kernel
theorem dX7_init_113 : decode cX7_init 113 = .ok (.putfield 50, 3) := by decide +kernel
theorem dX7_init_116 : decode cX7_init 116 = .ok (.aload_n 0, 1) := by decide +kernel
theorem dX7_init_117 : decode cX7_init 117 = .ok (.bipush 40, 2) := by decide +kernel
theorem dX7_init_119 : decode cX7_init 119 = .ok (.newarray .int, 2) := by decide +kernel
theorem dX7_init_121 : decode cX7_init 121 = .ok (.putfield 53, 3) := by decide +kernel
theorem dX7_init_124 : decode cX7_init 124 = .ok (.aload_n 0, 1) := by decide +kernel
theorem dX7_init_125 : decode cX7_init 125 = .ok (.bipush 40, 2) := by decide +kernel
theorem dX7_init_127 : decode cX7_init 127 = .ok (.newarray .int, 2) := by decide +kernel
theorem dX7_init_129 : decode cX7_init 129 = .ok (.putfield 56, 3) := by decide +kernel
theorem dX7_init_132 : decode cX7_init 132 = .ok (.aload_n 0, 1) := by decide +kernel
theorem dX7_init_133 : decode cX7_init 133 = .ok (.bipush 40, 2) := by decide +kernel
theorem dX7_init_135 : decode cX7_init 135 = .ok (.newarray .boolean, 2) := by decide +kernel
theorem dX7_init_137 : decode cX7_init 137 = .ok (.putfield 59, 3) := by decide +kernel
theorem dX7_init_140 : decode cX7_init 140 = .ok (.aload_n 0, 1) := by decide +kernel
theorem dX7_init_141 : decode cX7_init 141 = .ok (.bipush 16, 2) := by decide +kernel
theorem dX7_init_143 : decode cX7_init 143 = .ok (.newarray .int, 2) := by decide +kernel
theorem dX7_init_145 : decode cX7_init 145 = .ok (.putfield 62, 3) := by decide +kernel
theorem dX7_init_148 : decode cX7_init 148 = .ok (.aload_n 0, 1) := by decide +kernel
theorem dX7_init_149 : decode cX7_init 149 = .ok (.bipush 120, 2) := by decide +kernel
theorem dX7_init_151 : decode cX7_init 151 = .ok (.newarray .int, 2) := by decide +kernel
theorem dX7_init_153 : decode cX7_init 153 = .ok (.putfield 65, 3) := by decide +kernel
theorem dX7_init_156 : decode cX7_init 156 = .ok (.aload_n 0, 1) := by decide +kernel
theorem dX7_init_157 : decode cX7_init 157 = .ok (.bipush 120, 2) := by decide +kernel
theorem dX7_init_159 : decode cX7_init 159 = .ok (.newarray .int, 2) := by decide +kernel
theorem dX7_init_161 : decode cX7_init 161 = .ok (.putfield 68, 3) := by decide +kernel
theorem dX7_init_164 : decode cX7_init 164 = .ok (.aload_n 0, 1) := by decide +kernel
theorem dX7_init_165 : decode cX7_init 165 = .ok (.bipush 120, 2) := by decide +kernel
theorem dX7_init_167 : decode cX7_init 167 = .ok (.newarray .int, 2) := by decide +kernel
theorem dX7_init_169 : decode cX7_init 169 = .ok (.putfield 71, 3) := by decide +kernel
theorem dX7_init_172 : decode cX7_init 172 = .ok (.aload_n 0, 1) := by decide +kernel
theorem dX7_init_173 : decode cX7_init 173 = .ok (.bipush 120, 2) := by decide +kernel
theorem dX7_init_175 : decode cX7_init 175 = .ok (.newarray .int, 2) := by decide +kernel
theorem dX7_init_177 : decode cX7_init 177 = .ok (.putfield 74, 3) := by decide +kernel
theorem dX7_init_180 : decode cX7_init 180 = .ok (.aload_n 0, 1) := by decide +kernel
theorem dX7_init_181 : decode cX7_init 181 = .ok (.bipush 40, 2) := by decide +kernel
theorem dX7_init_183 : decode cX7_init 183 = .ok (.newarray .int, 2) := by decide +kernel
theorem dX7_init_185 : decode cX7_init 185 = .ok (.putfield 77, 3) := by decide +kernel
theorem dX7_init_188 : decode cX7_init 188 = .ok (.aload_n 0, 1) := by decide +kernel
theorem dX7_init_189 : decode cX7_init 189 = .ok (.bipush 100, 2) := by decide +kernel
theorem dX7_init_191 : decode cX7_init 191 = .ok (.newarray .int, 2) := by decide +kernel
theorem dX7_init_193 : decode cX7_init 193 = .ok (.putfield 80, 3) := by decide +kernel
theorem dX7_init_196 : decode cX7_init 196 = .ok (.aload_n 0, 1) := by decide +kernel
theorem dX7_init_197 : decode cX7_init 197 = .ok (.bipush 100, 2) := by decide +kernel
theorem dX7_init_199 : decode cX7_init 199 = .ok (.newarray .int, 2) := by decide +kernel
theorem dX7_init_201 : decode cX7_init 201 = .ok (.putfield 83, 3) := by decide +kernel
theorem dX7_init_204 : decode cX7_init 204 = .ok (.aload_n 0, 1) := by decide +kernel
theorem dX7_init_205 : decode cX7_init 205 = .ok (.bipush 100, 2) := by decide +kernel
theorem dX7_init_207 : decode cX7_init 207 = .ok (.newarray .int, 2) := by decide +kernel
theorem dX7_init_209 : decode cX7_init 209 = .ok (.putfield 86, 3) := by decide +kernel
theorem dX7_init_212 : decode cX7_init 212 = .ok (.aload_n 0, 1) := by decide +kernel
theorem dX7_init_213 : decode cX7_init 213 = .ok (.iload_n 1, 1) := by decide +kernel
theorem dX7_init_214 : decode cX7_init 214 = .ok (.iconst 1, 1) := by decide +kernel
theorem dX7_init_215 : decode cX7_init 215 = .ok (.bipush 40, 2) := by decide +kernel
theorem dX7_init_217 : decode cX7_init 217 = .ok (.invokestatic 89, 3) := by decide +kernel
theorem dX7_init_220 : decode cX7_init 220 = .ok (.putfield 93, 3) := by decide +kernel
theorem dX7_init_223 : decode cX7_init 223 = .ok (.aload_n 0, 1) := by decide +kernel
theorem dX7_init_224 : decode cX7_init 224 = .ok (.iload_n 2, 1) := by decide +kernel
theorem dX7_init_225 : decode cX7_init 225 = .ok (.iconst 0, 1) := by decide +kernel
theorem dX7_init_226 : decode cX7_init 226 = .ok (.bipush 16, 2) := by decide +kernel
theorem dX7_init_228 : decode cX7_init 228 = .ok (.invokestatic 89, 3) := by decide +kernel
theorem dX7_init_231 : decode cX7_init 231 = .ok (.putfield 97, 3) := by decide +kernel
theorem dX7_init_234 : decode cX7_init 234 = .ok (.aload_n 0, 1) := by decide +kernel
theorem dX7_init_235 : decode cX7_init 235 = .ok (.iload_n 3, 1) := by decide +kernel
theorem dX7_init_236 : decode cX7_init 236 = .ok (.iconst 0, 1) := by decide +kernel
theorem dX7_init_237 : decode cX7_init 237 = .ok (.bipush 120, 2) := by decide +kernel
theorem dX7_init_239 : decode cX7_init 239 = .ok (.invokestatic 89, 3) := by decide +kernel
theorem dX7_init_242 : decode cX7_init 242 = .ok (.putfield 100, 3) := by decide +kernel
theorem dX7_init_245 : decode cX7_init 245 = .ok (.aload_n 0, 1) := by decide +kernel
theorem dX7_init_246 : decode cX7_init 246 = .ok (.iload 4, 2) := by decide +kernel
theorem dX7_init_248 : decode cX7_init 248 = .ok (.iconst 0, 1) := by decide +kernel
theorem dX7_init_249 : decode cX7_init 249 = .ok (.bipush 100, 2) := by decide +kernel
theorem dX7_init_251 : decode cX7_init 251 = .ok (.invokestatic 89, 3) := by decide +kernel
theorem dX7_init_254 : decode cX7_init 254 = .ok (.putfield 103, 3) := by decide +kernel
theorem dX7_init_257 : decode cX7_init 257 = .ok (.aload_n 0, 1) := by decide +kernel
theorem dX7_init_258 : decode cX7_init 258 = .ok (.iload 5, 2) := by decide +kernel
theorem dX7_init_260 : decode cX7_init 260 = .ok (.iconst 1, 1) := by decide +kernel
theorem dX7_init_261 : decode cX7_init 261 = .ok (.sipush 20000, 3) := by decide +kernel
theorem dX7_init_264 : decode cX7_init 264 = .ok (.invokestatic 89, 3) := by decide +kernel
theorem dX7_init_267 : decode cX7_init 267 = .ok (.putfield 106, 3) := by decide +kernel
theorem dX7_init_270 : decode cX7_init 270 = .ok (.iconst 0, 1) := by decide +kernel
theorem dX7_init_271 : decode cX7_init 271 = .ok (.istore 6, 2) := by decide +kernel
theorem dX7_init_273 : decode cX7_init 273 = .ok (.iload 6, 2) := by decide +kernel
theorem dX7_init_275 : decode cX7_init 275 = .ok (.bipush 16, 2) := by decide +kernel
theorem dX7_init_277 : decode cX7_init 277 = .ok (.if_icmp .ge 17, 3) := by decide +kernel
theorem dX7_init_280 : decode cX7_init 280 = .ok (.aload_n 0, 1) := by decide +kernel
theorem dX7_init_281 : decode cX7_init 281 = .ok (.getfield 62, 3) := by decide +kernel
theorem dX7_init_284 : decode cX7_init 284 = .ok (.iload 6, 2) := by decide +kernel
theorem dX7_init_286 : decode cX7_init 286 = .ok (.iconst (-1), 1) := by decide +kernel
theorem dX7_init_287 : decode cX7_init 287 = .ok (.iastore, 1) := by decide +kernel
theorem dX7_init_288 : decode cX7_init 288 = .ok (.iinc 6 1, 3) := by decide +kernel
theorem dX7_init_291 : decode cX7_init 291 = .ok (.goto (-18), 3) := by decide +kernel
theorem dX7_init_294 : decode cX7_init 294 = .ok (.return_, 1) := by decide +kernel
theorem dX7_isLive_0 : decode cX7_isLive 0 = .ok (.iload_n 1, 1) := by decide +kernel
theorem dX7_isLive_1 : decode cX7_isLive 1 = .ok (.ifCond .lt 24, 3) := by decide +kernel
theorem dX7_isLive_4 : decode cX7_isLive 4 = .ok (.iload_n 1, 1) := by decide +kernel
theorem dX7_isLive_5 : decode cX7_isLive 5 = .ok (.aload_n 0, 1) := by decide +kernel
theorem dX7_isLive_6 : decode cX7_isLive 6 = .ok (.getfield 93, 3) := by decide +kernel
theorem dX7_isLive_9 : decode cX7_isLive 9 = .ok (.if_icmp .ge 16, 3) := by decide +kernel
theorem dX7_isLive_12 : decode cX7_isLive 12 = .ok (.aload_n 0, 1) := by decide +kernel
theorem dX7_isLive_13 : decode cX7_isLive 13 = .ok (.getfield 9, 3) := by decide +kernel
theorem dX7_isLive_16 : decode cX7_isLive 16 = .ok (.iload_n 1, 1) := by decide +kernel
theorem dX7_isLive_17 : decode cX7_isLive 17 = .ok (.baload, 1) := by decide +kernel
theorem dX7_isLive_18 : decode cX7_isLive 18 = .ok (.ifCond .eq 7, 3) := by decide +kernel
theorem dX7_isLive_21 : decode cX7_isLive 21 = .ok (.iconst 1, 1) := by decide +kernel
theorem dX7_isLive_22 : decode cX7_isLive 22 = .ok (.goto 4, 3) := by decide +kernel
theorem dX7_isLive_25 : decode cX7_isLive 25 = .ok (.iconst 0, 1) := by decide +kernel
theorem dX7_isLive_26 : decode cX7_isLive 26 = .ok (.ireturn, 1) := by decide +kernel
theorem dX7_isPending_0 : decode cX7_isPending 0 = .ok (.aload_n 0, 1) := by decide +kernel
theorem dX7_isPending_1 : decode cX7_isPending 1 = .ok (.iload_n 1, 1) := by decide +kernel
theorem dX7_isPending_2 : decode cX7_isPending 2 = .ok (.invokevirtual 109, 3) := by decide +kernel
theorem dX7_isPending_5 : decode cX7_isPending 5 = .ok (.ifCond .eq 16, 3) := by decide +kernel
theorem dX7_isPending_8 : decode cX7_isPending 8 = .ok (.aload_n 0, 1) := by decide +kernel
theorem dX7_isPending_9 : decode cX7_isPending 9 = .ok (.getfield 44, 3) := by decide +kernel
theorem dX7_isPending_12 : decode cX7_isPending 12 = .ok (.iload_n 1, 1) := by decide +kernel
theorem dX7_isPending_13 : decode cX7_isPending 13 = .ok (.baload, 1) := by decide +kernel
theorem dX7_isPending_14 : decode cX7_isPending 14 = .ok (.ifCond .eq 7, 3) := by decide +kernel
theorem dX7_isPending_17 : decode cX7_isPending 17 = .ok (.iconst 1, 1) := by decide +kernel
theorem dX7_isPending_18 : decode cX7_isPending 18 = .ok (.goto 4, 3) := by decide +kernel
theorem dX7_isPending_21 : decode cX7_isPending 21 = .ok (.iconst 0, 1) := by decide +kernel
theorem dX7_isPending_22 : decode cX7_isPending 22 = .ok (.ireturn, 1) := by decide +kernel
theorem dX7_isLock_0 : decode cX7_isLock 0 = .ok (.iload_n 1, 1) := by decide +kernel
theorem dX7_isLock_1 : decode cX7_isLock 1 = .ok (.ifCond .lt 15, 3) := by decide +kernel
theorem dX7_isLock_4 : decode cX7_isLock 4 = .ok (.iload_n 1, 1) := by decide +kernel
theorem dX7_isLock_5 : decode cX7_isLock 5 = .ok (.aload_n 0, 1) := by decide +kernel
theorem dX7_isLock_6 : decode cX7_isLock 6 = .ok (.getfield 97, 3) := by decide +kernel
theorem dX7_isLock_9 : decode cX7_isLock 9 = .ok (.if_icmp .ge 7, 3) := by decide +kernel
theorem dX7_isLock_12 : decode cX7_isLock 12 = .ok (.iconst 1, 1) := by decide +kernel
theorem dX7_isLock_13 : decode cX7_isLock 13 = .ok (.goto 4, 3) := by decide +kernel
theorem dX7_isLock_16 : decode cX7_isLock 16 = .ok (.iconst 0, 1) := by decide +kernel
theorem dX7_isLock_17 : decode cX7_isLock 17 = .ok (.ireturn, 1) := by decide +kernel
theorem dX7_reckons_0 : decode cX7_reckons 0 = .ok (.iconst 0, 1) := by decide +kernel
theorem dX7_reckons_1 : decode cX7_reckons 1 = .ok (.istore_n 1, 1) := by decide +kernel
theorem dX7_reckons_2 : decode cX7_reckons 2 = .ok (.iload_n 1, 1) := by decide +kernel
theorem dX7_reckons_3 : decode cX7_reckons 3 = .ok (.aload_n 0, 1) := by decide +kernel
theorem dX7_reckons_4 : decode cX7_reckons 4 = .ok (.getfield 93, 3) := by decide +kernel
theorem dX7_reckons_7 : decode cX7_reckons 7 = .ok (.if_icmp .ge 21, 3) := by decide +kernel
theorem dX7_reckons_10 : decode cX7_reckons 10 = .ok (.aload_n 0, 1) := by decide +kernel
theorem dX7_reckons_11 : decode cX7_reckons 11 = .ok (.getfield 77, 3) := by decide +kernel
theorem dX7_reckons_14 : decode cX7_reckons 14 = .ok (.iload_n 1, 1) := by decide +kernel
theorem dX7_reckons_15 : decode cX7_reckons 15 = .ok (.aload_n 0, 1) := by decide +kernel
theorem dX7_reckons_16 : decode cX7_reckons 16 = .ok (.getfield 50, 3) := by decide +kernel
theorem dX7_reckons_19 : decode cX7_reckons 19 = .ok (.iload_n 1, 1) := by decide +kernel
theorem dX7_reckons_20 : decode cX7_reckons 20 = .ok (.iaload, 1) := by decide +kernel
theorem dX7_reckons_21 : decode cX7_reckons 21 = .ok (.iastore, 1) := by decide +kernel
theorem dX7_reckons_22 : decode cX7_reckons 22 = .ok (.iinc 1 1, 3) := by decide +kernel
theorem dX7_reckons_25 : decode cX7_reckons 25 = .ok (.goto (-23), 3) := by decide +kernel
theorem dX7_reckons_28 : decode cX7_reckons 28 = .ok (.iconst 1, 1) := by decide +kernel
theorem dX7_reckons_29 : decode cX7_reckons 29 = .ok (.istore_n 1, 1) := by decide +kernel
theorem dX7_reckons_30 : decode cX7_reckons 30 = .ok (.iload_n 1, 1) := by decide +kernel
theorem dX7_reckons_31 : decode cX7_reckons 31 = .ok (.ifCond .eq 94, 3) := by decide +kernel
theorem dX7_reckons_34 : decode cX7_reckons 34 = .ok (.iconst 0, 1) := by decide +kernel
theorem dX7_reckons_35 : decode cX7_reckons 35 = .ok (.istore_n 1, 1) := by decide +kernel
theorem dX7_reckons_36 : decode cX7_reckons 36 = .ok (.iconst 0, 1) := by decide +kernel
theorem dX7_reckons_37 : decode cX7_reckons 37 = .ok (.istore_n 2, 1) := by decide +kernel
theorem dX7_reckons_38 : decode cX7_reckons 38 = .ok (.iload_n 2, 1) := by decide +kernel
theorem dX7_reckons_39 : decode cX7_reckons 39 = .ok (.aload_n 0, 1) := by decide +kernel
theorem dX7_reckons_40 : decode cX7_reckons 40 = .ok (.getfield 93, 3) := by decide +kernel
theorem dX7_reckons_43 : decode cX7_reckons 43 = .ok (.if_icmp .ge 79, 3) := by decide +kernel
theorem dX7_reckons_46 : decode cX7_reckons 46 = .ok (.aload_n 0, 1) := by decide +kernel
theorem dX7_reckons_47 : decode cX7_reckons 47 = .ok (.iload_n 2, 1) := by decide +kernel
theorem dX7_reckons_48 : decode cX7_reckons 48 = .ok (.invokevirtual 113, 3) := by decide +kernel
theorem dX7_reckons_51 : decode cX7_reckons 51 = .ok (.ifCond .eq 65, 3) := by decide +kernel
theorem dX7_reckons_54 : decode cX7_reckons 54 = .ok (.aload_n 0, 1) := by decide +kernel
theorem dX7_reckons_55 : decode cX7_reckons 55 = .ok (.getfield 56, 3) := by decide +kernel
theorem dX7_reckons_58 : decode cX7_reckons 58 = .ok (.iload_n 2, 1) := by decide +kernel
theorem dX7_reckons_59 : decode cX7_reckons 59 = .ok (.iaload, 1) := by decide +kernel
theorem dX7_reckons_60 : decode cX7_reckons 60 = .ok (.iconst (-1), 1) := by decide +kernel
theorem dX7_reckons_61 : decode cX7_reckons 61 = .ok (.if_icmp .ne 6, 3) := by decide +kernel
theorem dX7_reckons_64 : decode cX7_reckons 64 = .ok (.goto 52, 3) := by decide +kernel
theorem dX7_reckons_67 : decode cX7_reckons 67 = .ok (.aload_n 0, 1) := by decide +kernel
theorem dX7_reckons_68 : decode cX7_reckons 68 = .ok (.getfield 62, 3) := by decide +kernel
theorem dX7_reckons_71 : decode cX7_reckons 71 = .ok (.aload_n 0, 1) := by decide +kernel
theorem dX7_reckons_72 : decode cX7_reckons 72 = .ok (.getfield 56, 3) := by decide +kernel
theorem dX7_reckons_75 : decode cX7_reckons 75 = .ok (.iload_n 2, 1) := by decide +kernel
theorem dX7_reckons_76 : decode cX7_reckons 76 = .ok (.iaload, 1) := by decide +kernel
theorem dX7_reckons_77 : decode cX7_reckons 77 = .ok (.iaload, 1) := by decide +kernel
theorem dX7_reckons_78 : decode cX7_reckons 78 = .ok (.istore_n 3, 1) := by decide +kernel
theorem dX7_reckons_79 : decode cX7_reckons 79 = .ok (.iload_n 3, 1) := by decide +kernel
theorem dX7_reckons_80 : decode cX7_reckons 80 = .ok (.iconst (-1), 1) := by decide +kernel
theorem dX7_reckons_81 : decode cX7_reckons 81 = .ok (.if_icmp .eq 35, 3) := by decide +kernel
theorem dX7_reckons_84 : decode cX7_reckons 84 = .ok (.aload_n 0, 1) := by decide +kernel
theorem dX7_reckons_85 : decode cX7_reckons 85 = .ok (.getfield 77, 3) := by decide +kernel
theorem dX7_reckons_88 : decode cX7_reckons 88 = .ok (.iload_n 3, 1) := by decide +kernel
theorem dX7_reckons_89 : decode cX7_reckons 89 = .ok (.iaload, 1) := by decide +kernel
theorem dX7_reckons_90 : decode cX7_reckons 90 = .ok (.aload_n 0, 1) := by decide +kernel
theorem dX7_reckons_91 : decode cX7_reckons 91 = .ok (.getfield 77, 3) := by decide +kernel
theorem dX7_reckons_94 : decode cX7_reckons 94 = .ok (.iload_n 2, 1) := by decide +kernel
theorem dX7_reckons_95 : decode cX7_reckons 95 = .ok (.iaload, 1) := by decide +kernel
theorem dX7_reckons_96 : decode cX7_reckons 96 = .ok (.if_icmp .gt 6, 3) := by decide +kernel
theorem dX7_reckons_99 : decode cX7_reckons 99 = .ok (.goto 17, 3) := by decide +kernel
theorem dX7_reckons_102 : decode cX7_reckons 102 = .ok (.aload_n 0, 1) := by decide +kernel
theorem dX7_reckons_103 : decode cX7_reckons 103 = .ok (.getfield 77, 3) := by decide +kernel
theorem dX7_reckons_106 : decode cX7_reckons 106 = .ok (.iload_n 3, 1) := by decide +kernel
theorem dX7_reckons_107 : decode cX7_reckons 107 = .ok (.aload_n 0, 1) := by decide +kernel
theorem dX7_reckons_108 : decode cX7_reckons 108 = .ok (.getfield 77, 3) := by decide +kernel
theorem dX7_reckons_111 : decode cX7_reckons 111 = .ok (.iload_n 2, 1) := by decide +kernel
theorem dX7_reckons_112 : decode cX7_reckons 112 = .ok (.iaload, 1) := by decide +kernel
theorem dX7_reckons_113 : decode cX7_reckons 113 = .ok (.iastore, 1) := by decide +kernel
theorem dX7_reckons_114 : decode cX7_reckons 114 = .ok (.iconst 1, 1) := by decide +kernel
theorem dX7_reckons_115 : decode cX7_reckons 115 = .ok (.istore_n 1, 1) := by decide +kernel
theorem dX7_reckons_116 : decode cX7_reckons 116 = .ok (.iinc 2 1, 3) := by decide +kernel
theorem dX7_reckons_119 : decode cX7_reckons 119 = .ok (.goto (-81), 3) := by decide +kernel
theorem dX7_reckons_122 : decode cX7_reckons 122 = .ok (.goto (-92), 3) := by decide +kernel
theorem dX7_reckons_125 : decode cX7_reckons 125 = .ok (.return_, 1) := by decide +kernel
theorem dX7_ahead_0 : decode cX7_ahead 0 = .ok (.aload_n 0, 1) := by decide +kernel
theorem dX7_ahead_1 : decode cX7_ahead 1 = .ok (.invokevirtual 116, 3) := by decide +kernel
theorem dX7_ahead_4 : decode cX7_ahead 4 = .ok (.iconst (-1), 1) := by decide +kernel
theorem dX7_ahead_5 : decode cX7_ahead 5 = .ok (.istore_n 2, 1) := by decide +kernel
theorem dX7_ahead_6 : decode cX7_ahead 6 = .ok (.iconst 0, 1) := by decide +kernel
theorem dX7_ahead_7 : decode cX7_ahead 7 = .ok (.istore_n 3, 1) := by decide +kernel
theorem dX7_ahead_8 : decode cX7_ahead 8 = .ok (.iload_n 3, 1) := by decide +kernel
theorem dX7_ahead_9 : decode cX7_ahead 9 = .ok (.aload_n 0, 1) := by decide +kernel
theorem dX7_ahead_10 : decode cX7_ahead 10 = .ok (.getfield 93, 3) := by decide +kernel
theorem dX7_ahead_13 : decode cX7_ahead 13 = .ok (.if_icmp .ge 52, 3) := by decide +kernel
theorem dX7_ahead_16 : decode cX7_ahead 16 = .ok (.aload_n 0, 1) := by decide +kernel
theorem dX7_ahead_17 : decode cX7_ahead 17 = .ok (.iload_n 3, 1) := by decide +kernel
theorem dX7_ahead_18 : decode cX7_ahead 18 = .ok (.invokevirtual 113, 3) := by decide +kernel
theorem dX7_ahead_21 : decode cX7_ahead 21 = .ok (.ifCond .eq 38, 3) := by decide +kernel
theorem dX7_ahead_24 : decode cX7_ahead 24 = .ok (.aload_n 0, 1) := by decide +kernel
theorem dX7_ahead_25 : decode cX7_ahead 25 = .ok (.getfield 56, 3) := by decide +kernel
theorem dX7_ahead_28 : decode cX7_ahead 28 = .ok (.iload_n 3, 1) := by decide +kernel
theorem dX7_ahead_29 : decode cX7_ahead 29 = .ok (.iaload, 1) := by decide +kernel
theorem dX7_ahead_30 : decode cX7_ahead 30 = .ok (.iload_n 1, 1) := by decide +kernel
theorem dX7_ahead_31 : decode cX7_ahead 31 = .ok (.if_icmp .eq 6, 3) := by decide +kernel
theorem dX7_ahead_34 : decode cX7_ahead 34 = .ok (.goto 25, 3) := by decide +kernel
theorem dX7_ahead_37 : decode cX7_ahead 37 = .ok (.iload_n 2, 1) := by decide +kernel
theorem dX7_ahead_38 : decode cX7_ahead 38 = .ok (.iconst (-1), 1) := by decide +kernel
theorem dX7_ahead_39 : decode cX7_ahead 39 = .ok (.if_icmp .eq 18, 3) := by decide +kernel
theorem dX7_ahead_42 : decode cX7_ahead 42 = .ok (.aload_n 0, 1) := by decide +kernel
theorem dX7_ahead_43 : decode cX7_ahead 43 = .ok (.getfield 77, 3) := by decide +kernel
theorem dX7_ahead_46 : decode cX7_ahead 46 = .ok (.iload_n 3, 1) := by decide +kernel
theorem dX7_ahead_47 : decode cX7_ahead 47 = .ok (.iaload, 1) := by decide +kernel
theorem dX7_ahead_48 : decode cX7_ahead 48 = .ok (.aload_n 0, 1) := by decide +kernel
theorem dX7_ahead_49 : decode cX7_ahead 49 = .ok (.getfield 77, 3) := by decide +kernel
theorem dX7_ahead_52 : decode cX7_ahead 52 = .ok (.iload_n 2, 1) := by decide +kernel
theorem dX7_ahead_53 : decode cX7_ahead 53 = .ok (.iaload, 1) := by decide +kernel
theorem dX7_ahead_54 : decode cX7_ahead 54 = .ok (.if_icmp .ge 5, 3) := by decide +kernel
theorem dX7_ahead_57 : decode cX7_ahead 57 = .ok (.iload_n 3, 1) := by decide +kernel
theorem dX7_ahead_58 : decode cX7_ahead 58 = .ok (.istore_n 2, 1) := by decide +kernel
theorem dX7_ahead_59 : decode cX7_ahead 59 = .ok (.iinc 3 1, 3) := by decide +kernel
theorem dX7_ahead_62 : decode cX7_ahead 62 = .ok (.goto (-54), 3) := by decide +kernel
theorem dX7_ahead_65 : decode cX7_ahead 65 = .ok (.iload_n 2, 1) := by decide +kernel
theorem dX7_ahead_66 : decode cX7_ahead 66 = .ok (.ireturn, 1) := by decide +kernel
theorem dX7_letsGo_0 : decode cX7_letsGo 0 = .ok (.aload_n 0, 1) := by decide +kernel
theorem dX7_letsGo_1 : decode cX7_letsGo 1 = .ok (.getfield 62, 3) := by decide +kernel
theorem dX7_letsGo_4 : decode cX7_letsGo 4 = .ok (.iload_n 1, 1) := by decide +kernel
theorem dX7_letsGo_5 : decode cX7_letsGo 5 = .ok (.iconst (-1), 1) := by decide +kernel
theorem dX7_letsGo_6 : decode cX7_letsGo 6 = .ok (.iastore, 1) := by decide +kernel
theorem dX7_letsGo_7 : decode cX7_letsGo 7 = .ok (.aload_n 0, 1) := by decide +kernel
theorem dX7_letsGo_8 : decode cX7_letsGo 8 = .ok (.iload_n 1, 1) := by decide +kernel
theorem dX7_letsGo_9 : decode cX7_letsGo 9 = .ok (.invokevirtual 119, 3) := by decide +kernel
theorem dX7_letsGo_12 : decode cX7_letsGo 12 = .ok (.istore_n 2, 1) := by decide +kernel
theorem dX7_letsGo_13 : decode cX7_letsGo 13 = .ok (.iload_n 2, 1) := by decide +kernel
theorem dX7_letsGo_14 : decode cX7_letsGo 14 = .ok (.iconst (-1), 1) := by decide +kernel
theorem dX7_letsGo_15 : decode cX7_letsGo 15 = .ok (.if_icmp .ne 4, 3) := by decide +kernel
theorem dX7_letsGo_18 : decode cX7_letsGo 18 = .ok (.return_, 1) := by decide +kernel
theorem dX7_letsGo_19 : decode cX7_letsGo 19 = .ok (.aload_n 0, 1) := by decide +kernel
theorem dX7_letsGo_20 : decode cX7_letsGo 20 = .ok (.getfield 62, 3) := by decide +kernel
theorem dX7_letsGo_23 : decode cX7_letsGo 23 = .ok (.iload_n 1, 1) := by decide +kernel
theorem dX7_letsGo_24 : decode cX7_letsGo 24 = .ok (.iload_n 2, 1) := by decide +kernel
theorem dX7_letsGo_25 : decode cX7_letsGo 25 = .ok (.iastore, 1) := by decide +kernel
theorem dX7_letsGo_26 : decode cX7_letsGo 26 = .ok (.aload_n 0, 1) := by decide +kernel
theorem dX7_letsGo_27 : decode cX7_letsGo 27 = .ok (.getfield 56, 3) := by decide +kernel
theorem dX7_letsGo_30 : decode cX7_letsGo 30 = .ok (.iload_n 2, 1) := by decide +kernel
theorem dX7_letsGo_31 : decode cX7_letsGo 31 = .ok (.iconst (-1), 1) := by decide +kernel
theorem dX7_letsGo_32 : decode cX7_letsGo 32 = .ok (.iastore, 1) := by decide +kernel
theorem dX7_letsGo_33 : decode cX7_letsGo 33 = .ok (.return_, 1) := by decide +kernel
theorem dX7_drops_0 : decode cX7_drops 0 = .ok (.aload_n 0, 1) := by decide +kernel
theorem dX7_drops_1 : decode cX7_drops 1 = .ok (.getfield 44, 3) := by decide +kernel
theorem dX7_drops_4 : decode cX7_drops 4 = .ok (.iload_n 1, 1) := by decide +kernel
theorem dX7_drops_5 : decode cX7_drops 5 = .ok (.iconst 0, 1) := by decide +kernel
theorem dX7_drops_6 : decode cX7_drops 6 = .ok (.bastore, 1) := by decide +kernel
theorem dX7_drops_7 : decode cX7_drops 7 = .ok (.aload_n 0, 1) := by decide +kernel
theorem dX7_drops_8 : decode cX7_drops 8 = .ok (.getfield 56, 3) := by decide +kernel
theorem dX7_drops_11 : decode cX7_drops 11 = .ok (.iload_n 1, 1) := by decide +kernel
theorem dX7_drops_12 : decode cX7_drops 12 = .ok (.iconst (-1), 1) := by decide +kernel
theorem dX7_drops_13 : decode cX7_drops 13 = .ok (.iastore, 1) := by decide +kernel
theorem dX7_drops_14 : decode cX7_drops 14 = .ok (.aload_n 0, 1) := by decide +kernel
theorem dX7_drops_15 : decode cX7_drops 15 = .ok (.getfield 59, 3) := by decide +kernel
theorem dX7_drops_18 : decode cX7_drops 18 = .ok (.iload_n 1, 1) := by decide +kernel
theorem dX7_drops_19 : decode cX7_drops 19 = .ok (.iconst 0, 1) := by decide +kernel
theorem dX7_drops_20 : decode cX7_drops 20 = .ok (.bastore, 1) := by decide +kernel
theorem dX7_drops_21 : decode cX7_drops 21 = .ok (.iconst 0, 1) := by decide +kernel
theorem dX7_drops_22 : decode cX7_drops 22 = .ok (.istore_n 2, 1) := by decide +kernel
theorem dX7_drops_23 : decode cX7_drops 23 = .ok (.iload_n 2, 1) := by decide +kernel
theorem dX7_drops_24 : decode cX7_drops 24 = .ok (.aload_n 0, 1) := by decide +kernel
theorem dX7_drops_25 : decode cX7_drops 25 = .ok (.getfield 97, 3) := by decide +kernel
theorem dX7_drops_28 : decode cX7_drops 28 = .ok (.if_icmp .ge 24, 3) := by decide +kernel
theorem dX7_drops_31 : decode cX7_drops 31 = .ok (.aload_n 0, 1) := by decide +kernel
theorem dX7_drops_32 : decode cX7_drops 32 = .ok (.getfield 62, 3) := by decide +kernel
theorem dX7_drops_35 : decode cX7_drops 35 = .ok (.iload_n 2, 1) := by decide +kernel
theorem dX7_drops_36 : decode cX7_drops 36 = .ok (.iaload, 1) := by decide +kernel
theorem dX7_drops_37 : decode cX7_drops 37 = .ok (.iload_n 1, 1) := by decide +kernel
theorem dX7_drops_38 : decode cX7_drops 38 = .ok (.if_icmp .ne 8, 3) := by decide +kernel
theorem dX7_drops_41 : decode cX7_drops 41 = .ok (.aload_n 0, 1) := by decide +kernel
theorem dX7_drops_42 : decode cX7_drops 42 = .ok (.iload_n 2, 1) := by decide +kernel
theorem dX7_drops_43 : decode cX7_drops 43 = .ok (.invokevirtual 123, 3) := by decide +kernel
theorem dX7_drops_46 : decode cX7_drops 46 = .ok (.iinc 2 1, 3) := by decide +kernel
theorem dX7_drops_49 : decode cX7_drops 49 = .ok (.goto (-26), 3) := by decide +kernel
theorem dX7_drops_52 : decode cX7_drops 52 = .ok (.return_, 1) := by decide +kernel
theorem dX7_addTask_0 : decode cX7_addTask 0 = .ok (.iload_n 2, 1) := by decide +kernel
theorem dX7_addTask_1 : decode cX7_addTask 1 = .ok (.ifCond .le 21, 3) := by decide +kernel
theorem dX7_addTask_4 : decode cX7_addTask 4 = .ok (.iload_n 2, 1) := by decide +kernel
theorem dX7_addTask_5 : decode cX7_addTask 5 = .ok (.iload_n 3, 1) := by decide +kernel
theorem dX7_addTask_6 : decode cX7_addTask 6 = .ok (.if_icmp .gt 16, 3) := by decide +kernel
theorem dX7_addTask_9 : decode cX7_addTask 9 = .ok (.iload_n 3, 1) := by decide +kernel
theorem dX7_addTask_10 : decode cX7_addTask 10 = .ok (.iload_n 1, 1) := by decide +kernel
theorem dX7_addTask_11 : decode cX7_addTask 11 = .ok (.if_icmp .gt 11, 3) := by decide +kernel
theorem dX7_addTask_14 : decode cX7_addTask 14 = .ok (.iload_n 1, 1) := by decide +kernel
theorem dX7_addTask_15 : decode cX7_addTask 15 = .ok (.aload_n 0, 1) := by decide +kernel
theorem dX7_addTask_16 : decode cX7_addTask 16 = .ok (.getfield 106, 3) := by decide +kernel
theorem dX7_addTask_19 : decode cX7_addTask 19 = .ok (.if_icmp .le 6, 3) := by decide +kernel
theorem dX7_addTask_22 : decode cX7_addTask 22 = .ok (.bipush (-2), 2) := by decide +kernel
theorem dX7_addTask_24 : decode cX7_addTask 24 = .ok (.ireturn, 1) := by decide +kernel
theorem dX7_addTask_25 : decode cX7_addTask 25 = .ok (.iconst 0, 1) := by decide +kernel
theorem dX7_addTask_26 : decode cX7_addTask 26 = .ok (.istore 4, 2) := by decide +kernel
theorem dX7_addTask_28 : decode cX7_addTask 28 = .ok (.iload 4, 2) := by decide +kernel
theorem dX7_addTask_30 : decode cX7_addTask 30 = .ok (.aload_n 0, 1) := by decide +kernel
theorem dX7_addTask_31 : decode cX7_addTask 31 = .ok (.getfield 93, 3) := by decide +kernel
theorem dX7_addTask_34 : decode cX7_addTask 34 = .ok (.if_icmp .ge 19, 3) := by decide +kernel
theorem dX7_addTask_37 : decode cX7_addTask 37 = .ok (.aload_n 0, 1) := by decide +kernel
theorem dX7_addTask_38 : decode cX7_addTask 38 = .ok (.getfield 9, 3) := by decide +kernel
theorem dX7_addTask_41 : decode cX7_addTask 41 = .ok (.iload 4, 2) := by decide +kernel
theorem dX7_addTask_43 : decode cX7_addTask 43 = .ok (.baload, 1) := by decide +kernel
theorem dX7_addTask_44 : decode cX7_addTask 44 = .ok (.ifCond .eq 9, 3) := by decide +kernel
theorem dX7_addTask_47 : decode cX7_addTask 47 = .ok (.iinc 4 1, 3) := by decide +kernel
theorem dX7_addTask_50 : decode cX7_addTask 50 = .ok (.goto (-22), 3) := by decide +kernel
theorem dX7_addTask_53 : decode cX7_addTask 53 = .ok (.iload 4, 2) := by decide +kernel
theorem dX7_addTask_55 : decode cX7_addTask 55 = .ok (.aload_n 0, 1) := by decide +kernel
theorem dX7_addTask_56 : decode cX7_addTask 56 = .ok (.getfield 93, 3) := by decide +kernel
theorem dX7_addTask_59 : decode cX7_addTask 59 = .ok (.if_icmp .ne 5, 3) := by decide +kernel
theorem dX7_addTask_62 : decode cX7_addTask 62 = .ok (.iconst (-1), 1) := by decide +kernel
theorem dX7_addTask_63 : decode cX7_addTask 63 = .ok (.ireturn, 1) := by decide +kernel
theorem dX7_addTask_64 : decode cX7_addTask 64 = .ok (.aload_n 0, 1) := by decide +kernel
theorem dX7_addTask_65 : decode cX7_addTask 65 = .ok (.getfield 9, 3) := by decide +kernel
theorem dX7_addTask_68 : decode cX7_addTask 68 = .ok (.iload 4, 2) := by decide +kernel
theorem dX7_addTask_70 : decode cX7_addTask 70 = .ok (.iconst 1, 1) := by decide +kernel
theorem dX7_addTask_71 : decode cX7_addTask 71 = .ok (.bastore, 1) := by decide +kernel
theorem dX7_addTask_72 : decode cX7_addTask 72 = .ok (.aload_n 0, 1) := by decide +kernel
theorem dX7_addTask_73 : decode cX7_addTask 73 = .ok (.getfield 13, 3) := by decide +kernel
theorem dX7_addTask_76 : decode cX7_addTask 76 = .ok (.iload 4, 2) := by decide +kernel
theorem dX7_addTask_78 : decode cX7_addTask 78 = .ok (.iload_n 1, 1) := by decide +kernel
theorem dX7_addTask_79 : decode cX7_addTask 79 = .ok (.iastore, 1) := by decide +kernel
theorem dX7_addTask_80 : decode cX7_addTask 80 = .ok (.aload_n 0, 1) := by decide +kernel
theorem dX7_addTask_81 : decode cX7_addTask 81 = .ok (.getfield 17, 3) := by decide +kernel
theorem dX7_addTask_84 : decode cX7_addTask 84 = .ok (.iload 4, 2) := by decide +kernel
theorem dX7_addTask_86 : decode cX7_addTask 86 = .ok (.iload_n 2, 1) := by decide +kernel
theorem dX7_addTask_87 : decode cX7_addTask 87 = .ok (.iastore, 1) := by decide +kernel
theorem dX7_addTask_88 : decode cX7_addTask 88 = .ok (.aload_n 0, 1) := by decide +kernel
theorem dX7_addTask_89 : decode cX7_addTask 89 = .ok (.getfield 20, 3) := by decide +kernel
theorem dX7_addTask_92 : decode cX7_addTask 92 = .ok (.iload 4, 2) := by decide +kernel
theorem dX7_addTask_94 : decode cX7_addTask 94 = .ok (.iload_n 3, 1) := by decide +kernel
theorem dX7_addTask_95 : decode cX7_addTask 95 = .ok (.iastore, 1) := by decide +kernel
theorem dX7_addTask_96 : decode cX7_addTask 96 = .ok (.aload_n 0, 1) := by decide +kernel
theorem dX7_addTask_97 : decode cX7_addTask 97 = .ok (.getfield 23, 3) := by decide +kernel
theorem dX7_addTask_100 : decode cX7_addTask 100 = .ok (.iload 4, 2) := by decide +kernel
theorem dX7_addTask_102 : decode cX7_addTask 102 = .ok (.aload_n 0, 1) := by decide +kernel
theorem dX7_addTask_103 : decode cX7_addTask 103 = .ok (.getfield 127, 3) := by decide +kernel
theorem dX7_addTask_106 : decode cX7_addTask 106 = .ok (.iastore, 1) := by decide +kernel
theorem dX7_addTask_107 : decode cX7_addTask 107 = .ok (.aload_n 0, 1) := by decide +kernel
theorem dX7_addTask_108 : decode cX7_addTask 108 = .ok (.getfield 26, 3) := by decide +kernel
theorem dX7_addTask_111 : decode cX7_addTask 111 = .ok (.iload 4, 2) := by decide +kernel
theorem dX7_addTask_113 : decode cX7_addTask 113 = .ok (.iconst 0, 1) := by decide +kernel
theorem dX7_addTask_114 : decode cX7_addTask 114 = .ok (.iastore, 1) := by decide +kernel
theorem dX7_addTask_115 : decode cX7_addTask 115 = .ok (.aload_n 0, 1) := by decide +kernel
theorem dX7_addTask_116 : decode cX7_addTask 116 = .ok (.getfield 29, 3) := by decide +kernel
theorem dX7_addTask_119 : decode cX7_addTask 119 = .ok (.iload 4, 2) := by decide +kernel
theorem dX7_addTask_121 : decode cX7_addTask 121 = .ok (.iconst 0, 1) := by decide +kernel
theorem dX7_addTask_122 : decode cX7_addTask 122 = .ok (.iastore, 1) := by decide +kernel
theorem dX7_addTask_123 : decode cX7_addTask 123 = .ok (.aload_n 0, 1) := by decide +kernel
theorem dX7_addTask_124 : decode cX7_addTask 124 = .ok (.getfield 32, 3) := by decide +kernel
theorem dX7_addTask_127 : decode cX7_addTask 127 = .ok (.iload 4, 2) := by decide +kernel
theorem dX7_addTask_129 : decode cX7_addTask 129 = .ok (.iconst 0, 1) := by decide +kernel
theorem dX7_addTask_130 : decode cX7_addTask 130 = .ok (.iastore, 1) := by decide +kernel
theorem dX7_addTask_131 : decode cX7_addTask 131 = .ok (.aload_n 0, 1) := by decide +kernel
theorem dX7_addTask_132 : decode cX7_addTask 132 = .ok (.getfield 35, 3) := by decide +kernel
theorem dX7_addTask_135 : decode cX7_addTask 135 = .ok (.iload 4, 2) := by decide +kernel
theorem dX7_addTask_137 : decode cX7_addTask 137 = .ok (.iconst 0, 1) := by decide +kernel
theorem dX7_addTask_138 : decode cX7_addTask 138 = .ok (.iastore, 1) := by decide +kernel
theorem dX7_addTask_139 : decode cX7_addTask 139 = .ok (.aload_n 0, 1) := by decide +kernel
theorem dX7_addTask_140 : decode cX7_addTask 140 = .ok (.getfield 38, 3) := by decide +kernel
theorem dX7_addTask_143 : decode cX7_addTask 143 = .ok (.iload 4, 2) := by decide +kernel
theorem dX7_addTask_145 : decode cX7_addTask 145 = .ok (.iconst 0, 1) := by decide +kernel
theorem dX7_addTask_146 : decode cX7_addTask 146 = .ok (.iastore, 1) := by decide +kernel
theorem dX7_addTask_147 : decode cX7_addTask 147 = .ok (.aload_n 0, 1) := by decide +kernel
theorem dX7_addTask_148 : decode cX7_addTask 148 = .ok (.getfield 41, 3) := by decide +kernel
theorem dX7_addTask_151 : decode cX7_addTask 151 = .ok (.iload 4, 2) := by decide +kernel
theorem dX7_addTask_153 : decode cX7_addTask 153 = .ok (.iconst 0, 1) := by decide +kernel
theorem dX7_addTask_154 : decode cX7_addTask 154 = .ok (.iastore, 1) := by decide +kernel
theorem dX7_addTask_155 : decode cX7_addTask 155 = .ok (.aload_n 0, 1) := by decide +kernel
theorem dX7_addTask_156 : decode cX7_addTask 156 = .ok (.getfield 44, 3) := by decide +kernel
theorem dX7_addTask_159 : decode cX7_addTask 159 = .ok (.iload 4, 2) := by decide +kernel
theorem dX7_addTask_161 : decode cX7_addTask 161 = .ok (.iconst 0, 1) := by decide +kernel
theorem dX7_addTask_162 : decode cX7_addTask 162 = .ok (.bastore, 1) := by decide +kernel
theorem dX7_addTask_163 : decode cX7_addTask 163 = .ok (.aload_n 0, 1) := by decide +kernel
theorem dX7_addTask_164 : decode cX7_addTask 164 = .ok (.getfield 56, 3) := by decide +kernel
theorem dX7_addTask_167 : decode cX7_addTask 167 = .ok (.iload 4, 2) := by decide +kernel
theorem dX7_addTask_169 : decode cX7_addTask 169 = .ok (.iconst (-1), 1) := by decide +kernel
theorem dX7_addTask_170 : decode cX7_addTask 170 = .ok (.iastore, 1) := by decide +kernel
theorem dX7_addTask_171 : decode cX7_addTask 171 = .ok (.aload_n 0, 1) := by decide +kernel
theorem dX7_addTask_172 : decode cX7_addTask 172 = .ok (.getfield 59, 3) := by decide +kernel
theorem dX7_addTask_175 : decode cX7_addTask 175 = .ok (.iload 4, 2) := by decide +kernel
theorem dX7_addTask_177 : decode cX7_addTask 177 = .ok (.iconst 0, 1) := by decide +kernel
theorem dX7_addTask_178 : decode cX7_addTask 178 = .ok (.bastore, 1) := by decide +kernel
theorem dX7_addTask_179 : decode cX7_addTask 179 = .ok (.iload 4, 2) := by decide +kernel
theorem dX7_addTask_181 : decode cX7_addTask 181 = .ok (.ireturn, 1) := by decide +kernel
theorem dX7_mayStand_0 : decode cX7_mayStand 0 = .ok (.aload_n 0, 1) := by decide +kernel
theorem dX7_mayStand_1 : decode cX7_mayStand 1 = .ok (.getfield 71, 3) := by decide +kernel
theorem dX7_mayStand_4 : decode cX7_mayStand 4 = .ok (.iload_n 1, 1) := by decide +kernel
theorem dX7_mayStand_5 : decode cX7_mayStand 5 = .ok (.iaload, 1) := by decide +kernel
theorem dX7_mayStand_6 : decode cX7_mayStand 6 = .ok (.istore 5, 2) := by decide +kernel
theorem dX7_mayStand_8 : decode cX7_mayStand 8 = .ok (.iload 5, 2) := by decide +kernel
theorem dX7_mayStand_10 : decode cX7_mayStand 10 = .ok (.aload_n 0, 1) := by decide +kernel
theorem dX7_mayStand_11 : decode cX7_mayStand 11 = .ok (.getfield 74, 3) := by decide +kernel
theorem dX7_mayStand_14 : decode cX7_mayStand 14 = .ok (.iload_n 1, 1) := by decide +kernel
theorem dX7_mayStand_15 : decode cX7_mayStand 15 = .ok (.iaload, 1) := by decide +kernel
theorem dX7_mayStand_16 : decode cX7_mayStand 16 = .ok (.iadd, 1) := by decide +kernel
theorem dX7_mayStand_17 : decode cX7_mayStand 17 = .ok (.istore 6, 2) := by decide +kernel
theorem dX7_mayStand_19 : decode cX7_mayStand 19 = .ok (.iload_n 2, 1) := by decide +kernel
theorem dX7_mayStand_20 : decode cX7_mayStand 20 = .ok (.iload 6, 2) := by decide +kernel
theorem dX7_mayStand_22 : decode cX7_mayStand 22 = .ok (.if_icmp .ge 9, 3) := by decide +kernel
theorem dX7_mayStand_25 : decode cX7_mayStand 25 = .ok (.iload 5, 2) := by decide +kernel
theorem dX7_mayStand_27 : decode cX7_mayStand 27 = .ok (.iload_n 3, 1) := by decide +kernel
theorem dX7_mayStand_28 : decode cX7_mayStand 28 = .ok (.if_icmp .lt 5, 3) := by decide +kernel
theorem dX7_mayStand_31 : decode cX7_mayStand 31 = .ok (.iconst 1, 1) := by decide +kernel
theorem dX7_mayStand_32 : decode cX7_mayStand 32 = .ok (.ireturn, 1) := by decide +kernel
theorem dX7_mayStand_33 : decode cX7_mayStand 33 = .ok (.iload_n 2, 1) := by decide +kernel
theorem dX7_mayStand_34 : decode cX7_mayStand 34 = .ok (.iload 5, 2) := by decide +kernel
theorem dX7_mayStand_36 : decode cX7_mayStand 36 = .ok (.if_icmp .lt 9, 3) := by decide +kernel
theorem dX7_mayStand_39 : decode cX7_mayStand 39 = .ok (.iload_n 3, 1) := by decide +kernel
theorem dX7_mayStand_40 : decode cX7_mayStand 40 = .ok (.iload 6, 2) := by decide +kernel
theorem dX7_mayStand_42 : decode cX7_mayStand 42 = .ok (.if_icmp .le 15, 3) := by decide +kernel
theorem dX7_mayStand_45 : decode cX7_mayStand 45 = .ok (.iload 5, 2) := by decide +kernel
theorem dX7_mayStand_47 : decode cX7_mayStand 47 = .ok (.iload_n 2, 1) := by decide +kernel
theorem dX7_mayStand_48 : decode cX7_mayStand 48 = .ok (.if_icmp .lt 13, 3) := by decide +kernel
theorem dX7_mayStand_51 : decode cX7_mayStand 51 = .ok (.iload 6, 2) := by decide +kernel
theorem dX7_mayStand_53 : decode cX7_mayStand 53 = .ok (.iload_n 3, 1) := by decide +kernel
theorem dX7_mayStand_54 : decode cX7_mayStand 54 = .ok (.if_icmp .gt 7, 3) := by decide +kernel
theorem dX7_mayStand_57 : decode cX7_mayStand 57 = .ok (.iconst 1, 1) := by decide +kernel
theorem dX7_mayStand_58 : decode cX7_mayStand 58 = .ok (.goto 4, 3) := by decide +kernel
theorem dX7_mayStand_61 : decode cX7_mayStand 61 = .ok (.iconst 0, 1) := by decide +kernel
theorem dX7_mayStand_62 : decode cX7_mayStand 62 = .ok (.istore 7, 2) := by decide +kernel
theorem dX7_mayStand_64 : decode cX7_mayStand 64 = .ok (.iload 7, 2) := by decide +kernel
theorem dX7_mayStand_66 : decode cX7_mayStand 66 = .ok (.ifCond .eq 18, 3) := by decide +kernel
theorem dX7_mayStand_69 : decode cX7_mayStand 69 = .ok (.aload_n 0, 1) := by decide +kernel
theorem dX7_mayStand_70 : decode cX7_mayStand 70 = .ok (.getfield 68, 3) := by decide +kernel
theorem dX7_mayStand_73 : decode cX7_mayStand 73 = .ok (.iload_n 1, 1) := by decide +kernel
theorem dX7_mayStand_74 : decode cX7_mayStand 74 = .ok (.iaload, 1) := by decide +kernel
theorem dX7_mayStand_75 : decode cX7_mayStand 75 = .ok (.iload 4, 2) := by decide +kernel
theorem dX7_mayStand_77 : decode cX7_mayStand 77 = .ok (.if_icmp .eq 7, 3) := by decide +kernel
theorem dX7_mayStand_80 : decode cX7_mayStand 80 = .ok (.iconst 1, 1) := by decide +kernel
theorem dX7_mayStand_81 : decode cX7_mayStand 81 = .ok (.goto 4, 3) := by decide +kernel
theorem dX7_mayStand_84 : decode cX7_mayStand 84 = .ok (.iconst 0, 1) := by decide +kernel
theorem dX7_mayStand_85 : decode cX7_mayStand 85 = .ok (.ireturn, 1) := by decide +kernel
theorem dX7_addSection_0 : decode cX7_addSection 0 = .ok (.aload_n 0, 1) := by decide +kernel
theorem dX7_addSection_1 : decode cX7_addSection 1 = .ok (.iload_n 1, 1) := by decide +kernel
theorem dX7_addSection_2 : decode cX7_addSection 2 = .ok (.invokevirtual 109, 3) := by decide +kernel
theorem dX7_addSection_5 : decode cX7_addSection 5 = .ok (.ifCond .eq 21, 3) := by decide +kernel
theorem dX7_addSection_8 : decode cX7_addSection 8 = .ok (.aload_n 0, 1) := by decide +kernel
theorem dX7_addSection_9 : decode cX7_addSection 9 = .ok (.iload_n 3, 1) := by decide +kernel
theorem dX7_addSection_10 : decode cX7_addSection 10 = .ok (.invokevirtual 130, 3) := by decide +kernel
theorem dX7_addSection_13 : decode cX7_addSection 13 = .ok (.ifCond .eq 13, 3) := by decide +kernel
theorem dX7_addSection_16 : decode cX7_addSection 16 = .ok (.iload_n 2, 1) := by decide +kernel
theorem dX7_addSection_17 : decode cX7_addSection 17 = .ok (.ifCond .lt 9, 3) := by decide +kernel
theorem dX7_addSection_20 : decode cX7_addSection 20 = .ok (.iload 4, 2) := by decide +kernel
theorem dX7_addSection_22 : decode cX7_addSection 22 = .ok (.iconst 1, 1) := by decide +kernel
theorem dX7_addSection_23 : decode cX7_addSection 23 = .ok (.if_icmp .ge 5, 3) := by decide +kernel
theorem dX7_addSection_26 : decode cX7_addSection 26 = .ok (.iconst 0, 1) := by decide +kernel
theorem dX7_addSection_27 : decode cX7_addSection 27 = .ok (.ireturn, 1) := by decide +kernel
theorem dX7_addSection_28 : decode cX7_addSection 28 = .ok (.iload 4, 2) := by decide +kernel
theorem dX7_addSection_30 : decode cX7_addSection 30 = .ok (.aload_n 0, 1) := by decide +kernel
theorem dX7_addSection_31 : decode cX7_addSection 31 = .ok (.getfield 17, 3) := by decide +kernel
theorem dX7_addSection_34 : decode cX7_addSection 34 = .ok (.iload_n 1, 1) := by decide +kernel
theorem dX7_addSection_35 : decode cX7_addSection 35 = .ok (.iaload, 1) := by decide +kernel
theorem dX7_addSection_36 : decode cX7_addSection 36 = .ok (.if_icmp .gt 36, 3) := by decide +kernel
theorem dX7_addSection_39 : decode cX7_addSection 39 = .ok (.iload_n 2, 1) := by decide +kernel
theorem dX7_addSection_40 : decode cX7_addSection 40 = .ok (.aload_n 0, 1) := by decide +kernel
theorem dX7_addSection_41 : decode cX7_addSection 41 = .ok (.getfield 17, 3) := by decide +kernel
theorem dX7_addSection_44 : decode cX7_addSection 44 = .ok (.iload_n 1, 1) := by decide +kernel
theorem dX7_addSection_45 : decode cX7_addSection 45 = .ok (.iaload, 1) := by decide +kernel
theorem dX7_addSection_46 : decode cX7_addSection 46 = .ok (.iload 4, 2) := by decide +kernel
theorem dX7_addSection_48 : decode cX7_addSection 48 = .ok (.isub, 1) := by decide +kernel
theorem dX7_addSection_49 : decode cX7_addSection 49 = .ok (.if_icmp .gt 23, 3) := by decide +kernel
theorem dX7_addSection_52 : decode cX7_addSection 52 = .ok (.aload_n 0, 1) := by decide +kernel
theorem dX7_addSection_53 : decode cX7_addSection 53 = .ok (.getfield 133, 3) := by decide +kernel
theorem dX7_addSection_56 : decode cX7_addSection 56 = .ok (.aload_n 0, 1) := by decide +kernel
theorem dX7_addSection_57 : decode cX7_addSection 57 = .ok (.getfield 100, 3) := by decide +kernel
theorem dX7_addSection_60 : decode cX7_addSection 60 = .ok (.if_icmp .eq 12, 3) := by decide +kernel
theorem dX7_addSection_63 : decode cX7_addSection 63 = .ok (.aload_n 0, 1) := by decide +kernel
theorem dX7_addSection_64 : decode cX7_addSection 64 = .ok (.getfield 44, 3) := by decide +kernel
theorem dX7_addSection_67 : decode cX7_addSection 67 = .ok (.iload_n 1, 1) := by decide +kernel
theorem dX7_addSection_68 : decode cX7_addSection 68 = .ok (.baload, 1) := by decide +kernel
theorem dX7_addSection_69 : decode cX7_addSection 69 = .ok (.ifCond .eq 5, 3) := by decide +kernel
theorem dX7_addSection_72 : decode cX7_addSection 72 = .ok (.iconst 0, 1) := by decide +kernel
theorem dX7_addSection_73 : decode cX7_addSection 73 = .ok (.ireturn, 1) := by decide +kernel
theorem dX7_addSection_74 : decode cX7_addSection 74 = .ok (.iconst 0, 1) := by decide +kernel
theorem dX7_addSection_75 : decode cX7_addSection 75 = .ok (.istore 5, 2) := by decide +kernel
theorem dX7_addSection_77 : decode cX7_addSection 77 = .ok (.iload 5, 2) := by decide +kernel
theorem dX7_addSection_79 : decode cX7_addSection 79 = .ok (.aload_n 0, 1) := by decide +kernel
theorem dX7_addSection_80 : decode cX7_addSection 80 = .ok (.getfield 133, 3) := by decide +kernel
theorem dX7_addSection_83 : decode cX7_addSection 83 = .ok (.if_icmp .ge 37, 3) := by decide +kernel
theorem dX7_addSection_86 : decode cX7_addSection 86 = .ok (.aload_n 0, 1) := by decide +kernel
theorem dX7_addSection_87 : decode cX7_addSection 87 = .ok (.getfield 65, 3) := by decide +kernel
theorem dX7_addSection_90 : decode cX7_addSection 90 = .ok (.iload 5, 2) := by decide +kernel
theorem dX7_addSection_92 : decode cX7_addSection 92 = .ok (.iaload, 1) := by decide +kernel
theorem dX7_addSection_93 : decode cX7_addSection 93 = .ok (.iload_n 1, 1) := by decide +kernel
theorem dX7_addSection_94 : decode cX7_addSection 94 = .ok (.if_icmp .ne 20, 3) := by decide +kernel
theorem dX7_addSection_97 : decode cX7_addSection 97 = .ok (.aload_n 0, 1) := by decide +kernel
theorem dX7_addSection_98 : decode cX7_addSection 98 = .ok (.iload 5, 2) := by decide +kernel
theorem dX7_addSection_100 : decode cX7_addSection 100 = .ok (.iload_n 2, 1) := by decide +kernel
theorem dX7_addSection_101 : decode cX7_addSection 101 = .ok (.iload_n 2, 1) := by decide +kernel
theorem dX7_addSection_102 : decode cX7_addSection 102 = .ok (.iload 4, 2) := by decide +kernel
theorem dX7_addSection_104 : decode cX7_addSection 104 = .ok (.iadd, 1) := by decide +kernel
theorem dX7_addSection_105 : decode cX7_addSection 105 = .ok (.iload_n 3, 1) := by decide +kernel
theorem dX7_addSection_106 : decode cX7_addSection 106 = .ok (.invokevirtual 136, 3) := by decide +kernel
theorem dX7_addSection_109 : decode cX7_addSection 109 = .ok (.ifCond .ne 5, 3) := by decide +kernel
theorem dX7_addSection_112 : decode cX7_addSection 112 = .ok (.iconst 0, 1) := by decide +kernel
theorem dX7_addSection_113 : decode cX7_addSection 113 = .ok (.ireturn, 1) := by decide +kernel
theorem dX7_addSection_114 : decode cX7_addSection 114 = .ok (.iinc 5 1, 3) := by decide +kernel
theorem dX7_addSection_117 : decode cX7_addSection 117 = .ok (.goto (-40), 3) := by decide +kernel
theorem dX7_addSection_120 : decode cX7_addSection 120 = .ok (.aload_n 0, 1) := by decide +kernel
theorem dX7_addSection_121 : decode cX7_addSection 121 = .ok (.getfield 65, 3) := by decide +kernel
theorem dX7_addSection_124 : decode cX7_addSection 124 = .ok (.aload_n 0, 1) := by decide +kernel
theorem dX7_addSection_125 : decode cX7_addSection 125 = .ok (.getfield 133, 3) := by decide +kernel
theorem dX7_addSection_128 : decode cX7_addSection 128 = .ok (.iload_n 1, 1) := by decide +kernel
theorem dX7_addSection_129 : decode cX7_addSection 129 = .ok (.iastore, 1) := by decide +kernel
theorem dX7_addSection_130 : decode cX7_addSection 130 = .ok (.aload_n 0, 1) := by decide +kernel
theorem dX7_addSection_131 : decode cX7_addSection 131 = .ok (.getfield 68, 3) := by decide +kernel
theorem dX7_addSection_134 : decode cX7_addSection 134 = .ok (.aload_n 0, 1) := by decide +kernel
theorem dX7_addSection_135 : decode cX7_addSection 135 = .ok (.getfield 133, 3) := by decide +kernel
theorem dX7_addSection_138 : decode cX7_addSection 138 = .ok (.iload_n 3, 1) := by decide +kernel
theorem dX7_addSection_139 : decode cX7_addSection 139 = .ok (.iastore, 1) := by decide +kernel
theorem dX7_addSection_140 : decode cX7_addSection 140 = .ok (.aload_n 0, 1) := by decide +kernel
theorem dX7_addSection_141 : decode cX7_addSection 141 = .ok (.getfield 71, 3) := by decide +kernel
theorem dX7_addSection_144 : decode cX7_addSection 144 = .ok (.aload_n 0, 1) := by decide +kernel
theorem dX7_addSection_145 : decode cX7_addSection 145 = .ok (.getfield 133, 3) := by decide +kernel
theorem dX7_addSection_148 : decode cX7_addSection 148 = .ok (.iload_n 2, 1) := by decide +kernel
theorem dX7_addSection_149 : decode cX7_addSection 149 = .ok (.iastore, 1) := by decide +kernel
theorem dX7_addSection_150 : decode cX7_addSection 150 = .ok (.aload_n 0, 1) := by decide +kernel
theorem dX7_addSection_151 : decode cX7_addSection 151 = .ok (.getfield 74, 3) := by decide +kernel
theorem dX7_addSection_154 : decode cX7_addSection 154 = .ok (.aload_n 0, 1) := by decide +kernel
theorem dX7_addSection_155 : decode cX7_addSection 155 = .ok (.getfield 133, 3) := by decide +kernel
theorem dX7_addSection_158 : decode cX7_addSection 158 = .ok (.iload 4, 2) := by decide +kernel
theorem dX7_addSection_160 : decode cX7_addSection 160 = .ok (.iastore, 1) := by decide +kernel
theorem dX7_addSection_161 : decode cX7_addSection 161 = .ok (.aload_n 0, 1) := by decide +kernel
theorem dX7_addSection_162 : decode cX7_addSection 162 = .ok (.dup, 1) := by decide +kernel
theorem dX7_addSection_163 : decode cX7_addSection 163 = .ok (.getfield 133, 3) := by decide +kernel
theorem dX7_addSection_166 : decode cX7_addSection 166 = .ok (.iconst 1, 1) := by decide +kernel
theorem dX7_addSection_167 : decode cX7_addSection 167 = .ok (.iadd, 1) := by decide +kernel
theorem dX7_addSection_168 : decode cX7_addSection 168 = .ok (.putfield 133, 3) := by decide +kernel
theorem dX7_addSection_171 : decode cX7_addSection 171 = .ok (.iconst 1, 1) := by decide +kernel
theorem dX7_addSection_172 : decode cX7_addSection 172 = .ok (.ireturn, 1) := by decide +kernel
theorem dX7_removeTask_0 : decode cX7_removeTask 0 = .ok (.aload_n 0, 1) := by decide +kernel
theorem dX7_removeTask_1 : decode cX7_removeTask 1 = .ok (.iload_n 1, 1) := by decide +kernel
theorem dX7_removeTask_2 : decode cX7_removeTask 2 = .ok (.invokevirtual 109, 3) := by decide +kernel
theorem dX7_removeTask_5 : decode cX7_removeTask 5 = .ok (.ifCond .ne 5, 3) := by decide +kernel
theorem dX7_removeTask_8 : decode cX7_removeTask 8 = .ok (.iconst 0, 1) := by decide +kernel
theorem dX7_removeTask_9 : decode cX7_removeTask 9 = .ok (.ireturn, 1) := by decide +kernel
theorem dX7_removeTask_10 : decode cX7_removeTask 10 = .ok (.aload_n 0, 1) := by decide +kernel
theorem dX7_removeTask_11 : decode cX7_removeTask 11 = .ok (.getfield 44, 3) := by decide +kernel
theorem dX7_removeTask_14 : decode cX7_removeTask 14 = .ok (.iload_n 1, 1) := by decide +kernel
theorem dX7_removeTask_15 : decode cX7_removeTask 15 = .ok (.baload, 1) := by decide +kernel
theorem dX7_removeTask_16 : decode cX7_removeTask 16 = .ok (.ifCond .eq 8, 3) := by decide +kernel
theorem dX7_removeTask_19 : decode cX7_removeTask 19 = .ok (.aload_n 0, 1) := by decide +kernel
theorem dX7_removeTask_20 : decode cX7_removeTask 20 = .ok (.iload_n 1, 1) := by decide +kernel
theorem dX7_removeTask_21 : decode cX7_removeTask 21 = .ok (.invokevirtual 140, 3) := by decide +kernel
theorem dX7_removeTask_24 : decode cX7_removeTask 24 = .ok (.aload_n 0, 1) := by decide +kernel
theorem dX7_removeTask_25 : decode cX7_removeTask 25 = .ok (.getfield 9, 3) := by decide +kernel
theorem dX7_removeTask_28 : decode cX7_removeTask 28 = .ok (.iload_n 1, 1) := by decide +kernel
theorem dX7_removeTask_29 : decode cX7_removeTask 29 = .ok (.iconst 0, 1) := by decide +kernel
theorem dX7_removeTask_30 : decode cX7_removeTask 30 = .ok (.bastore, 1) := by decide +kernel
theorem dX7_removeTask_31 : decode cX7_removeTask 31 = .ok (.iconst 0, 1) := by decide +kernel
theorem dX7_removeTask_32 : decode cX7_removeTask 32 = .ok (.istore_n 2, 1) := by decide +kernel
theorem dX7_removeTask_33 : decode cX7_removeTask 33 = .ok (.iconst 0, 1) := by decide +kernel
theorem dX7_removeTask_34 : decode cX7_removeTask 34 = .ok (.istore_n 3, 1) := by decide +kernel
theorem dX7_removeTask_35 : decode cX7_removeTask 35 = .ok (.iload_n 3, 1) := by decide +kernel
theorem dX7_removeTask_36 : decode cX7_removeTask 36 = .ok (.aload_n 0, 1) := by decide +kernel
theorem dX7_removeTask_37 : decode cX7_removeTask 37 = .ok (.getfield 133, 3) := by decide +kernel
theorem dX7_removeTask_40 : decode cX7_removeTask 40 = .ok (.if_icmp .ge 73, 3) := by decide +kernel
theorem dX7_removeTask_43 : decode cX7_removeTask 43 = .ok (.aload_n 0, 1) := by decide +kernel
theorem dX7_removeTask_44 : decode cX7_removeTask 44 = .ok (.getfield 65, 3) := by decide +kernel
theorem dX7_removeTask_47 : decode cX7_removeTask 47 = .ok (.iload_n 3, 1) := by decide +kernel
theorem dX7_removeTask_48 : decode cX7_removeTask 48 = .ok (.iaload, 1) := by decide +kernel
theorem dX7_removeTask_49 : decode cX7_removeTask 49 = .ok (.iload_n 1, 1) := by decide +kernel
theorem dX7_removeTask_50 : decode cX7_removeTask 50 = .ok (.if_icmp .ne 6, 3) := by decide +kernel
theorem dX7_removeTask_53 : decode cX7_removeTask 53 = .ok (.goto 54, 3) := by decide +kernel
theorem dX7_removeTask_56 : decode cX7_removeTask 56 = .ok (.aload_n 0, 1) := by decide +kernel
theorem dX7_removeTask_57 : decode cX7_removeTask 57 = .ok (.getfield 65, 3) := by decide +kernel
theorem dX7_removeTask_60 : decode cX7_removeTask 60 = .ok (.iload_n 2, 1) := by decide +kernel
theorem dX7_removeTask_61 : decode cX7_removeTask 61 = .ok (.aload_n 0, 1) := by decide +kernel
theorem dX7_removeTask_62 : decode cX7_removeTask 62 = .ok (.getfield 65, 3) := by decide +kernel
theorem dX7_removeTask_65 : decode cX7_removeTask 65 = .ok (.iload_n 3, 1) := by decide +kernel
theorem dX7_removeTask_66 : decode cX7_removeTask 66 = .ok (.iaload, 1) := by decide +kernel
theorem dX7_removeTask_67 : decode cX7_removeTask 67 = .ok (.iastore, 1) := by decide +kernel
theorem dX7_removeTask_68 : decode cX7_removeTask 68 = .ok (.aload_n 0, 1) := by decide +kernel
theorem dX7_removeTask_69 : decode cX7_removeTask 69 = .ok (.getfield 68, 3) := by decide +kernel
theorem dX7_removeTask_72 : decode cX7_removeTask 72 = .ok (.iload_n 2, 1) := by decide +kernel
theorem dX7_removeTask_73 : decode cX7_removeTask 73 = .ok (.aload_n 0, 1) := by decide +kernel
theorem dX7_removeTask_74 : decode cX7_removeTask 74 = .ok (.getfield 68, 3) := by decide +kernel
theorem dX7_removeTask_77 : decode cX7_removeTask 77 = .ok (.iload_n 3, 1) := by decide +kernel
theorem dX7_removeTask_78 : decode cX7_removeTask 78 = .ok (.iaload, 1) := by decide +kernel
theorem dX7_removeTask_79 : decode cX7_removeTask 79 = .ok (.iastore, 1) := by decide +kernel
theorem dX7_removeTask_80 : decode cX7_removeTask 80 = .ok (.aload_n 0, 1) := by decide +kernel
theorem dX7_removeTask_81 : decode cX7_removeTask 81 = .ok (.getfield 71, 3) := by decide +kernel
theorem dX7_removeTask_84 : decode cX7_removeTask 84 = .ok (.iload_n 2, 1) := by decide +kernel
theorem dX7_removeTask_85 : decode cX7_removeTask 85 = .ok (.aload_n 0, 1) := by decide +kernel
theorem dX7_removeTask_86 : decode cX7_removeTask 86 = .ok (.getfield 71, 3) := by decide +kernel
theorem dX7_removeTask_89 : decode cX7_removeTask 89 = .ok (.iload_n 3, 1) := by decide +kernel
theorem dX7_removeTask_90 : decode cX7_removeTask 90 = .ok (.iaload, 1) := by decide +kernel
theorem dX7_removeTask_91 : decode cX7_removeTask 91 = .ok (.iastore, 1) := by decide +kernel
theorem dX7_removeTask_92 : decode cX7_removeTask 92 = .ok (.aload_n 0, 1) := by decide +kernel
theorem dX7_removeTask_93 : decode cX7_removeTask 93 = .ok (.getfield 74, 3) := by decide +kernel
theorem dX7_removeTask_96 : decode cX7_removeTask 96 = .ok (.iload_n 2, 1) := by decide +kernel
theorem dX7_removeTask_97 : decode cX7_removeTask 97 = .ok (.aload_n 0, 1) := by decide +kernel
theorem dX7_removeTask_98 : decode cX7_removeTask 98 = .ok (.getfield 74, 3) := by decide +kernel
theorem dX7_removeTask_101 : decode cX7_removeTask 101 = .ok (.iload_n 3, 1) := by decide +kernel
theorem dX7_removeTask_102 : decode cX7_removeTask 102 = .ok (.iaload, 1) := by decide +kernel
theorem dX7_removeTask_103 : decode cX7_removeTask 103 = .ok (.iastore, 1) := by decide +kernel
theorem dX7_removeTask_104 : decode cX7_removeTask 104 = .ok (.iinc 2 1, 3) := by decide +kernel
theorem dX7_removeTask_107 : decode cX7_removeTask 107 = .ok (.iinc 3 1, 3) := by decide +kernel
theorem dX7_removeTask_110 : decode cX7_removeTask 110 = .ok (.goto (-75), 3) := by decide +kernel
theorem dX7_removeTask_113 : decode cX7_removeTask 113 = .ok (.aload_n 0, 1) := by decide +kernel
theorem dX7_removeTask_114 : decode cX7_removeTask 114 = .ok (.iload_n 2, 1) := by decide +kernel
theorem dX7_removeTask_115 : decode cX7_removeTask 115 = .ok (.putfield 133, 3) := by decide +kernel
theorem dX7_removeTask_118 : decode cX7_removeTask 118 = .ok (.iconst 1, 1) := by decide +kernel
theorem dX7_removeTask_119 : decode cX7_removeTask 119 = .ok (.ireturn, 1) := by decide +kernel
theorem dX7_admissible_0 : decode cX7_admissible 0 = .ok (.iconst 1, 1) := by decide +kernel
theorem dX7_admissible_1 : decode cX7_admissible 1 = .ok (.istore_n 1, 1) := by decide +kernel
theorem dX7_admissible_2 : decode cX7_admissible 2 = .ok (.iconst 0, 1) := by decide +kernel
theorem dX7_admissible_3 : decode cX7_admissible 3 = .ok (.istore_n 2, 1) := by decide +kernel
theorem dX7_admissible_4 : decode cX7_admissible 4 = .ok (.iload_n 2, 1) := by decide +kernel
theorem dX7_admissible_5 : decode cX7_admissible 5 = .ok (.aload_n 0, 1) := by decide +kernel
theorem dX7_admissible_6 : decode cX7_admissible 6 = .ok (.getfield 106, 3) := by decide +kernel
theorem dX7_admissible_9 : decode cX7_admissible 9 = .ok (.if_icmp .ge 99, 3) := by decide +kernel
theorem dX7_admissible_12 : decode cX7_admissible 12 = .ok (.iload_n 1, 1) := by decide +kernel
theorem dX7_admissible_13 : decode cX7_admissible 13 = .ok (.ifCond .eq 95, 3) := by decide +kernel
theorem dX7_admissible_16 : decode cX7_admissible 16 = .ok (.lconst 0, 1) := by decide +kernel
theorem dX7_admissible_17 : decode cX7_admissible 17 = .ok (.lstore_n 3, 1) := by decide +kernel
theorem dX7_admissible_18 : decode cX7_admissible 18 = .ok (.iconst 0, 1) := by decide +kernel
theorem dX7_admissible_19 : decode cX7_admissible 19 = .ok (.istore 5, 2) := by decide +kernel
theorem dX7_admissible_21 : decode cX7_admissible 21 = .ok (.iload 5, 2) := by decide +kernel
theorem dX7_admissible_23 : decode cX7_admissible 23 = .ok (.aload_n 0, 1) := by decide +kernel
theorem dX7_admissible_24 : decode cX7_admissible 24 = .ok (.getfield 93, 3) := by decide +kernel
theorem dX7_admissible_27 : decode cX7_admissible 27 = .ok (.if_icmp .ge 62, 3) := by decide +kernel
theorem dX7_admissible_30 : decode cX7_admissible 30 = .ok (.aload_n 0, 1) := by decide +kernel
theorem dX7_admissible_31 : decode cX7_admissible 31 = .ok (.getfield 9, 3) := by decide +kernel
theorem dX7_admissible_34 : decode cX7_admissible 34 = .ok (.iload 5, 2) := by decide +kernel
theorem dX7_admissible_36 : decode cX7_admissible 36 = .ok (.baload, 1) := by decide +kernel
theorem dX7_admissible_37 : decode cX7_admissible 37 = .ok (.ifCond .eq 46, 3) := by decide +kernel
theorem dX7_admissible_40 : decode cX7_admissible 40 = .ok (.aload_n 0, 1) := by decide +kernel
theorem dX7_admissible_41 : decode cX7_admissible 41 = .ok (.getfield 20, 3) := by decide +kernel
theorem dX7_admissible_44 : decode cX7_admissible 44 = .ok (.iload 5, 2) := by decide +kernel
theorem dX7_admissible_46 : decode cX7_admissible 46 = .ok (.iaload, 1) := by decide +kernel
theorem dX7_admissible_47 : decode cX7_admissible 47 = .ok (.iload_n 2, 1) := by decide +kernel
theorem dX7_admissible_48 : decode cX7_admissible 48 = .ok (.if_icmp .gt 35, 3) := by decide +kernel
theorem dX7_admissible_51 : decode cX7_admissible 51 = .ok (.lload_n 3, 1) := by decide +kernel
theorem dX7_admissible_52 : decode cX7_admissible 52 = .ok (.aload_n 0, 1) := by decide +kernel
theorem dX7_admissible_53 : decode cX7_admissible 53 = .ok (.getfield 17, 3) := by decide +kernel
theorem dX7_admissible_56 : decode cX7_admissible 56 = .ok (.iload 5, 2) := by decide +kernel
theorem dX7_admissible_58 : decode cX7_admissible 58 = .ok (.iaload, 1) := by decide +kernel
theorem dX7_admissible_59 : decode cX7_admissible 59 = .ok (.i2l, 1) := by decide +kernel
theorem dX7_admissible_60 : decode cX7_admissible 60 = .ok (.iconst 1, 1) := by decide +kernel
theorem dX7_admissible_61 : decode cX7_admissible 61 = .ok (.iload_n 2, 1) := by decide +kernel
theorem dX7_admissible_62 : decode cX7_admissible 62 = .ok (.aload_n 0, 1) := by decide +kernel
theorem dX7_admissible_63 : decode cX7_admissible 63 = .ok (.getfield 20, 3) := by decide +kernel
theorem dX7_admissible_66 : decode cX7_admissible 66 = .ok (.iload 5, 2) := by decide +kernel
theorem dX7_admissible_68 : decode cX7_admissible 68 = .ok (.iaload, 1) := by decide +kernel
theorem dX7_admissible_69 : decode cX7_admissible 69 = .ok (.isub, 1) := by decide +kernel
theorem dX7_admissible_70 : decode cX7_admissible 70 = .ok (.aload_n 0, 1) := by decide +kernel
theorem dX7_admissible_71 : decode cX7_admissible 71 = .ok (.getfield 13, 3) := by decide +kernel
theorem dX7_admissible_74 : decode cX7_admissible 74 = .ok (.iload 5, 2) := by decide +kernel
theorem dX7_admissible_76 : decode cX7_admissible 76 = .ok (.iaload, 1) := by decide +kernel
theorem dX7_admissible_77 : decode cX7_admissible 77 = .ok (.idiv, 1) := by decide +kernel
theorem dX7_admissible_78 : decode cX7_admissible 78 = .ok (.iadd, 1) := by decide +kernel
theorem dX7_admissible_79 : decode cX7_admissible 79 = .ok (.i2l, 1) := by decide +kernel
theorem dX7_admissible_80 : decode cX7_admissible 80 = .ok (.lmul, 1) := by decide +kernel
theorem dX7_admissible_81 : decode cX7_admissible 81 = .ok (.ladd, 1) := by decide +kernel
theorem dX7_admissible_82 : decode cX7_admissible 82 = .ok (.lstore_n 3, 1) := by decide +kernel
theorem dX7_admissible_83 : decode cX7_admissible 83 = .ok (.iinc 5 1, 3) := by decide +kernel
theorem dX7_admissible_86 : decode cX7_admissible 86 = .ok (.goto (-65), 3) := by decide +kernel
theorem dX7_admissible_89 : decode cX7_admissible 89 = .ok (.lload_n 3, 1) := by decide +kernel
theorem dX7_admissible_90 : decode cX7_admissible 90 = .ok (.iload_n 2, 1) := by decide +kernel
theorem dX7_admissible_91 : decode cX7_admissible 91 = .ok (.i2l, 1) := by decide +kernel
theorem dX7_admissible_92 : decode cX7_admissible 92 = .ok (.lcmp, 1) := by decide +kernel
theorem dX7_admissible_93 : decode cX7_admissible 93 = .ok (.ifCond .gt 7, 3) := by decide +kernel
theorem dX7_admissible_96 : decode cX7_admissible 96 = .ok (.iconst 1, 1) := by decide +kernel
theorem dX7_admissible_97 : decode cX7_admissible 97 = .ok (.goto 4, 3) := by decide +kernel
theorem dX7_admissible_100 : decode cX7_admissible 100 = .ok (.iconst 0, 1) := by decide +kernel
theorem dX7_admissible_101 : decode cX7_admissible 101 = .ok (.istore_n 1, 1) := by decide +kernel
theorem dX7_admissible_102 : decode cX7_admissible 102 = .ok (.iinc 2 1, 3) := by decide +kernel
theorem dX7_admissible_105 : decode cX7_admissible 105 = .ok (.goto (-101), 3) := by decide +kernel
theorem dX7_admissible_108 : decode cX7_admissible 108 = .ok (.iload_n 1, 1) := by decide +kernel
theorem dX7_admissible_109 : decode cX7_admissible 109 = .ok (.ireturn, 1) := by decide +kernel
theorem dX7_misses_0 : decode cX7_misses 0 = .ok (.iconst 0, 1) := by decide +kernel
theorem dX7_misses_1 : decode cX7_misses 1 = .ok (.istore_n 1, 1) := by decide +kernel
theorem dX7_misses_2 : decode cX7_misses 2 = .ok (.iconst 0, 1) := by decide +kernel
theorem dX7_misses_3 : decode cX7_misses 3 = .ok (.istore_n 2, 1) := by decide +kernel
theorem dX7_misses_4 : decode cX7_misses 4 = .ok (.iload_n 2, 1) := by decide +kernel
theorem dX7_misses_5 : decode cX7_misses 5 = .ok (.aload_n 0, 1) := by decide +kernel
theorem dX7_misses_6 : decode cX7_misses 6 = .ok (.getfield 93, 3) := by decide +kernel
theorem dX7_misses_9 : decode cX7_misses 9 = .ok (.if_icmp .ge 94, 3) := by decide +kernel
theorem dX7_misses_12 : decode cX7_misses 12 = .ok (.aload_n 0, 1) := by decide +kernel
theorem dX7_misses_13 : decode cX7_misses 13 = .ok (.iload_n 2, 1) := by decide +kernel
theorem dX7_misses_14 : decode cX7_misses 14 = .ok (.invokevirtual 113, 3) := by decide +kernel
theorem dX7_misses_17 : decode cX7_misses 17 = .ok (.ifCond .eq 80, 3) := by decide +kernel
theorem dX7_misses_20 : decode cX7_misses 20 = .ok (.aload_n 0, 1) := by decide +kernel
theorem dX7_misses_21 : decode cX7_misses 21 = .ok (.getfield 50, 3) := by decide +kernel
theorem dX7_misses_24 : decode cX7_misses 24 = .ok (.iload_n 2, 1) := by decide +kernel
theorem dX7_misses_25 : decode cX7_misses 25 = .ok (.iaload, 1) := by decide +kernel
theorem dX7_misses_26 : decode cX7_misses 26 = .ok (.aload_n 0, 1) := by decide +kernel
theorem dX7_misses_27 : decode cX7_misses 27 = .ok (.getfield 127, 3) := by decide +kernel
theorem dX7_misses_30 : decode cX7_misses 30 = .ok (.if_icmp .eq 6, 3) := by decide +kernel
theorem dX7_misses_33 : decode cX7_misses 33 = .ok (.goto 64, 3) := by decide +kernel
theorem dX7_misses_36 : decode cX7_misses 36 = .ok (.iconst 1, 1) := by decide +kernel
theorem dX7_misses_37 : decode cX7_misses 37 = .ok (.istore_n 1, 1) := by decide +kernel
theorem dX7_misses_38 : decode cX7_misses 38 = .ok (.aload_n 0, 1) := by decide +kernel
theorem dX7_misses_39 : decode cX7_misses 39 = .ok (.getfield 32, 3) := by decide +kernel
theorem dX7_misses_42 : decode cX7_misses 42 = .ok (.iload_n 2, 1) := by decide +kernel
theorem dX7_misses_43 : decode cX7_misses 43 = .ok (.dup2, 1) := by decide +kernel
theorem dX7_misses_44 : decode cX7_misses 44 = .ok (.iaload, 1) := by decide +kernel
theorem dX7_misses_45 : decode cX7_misses 45 = .ok (.iconst 1, 1) := by decide +kernel
theorem dX7_misses_46 : decode cX7_misses 46 = .ok (.iadd, 1) := by decide +kernel
theorem dX7_misses_47 : decode cX7_misses 47 = .ok (.iastore, 1) := by decide +kernel
theorem dX7_misses_48 : decode cX7_misses 48 = .ok (.aload_n 0, 1) := by decide +kernel
theorem dX7_misses_49 : decode cX7_misses 49 = .ok (.getfield 143, 3) := by decide +kernel
theorem dX7_misses_52 : decode cX7_misses 52 = .ok (.aload_n 0, 1) := by decide +kernel
theorem dX7_misses_53 : decode cX7_misses 53 = .ok (.getfield 103, 3) := by decide +kernel
theorem dX7_misses_56 : decode cX7_misses 56 = .ok (.if_icmp .ge 26, 3) := by decide +kernel
theorem dX7_misses_59 : decode cX7_misses 59 = .ok (.aload_n 0, 1) := by decide +kernel
theorem dX7_misses_60 : decode cX7_misses 60 = .ok (.getfield 80, 3) := by decide +kernel
theorem dX7_misses_63 : decode cX7_misses 63 = .ok (.aload_n 0, 1) := by decide +kernel
theorem dX7_misses_64 : decode cX7_misses 64 = .ok (.getfield 143, 3) := by decide +kernel
theorem dX7_misses_67 : decode cX7_misses 67 = .ok (.iload_n 2, 1) := by decide +kernel
theorem dX7_misses_68 : decode cX7_misses 68 = .ok (.iastore, 1) := by decide +kernel
theorem dX7_misses_69 : decode cX7_misses 69 = .ok (.aload_n 0, 1) := by decide +kernel
