theorem dX5_thrown_0 : decode cX5_thrown 0 = .ok (.aload_n 0, 1) := by decide +kernel
theorem dX5_thrown_1 : decode cX5_thrown 1 = .ok (.getfield 1, 3) := by decide +kernel
theorem dX5_thrown_4 : decode cX5_thrown 4 = .ok (.ireturn, 1) := by decide +kernel
theorem dX5_init_0 : decode cX5_init 0 = .ok (.aload_n 0, 1) := by decide +kernel
theorem dX5_init_1 : decode cX5_init 1 = .ok (.invokespecial 7, 3) := by decide +kernel
theorem dX5_init_4 : decode cX5_init 4 = .ok (.aload_n 0, 1) := by decide +kernel
theorem dX5_init_5 : decode cX5_init 5 = .ok (.sipush 400, 3) := by decide +kernel
theorem dX5_init_8 : decode cX5_init 8 = .ok (.newarray .int, 2) := by decide +kernel
theorem dX5_init_10 : decode cX5_init 10 = .ok (.putfield 13, 3) := by decide +kernel
theorem dX5_init_13 : decode cX5_init 13 = .ok (.aload_n 0, 1) := by decide +kernel
theorem dX5_init_14 : decode cX5_init 14 = .ok (.sipush 400, 3) := by decide +kernel
theorem dX5_init_17 : decode cX5_init 17 = .ok (.newarray .int, 2) := by decide +kernel
theorem dX5_init_19 : decode cX5_init 19 = .ok (.putfield 17, 3) := by decide +kernel
theorem dX5_init_22 : decode cX5_init 22 = .ok (.aload_n 0, 1) := by decide +kernel
theorem dX5_init_23 : decode cX5_init 23 = .ok (.sipush 400, 3) := by decide +kernel
theorem dX5_init_26 : decode cX5_init 26 = .ok (.newarray .int, 2) := by decide +kernel
theorem dX5_init_28 : decode cX5_init 28 = .ok (.putfield 20, 3) := by decide +kernel
theorem dX5_init_31 : decode cX5_init 31 = .ok (.aload_n 0, 1) := by decide +kernel
theorem dX5_init_32 : decode cX5_init 32 = .ok (.sipush 400, 3) := by decide +kernel
theorem dX5_init_35 : decode cX5_init 35 = .ok (.newarray .int, 2) := by decide +kernel
theorem dX5_init_37 : decode cX5_init 37 = .ok (.putfield 23, 3) := by decide +kernel
theorem dX5_init_40 : decode cX5_init 40 = .ok (.aload_n 0, 1) := by decide +kernel
theorem dX5_init_41 : decode cX5_init 41 = .ok (.sipush 400, 3) := by decide +kernel
theorem dX5_init_44 : decode cX5_init 44 = .ok (.newarray .int, 2) := by decide +kernel
theorem dX5_init_46 : decode cX5_init 46 = .ok (.putfield 26, 3) := by decide +kernel
theorem dX5_init_49 : decode cX5_init 49 = .ok (.aload_n 0, 1) := by decide +kernel
theorem dX5_init_50 : decode cX5_init 50 = .ok (.sipush 400, 3) := by decide +kernel
theorem dX5_init_53 : decode cX5_init 53 = .ok (.newarray .int, 2) := by decide +kernel
theorem dX5_init_55 : decode cX5_init 55 = .ok (.putfield 29, 3) := by decide +kernel
theorem dX5_init_58 : decode cX5_init 58 = .ok (.aload_n 0, 1) := by decide +kernel
theorem dX5_init_59 : decode cX5_init 59 = .ok (.sipush 400, 3) := by decide +kernel
theorem dX5_init_62 : decode cX5_init 62 = .ok (.newarray .int, 2) := by decide +kernel
theorem dX5_init_64 : decode cX5_init 64 = .ok (.putfield 32, 3) := by decide +kernel
theorem dX5_init_67 : decode cX5_init 67 = .ok (.aload_n 0, 1) := by decide +kernel
theorem dX5_init_68 : decode cX5_init 68 = .ok (.sipush 400, 3) := by decide +kernel
theorem dX5_init_71 : decode cX5_init 71 = .ok (.newarray .boolean, 2) := by decide +kernel
theorem dX5_init_73 : decode cX5_init 73 = .ok (.putfield 35, 3) := by decide +kernel
theorem dX5_init_76 : decode cX5_init 76 = .ok (.aload_n 0, 1) := by decide +kernel
theorem dX5_init_77 : decode cX5_init 77 = .ok (.sipush 400, 3) := by decide +kernel
theorem dX5_init_80 : decode cX5_init 80 = .ok (.newarray .boolean, 2) := by decide +kernel
theorem dX5_init_82 : decode cX5_init 82 = .ok (.putfield 39, 3) := by decide +kernel
theorem dX5_init_85 : decode cX5_init 85 = .ok (.aload_n 0, 1) := by decide +kernel
theorem dX5_init_86 : decode cX5_init 86 = .ok (.sipush 400, 3) := by decide +kernel
theorem dX5_init_89 : decode cX5_init 89 = .ok (.newarray .int, 2) := by decide +kernel
theorem dX5_init_91 : decode cX5_init 91 = .ok (.putfield 42, 3) := by decide +kernel
theorem dX5_init_94 : decode cX5_init 94 = .ok (.aload_n 0, 1) := by decide +kernel
theorem dX5_init_95 : decode cX5_init 95 = .ok (.sipush 4800, 3) := by decide +kernel
theorem dX5_init_98 : decode cX5_init 98 = .ok (.newarray .int, 2) := by decide +kernel
theorem dX5_init_100 : decode cX5_init 100 = .ok (.putfield 45, 3) := by decide +kernel
theorem dX5_init_103 : decode cX5_init 103 = .ok (.aload_n 0, 1) := by decide +kernel
theorem dX5_init_104 : decode cX5_init 104 = .ok (.sipush 4800, 3) := by decide +kernel
theorem dX5_init_107 : decode cX5_init 107 = .ok (.newarray .int, 2) := by decide +kernel
theorem dX5_init_109 : decode cX5_init 109 = .ok (.putfield 48, 3) := by decide +kernel
theorem dX5_init_112 : decode cX5_init 112 = .ok (.aload_n 0, 1) := by decide +kernel
theorem dX5_init_113 : decode cX5_init 113 = .ok (.sipush 4800, 3) := by decide +kernel
theorem dX5_init_116 : decode cX5_init 116 = .ok (.newarray .int, 2) := by decide +kernel
theorem dX5_init_118 : decode cX5_init 118 = .ok (.putfield 51, 3) := by decide +kernel
theorem dX5_init_121 : decode cX5_init 121 = .ok (.aload_n 0, 1) := by decide +kernel
theorem dX5_init_122 : decode cX5_init 122 = .ok (.sipush 400, 3) := by decide +kernel
theorem dX5_init_125 : decode cX5_init 125 = .ok (.newarray .int, 2) := by decide +kernel
theorem dX5_init_127 : decode cX5_init 127 = .ok (.putfield 54, 3) := by decide +kernel
theorem dX5_init_130 : decode cX5_init 130 = .ok (.aload_n 0, 1) := by decide +kernel
theorem dX5_init_131 : decode cX5_init 131 = .ok (.sipush 400, 3) := by decide +kernel
theorem dX5_init_134 : decode cX5_init 134 = .ok (.newarray .int, 2) := by decide +kernel
theorem dX5_init_136 : decode cX5_init 136 = .ok (.putfield 57, 3) := by decide +kernel
theorem dX5_init_139 : decode cX5_init 139 = .ok (.aload_n 0, 1) := by decide +kernel
theorem dX5_init_140 : decode cX5_init 140 = .ok (.sipush 2400, 3) := by decide +kernel
theorem dX5_init_143 : decode cX5_init 143 = .ok (.newarray .boolean, 2) := by decide +kernel
theorem dX5_init_145 : decode cX5_init 145 = .ok (.putfield 60, 3) := by decide +kernel
theorem dX5_init_148 : decode cX5_init 148 = .ok (.aload_n 0, 1) := by decide +kernel
theorem dX5_init_149 : decode cX5_init 149 = .ok (.sipush 2400, 3) := by decide +kernel
theorem dX5_init_152 : decode cX5_init 152 = .ok (.newarray .boolean, 2) := by decide +kernel
theorem dX5_init_154 : decode cX5_init 154 = .ok (.putfield 63, 3) := by decide +kernel
theorem dX5_init_157 : decode cX5_init 157 = .ok (.aload_n 0, 1) := by decide +kernel
theorem dX5_init_158 : decode cX5_init 158 = .ok (.sipush 2400, 3) := by decide +kernel
theorem dX5_init_161 : decode cX5_init 161 = .ok (.newarray .int, 2) := by decide +kernel
theorem dX5_init_163 : decode cX5_init 163 = .ok (.putfield 66, 3) := by decide +kernel
theorem dX5_init_166 : decode cX5_init 166 = .ok (.aload_n 0, 1) := by decide +kernel
theorem dX5_init_167 : decode cX5_init 167 = .ok (.bipush 36, 2) := by decide +kernel
theorem dX5_init_169 : decode cX5_init 169 = .ok (.newarray .int, 2) := by decide +kernel
theorem dX5_init_171 : decode cX5_init 171 = .ok (.putfield 69, 3) := by decide +kernel
theorem dX5_init_174 : decode cX5_init 174 = .ok (.aload_n 0, 1) := by decide +kernel
theorem dX5_init_175 : decode cX5_init 175 = .ok (.bipush 6, 2) := by decide +kernel
theorem dX5_init_177 : decode cX5_init 177 = .ok (.newarray .int, 2) := by decide +kernel
theorem dX5_init_179 : decode cX5_init 179 = .ok (.putfield 72, 3) := by decide +kernel
theorem dX5_init_182 : decode cX5_init 182 = .ok (.aload_n 0, 1) := by decide +kernel
theorem dX5_init_183 : decode cX5_init 183 = .ok (.bipush 6, 2) := by decide +kernel
theorem dX5_init_185 : decode cX5_init 185 = .ok (.newarray .int, 2) := by decide +kernel
theorem dX5_init_187 : decode cX5_init 187 = .ok (.dup, 1) := by decide +kernel
theorem dX5_init_188 : decode cX5_init 188 = .ok (.iconst 0, 1) := by decide +kernel
theorem dX5_init_189 : decode cX5_init 189 = .ok (.iconst 0, 1) := by decide +kernel
theorem dX5_init_190 : decode cX5_init 190 = .ok (.iastore, 1) := by decide +kernel
theorem dX5_init_191 : decode cX5_init 191 = .ok (.dup, 1) := by decide +kernel
theorem dX5_init_192 : decode cX5_init 192 = .ok (.iconst 1, 1) := by decide +kernel
theorem dX5_init_193 : decode cX5_init 193 = .ok (.iconst 1, 1) := by decide +kernel
theorem dX5_init_194 : decode cX5_init 194 = .ok (.iastore, 1) := by decide +kernel
theorem dX5_init_195 : decode cX5_init 195 = .ok (.dup, 1) := by decide +kernel
theorem dX5_init_196 : decode cX5_init 196 = .ok (.iconst 2, 1) := by decide +kernel
theorem dX5_init_197 : decode cX5_init 197 = .ok (.iconst 2, 1) := by decide +kernel
theorem dX5_init_198 : decode cX5_init 198 = .ok (.iastore, 1) := by decide +kernel
theorem dX5_init_199 : decode cX5_init 199 = .ok (.dup, 1) := by decide +kernel
theorem dX5_init_200 : decode cX5_init 200 = .ok (.iconst 3, 1) := by decide +kernel
theorem dX5_init_201 : decode cX5_init 201 = .ok (.iconst 3, 1) := by decide +kernel
theorem dX5_init_202 : decode cX5_init 202 = .ok (.iastore, 1) := by decide +kernel
theorem dX5_init_203 : decode cX5_init 203 = .ok (.dup, 1) := by decide +kernel
theorem dX5_init_204 : decode cX5_init 204 = .ok (.iconst 4, 1) := by decide +kernel
theorem dX5_init_205 : decode cX5_init 205 = .ok (.iconst 4, 1) := by decide +kernel
theorem dX5_init_206 : decode cX5_init 206 = .ok (.iastore, 1) := by decide +kernel
theorem dX5_init_207 : decode cX5_init 207 = .ok (.dup, 1) := by decide +kernel
theorem dX5_init_208 : decode cX5_init 208 = .ok (.iconst 5, 1) := by decide +kernel
theorem dX5_init_209 : decode cX5_init 209 = .ok (.iconst 5, 1) := by decide +kernel
theorem dX5_init_210 : decode cX5_init 210 = .ok (.iastore, 1) := by decide +kernel
theorem dX5_init_211 : decode cX5_init 211 = .ok (.putfield 75, 3) := by decide +kernel
theorem dX5_init_214 : decode cX5_init 214 = .ok (.aload_n 0, 1) := by decide +kernel
theorem dX5_init_215 : decode cX5_init 215 = .ok (.bipush 24, 2) := by decide +kernel
theorem dX5_init_217 : decode cX5_init 217 = .ok (.newarray .int, 2) := by decide +kernel
theorem dX5_init_219 : decode cX5_init 219 = .ok (.putfield 78, 3) := by decide +kernel
theorem dX5_init_222 : decode cX5_init 222 = .ok (.aload_n 0, 1) := by decide +kernel
theorem dX5_init_223 : decode cX5_init 223 = .ok (.sipush 300, 3) := by decide +kernel
theorem dX5_init_226 : decode cX5_init 226 = .ok (.newarray .int, 2) := by decide +kernel
theorem dX5_init_228 : decode cX5_init 228 = .ok (.putfield 81, 3) := by decide +kernel
theorem dX5_init_231 : decode cX5_init 231 = .ok (.aload_n 0, 1) := by decide +kernel
theorem dX5_init_232 : decode cX5_init 232 = .ok (.sipush 300, 3) := by decide +kernel
theorem dX5_init_235 : decode cX5_init 235 = .ok (.newarray .int, 2) := by decide +kernel
theorem dX5_init_237 : decode cX5_init 237 = .ok (.putfield 84, 3) := by decide +kernel
theorem dX5_init_240 : decode cX5_init 240 = .ok (.aload_n 0, 1) := by decide +kernel
theorem dX5_init_241 : decode cX5_init 241 = .ok (.bipush 12, 2) := by decide +kernel
theorem dX5_init_243 : decode cX5_init 243 = .ok (.newarray .int, 2) := by decide +kernel
theorem dX5_init_245 : decode cX5_init 245 = .ok (.putfield 87, 3) := by decide +kernel
theorem dX5_init_248 : decode cX5_init 248 = .ok (.aload_n 0, 1) := by decide +kernel
theorem dX5_init_249 : decode cX5_init 249 = .ok (.bipush 12, 2) := by decide +kernel
theorem dX5_init_251 : decode cX5_init 251 = .ok (.newarray .int, 2) := by decide +kernel
theorem dX5_init_253 : decode cX5_init 253 = .ok (.putfield 90, 3) := by decide +kernel
theorem dX5_init_256 : decode cX5_init 256 = .ok (.aload_n 0, 1) := by decide +kernel
theorem dX5_init_257 : decode cX5_init 257 = .ok (.bipush 12, 2) := by decide +kernel
theorem dX5_init_259 : decode cX5_init 259 = .ok (.newarray .int, 2) := by decide +kernel
theorem dX5_init_261 : decode cX5_init 261 = .ok (.putfield 93, 3) := by decide +kernel
theorem dX5_init_264 : decode cX5_init 264 = .ok (.iconst 0, 1) := by decide +kernel
theorem dX5_init_265 : decode cX5_init 265 = .ok (.istore_n 1, 1) := by decide +kernel
theorem dX5_init_266 : decode cX5_init 266 = .ok (.iload_n 1, 1) := by decide +kernel
theorem dX5_init_267 : decode cX5_init 267 = .ok (.bipush 24, 2) := by decide +kernel
theorem dX5_init_269 : decode cX5_init 269 = .ok (.if_icmp .ge 16, 3) := by decide +kernel
theorem dX5_init_272 : decode cX5_init 272 = .ok (.aload_n 0, 1) := by decide +kernel
theorem dX5_init_273 : decode cX5_init 273 = .ok (.getfield 78, 3) := by decide +kernel
theorem dX5_init_276 : decode cX5_init 276 = .ok (.iload_n 1, 1) := by decide +kernel
theorem dX5_init_277 : decode cX5_init 277 = .ok (.iconst (-1), 1) := by decide +kernel
theorem dX5_init_278 : decode cX5_init 278 = .ok (.iastore, 1) := by decide +kernel
theorem dX5_init_279 : decode cX5_init 279 = .ok (.iinc 1 1, 3) := by decide +kernel
theorem dX5_init_282 : decode cX5_init 282 = .ok (.goto (-16), 3) := by decide +kernel
theorem dX5_init_285 : decode cX5_init 285 = .ok (.iconst 0, 1) := by decide +kernel
theorem dX5_init_286 : decode cX5_init 286 = .ok (.istore_n 1, 1) := by decide +kernel
theorem dX5_init_287 : decode cX5_init 287 = .ok (.iload_n 1, 1) := by decide +kernel
theorem dX5_init_288 : decode cX5_init 288 = .ok (.sipush 2400, 3) := by decide +kernel
theorem dX5_init_291 : decode cX5_init 291 = .ok (.if_icmp .ge 16, 3) := by decide +kernel
theorem dX5_init_294 : decode cX5_init 294 = .ok (.aload_n 0, 1) := by decide +kernel
theorem dX5_init_295 : decode cX5_init 295 = .ok (.getfield 66, 3) := by decide +kernel
theorem dX5_init_298 : decode cX5_init 298 = .ok (.iload_n 1, 1) := by decide +kernel
theorem dX5_init_299 : decode cX5_init 299 = .ok (.iconst (-1), 1) := by decide +kernel
theorem dX5_init_300 : decode cX5_init 300 = .ok (.iastore, 1) := by decide +kernel
theorem dX5_init_301 : decode cX5_init 301 = .ok (.iinc 1 1, 3) := by decide +kernel
theorem dX5_init_304 : decode cX5_init 304 = .ok (.goto (-17), 3) := by decide +kernel
theorem dX5_init_307 : decode cX5_init 307 = .ok (.return_, 1) := by decide +kernel
theorem dX5_in_0 : decode cX5_in 0 = .ok (.lload_n 2, 1) := by decide +kernel
theorem dX5_in_1 : decode cX5_in 1 = .ok (.lload_n 0, 1) := by decide +kernel
theorem dX5_in_2 : decode cX5_in 2 = .ok (.lcmp, 1) := by decide +kernel
theorem dX5_in_3 : decode cX5_in 3 = .ok (.ifCond .gt 14, 3) := by decide +kernel
theorem dX5_in_6 : decode cX5_in 6 = .ok (.lload_n 0, 1) := by decide +kernel
theorem dX5_in_7 : decode cX5_in 7 = .ok (.lload 4, 2) := by decide +kernel
theorem dX5_in_9 : decode cX5_in 9 = .ok (.lcmp, 1) := by decide +kernel
theorem dX5_in_10 : decode cX5_in 10 = .ok (.ifCond .gt 7, 3) := by decide +kernel
theorem dX5_in_13 : decode cX5_in 13 = .ok (.iconst 1, 1) := by decide +kernel
theorem dX5_in_14 : decode cX5_in 14 = .ok (.goto 4, 3) := by decide +kernel
theorem dX5_in_17 : decode cX5_in 17 = .ok (.iconst 0, 1) := by decide +kernel
theorem dX5_in_18 : decode cX5_in 18 = .ok (.ireturn, 1) := by decide +kernel
theorem dX5_isReplica_0 : decode cX5_isReplica 0 = .ok (.iload_n 0, 1) := by decide +kernel
theorem dX5_isReplica_1 : decode cX5_isReplica 1 = .ok (.i2l, 1) := by decide +kernel
theorem dX5_isReplica_2 : decode cX5_isReplica 2 = .ok (.lconst 0, 1) := by decide +kernel
theorem dX5_isReplica_3 : decode cX5_isReplica 3 = .ok (.ldc2_w 96, 3) := by decide +kernel
theorem dX5_isReplica_6 : decode cX5_isReplica 6 = .ok (.invokestatic 98, 3) := by decide +kernel
theorem dX5_isReplica_9 : decode cX5_isReplica 9 = .ok (.ireturn, 1) := by decide +kernel
theorem dX5_stream_0 : decode cX5_stream 0 = .ok (.iload_n 1, 1) := by decide +kernel
theorem dX5_stream_1 : decode cX5_stream 1 = .ok (.invokestatic 102, 3) := by decide +kernel
theorem dX5_stream_4 : decode cX5_stream 4 = .ok (.ifCond .ne 6, 3) := by decide +kernel
theorem dX5_stream_7 : decode cX5_stream 7 = .ok (.bipush (-101), 2) := by decide +kernel
theorem dX5_stream_9 : decode cX5_stream 9 = .ok (.ireturn, 1) := by decide +kernel
theorem dX5_stream_10 : decode cX5_stream 10 = .ok (.aload_n 0, 1) := by decide +kernel
theorem dX5_stream_11 : decode cX5_stream 11 = .ok (.getfield 75, 3) := by decide +kernel
theorem dX5_stream_14 : decode cX5_stream 14 = .ok (.iload_n 1, 1) := by decide +kernel
theorem dX5_stream_15 : decode cX5_stream 15 = .ok (.iaload, 1) := by decide +kernel
theorem dX5_stream_16 : decode cX5_stream 16 = .ok (.istore_n 3, 1) := by decide +kernel
theorem dX5_stream_17 : decode cX5_stream 17 = .ok (.aload_n 0, 1) := by decide +kernel
theorem dX5_stream_18 : decode cX5_stream 18 = .ok (.getfield 75, 3) := by decide +kernel
theorem dX5_stream_21 : decode cX5_stream 21 = .ok (.iload_n 1, 1) := by decide +kernel
theorem dX5_stream_22 : decode cX5_stream 22 = .ok (.iload_n 2, 1) := by decide +kernel
theorem dX5_stream_23 : decode cX5_stream 23 = .ok (.iastore, 1) := by decide +kernel
theorem dX5_stream_24 : decode cX5_stream 24 = .ok (.iload_n 3, 1) := by decide +kernel
theorem dX5_stream_25 : decode cX5_stream 25 = .ok (.ireturn, 1) := by decide +kernel
theorem dX5_has_0 : decode cX5_has 0 = .ok (.aload_n 0, 1) := by decide +kernel
theorem dX5_has_1 : decode cX5_has 1 = .ok (.getfield 60, 3) := by decide +kernel
theorem dX5_has_4 : decode cX5_has 4 = .ok (.sipush 400, 3) := by decide +kernel
theorem dX5_has_7 : decode cX5_has 7 = .ok (.iload_n 1, 1) := by decide +kernel
theorem dX5_has_8 : decode cX5_has 8 = .ok (.imul, 1) := by decide +kernel
theorem dX5_has_9 : decode cX5_has 9 = .ok (.iload_n 2, 1) := by decide +kernel
theorem dX5_has_10 : decode cX5_has 10 = .ok (.iadd, 1) := by decide +kernel
theorem dX5_has_11 : decode cX5_has 11 = .ok (.baload, 1) := by decide +kernel
theorem dX5_has_12 : decode cX5_has 12 = .ok (.ireturn, 1) := by decide +kernel
theorem dX5_lives_0 : decode cX5_lives 0 = .ok (.aload_n 0, 1) := by decide +kernel
theorem dX5_lives_1 : decode cX5_lives 1 = .ok (.getfield 66, 3) := by decide +kernel
theorem dX5_lives_4 : decode cX5_lives 4 = .ok (.sipush 400, 3) := by decide +kernel
theorem dX5_lives_7 : decode cX5_lives 7 = .ok (.iload_n 1, 1) := by decide +kernel
theorem dX5_lives_8 : decode cX5_lives 8 = .ok (.imul, 1) := by decide +kernel
theorem dX5_lives_9 : decode cX5_lives 9 = .ok (.iload_n 2, 1) := by decide +kernel
theorem dX5_lives_10 : decode cX5_lives 10 = .ok (.iadd, 1) := by decide +kernel
theorem dX5_lives_11 : decode cX5_lives 11 = .ok (.iaload, 1) := by decide +kernel
theorem dX5_lives_12 : decode cX5_lives 12 = .ok (.istore_n 3, 1) := by decide +kernel
theorem dX5_lives_13 : decode cX5_lives 13 = .ok (.aload_n 0, 1) := by decide +kernel
theorem dX5_lives_14 : decode cX5_lives 14 = .ok (.iload_n 1, 1) := by decide +kernel
theorem dX5_lives_15 : decode cX5_lives 15 = .ok (.iload_n 2, 1) := by decide +kernel
theorem dX5_lives_16 : decode cX5_lives 16 = .ok (.invokevirtual 106, 3) := by decide +kernel
theorem dX5_lives_19 : decode cX5_lives 19 = .ok (.ifCond .eq 22, 3) := by decide +kernel
theorem dX5_lives_22 : decode cX5_lives 22 = .ok (.iload_n 3, 1) := by decide +kernel
theorem dX5_lives_23 : decode cX5_lives 23 = .ok (.iconst (-1), 1) := by decide +kernel
theorem dX5_lives_24 : decode cX5_lives 24 = .ok (.if_icmp .eq 13, 3) := by decide +kernel
theorem dX5_lives_27 : decode cX5_lives 27 = .ok (.aload_n 0, 1) := by decide +kernel
theorem dX5_lives_28 : decode cX5_lives 28 = .ok (.getfield 23, 3) := by decide +kernel
theorem dX5_lives_31 : decode cX5_lives 31 = .ok (.iload_n 3, 1) := by decide +kernel
theorem dX5_lives_32 : decode cX5_lives 32 = .ok (.iaload, 1) := by decide +kernel
theorem dX5_lives_33 : decode cX5_lives 33 = .ok (.iconst 1, 1) := by decide +kernel
theorem dX5_lives_34 : decode cX5_lives 34 = .ok (.if_icmp .eq 7, 3) := by decide +kernel
theorem dX5_lives_37 : decode cX5_lives 37 = .ok (.iconst 1, 1) := by decide +kernel
theorem dX5_lives_38 : decode cX5_lives 38 = .ok (.goto 4, 3) := by decide +kernel
theorem dX5_lives_41 : decode cX5_lives 41 = .ok (.iconst 0, 1) := by decide +kernel
theorem dX5_lives_42 : decode cX5_lives 42 = .ok (.ireturn, 1) := by decide +kernel
theorem dX5_isLater_0 : decode cX5_isLater 0 = .ok (.iload_n 2, 1) := by decide +kernel
theorem dX5_isLater_1 : decode cX5_isLater 1 = .ok (.iconst (-1), 1) := by decide +kernel
theorem dX5_isLater_2 : decode cX5_isLater 2 = .ok (.if_icmp .eq 48, 3) := by decide +kernel
theorem dX5_isLater_5 : decode cX5_isLater 5 = .ok (.aload_n 0, 1) := by decide +kernel
theorem dX5_isLater_6 : decode cX5_isLater 6 = .ok (.getfield 20, 3) := by decide +kernel
theorem dX5_isLater_9 : decode cX5_isLater 9 = .ok (.iload_n 1, 1) := by decide +kernel
theorem dX5_isLater_10 : decode cX5_isLater 10 = .ok (.iaload, 1) := by decide +kernel
theorem dX5_isLater_11 : decode cX5_isLater 11 = .ok (.aload_n 0, 1) := by decide +kernel
theorem dX5_isLater_12 : decode cX5_isLater 12 = .ok (.getfield 20, 3) := by decide +kernel
theorem dX5_isLater_15 : decode cX5_isLater 15 = .ok (.iload_n 2, 1) := by decide +kernel
theorem dX5_isLater_16 : decode cX5_isLater 16 = .ok (.iaload, 1) := by decide +kernel
theorem dX5_isLater_17 : decode cX5_isLater 17 = .ok (.if_icmp .gt 33, 3) := by decide +kernel
theorem dX5_isLater_20 : decode cX5_isLater 20 = .ok (.aload_n 0, 1) := by decide +kernel
theorem dX5_isLater_21 : decode cX5_isLater 21 = .ok (.getfield 20, 3) := by decide +kernel
theorem dX5_isLater_24 : decode cX5_isLater 24 = .ok (.iload_n 1, 1) := by decide +kernel
theorem dX5_isLater_25 : decode cX5_isLater 25 = .ok (.iaload, 1) := by decide +kernel
theorem dX5_isLater_26 : decode cX5_isLater 26 = .ok (.aload_n 0, 1) := by decide +kernel
theorem dX5_isLater_27 : decode cX5_isLater 27 = .ok (.getfield 20, 3) := by decide +kernel
theorem dX5_isLater_30 : decode cX5_isLater 30 = .ok (.iload_n 2, 1) := by decide +kernel
theorem dX5_isLater_31 : decode cX5_isLater 31 = .ok (.iaload, 1) := by decide +kernel
theorem dX5_isLater_32 : decode cX5_isLater 32 = .ok (.if_icmp .ne 22, 3) := by decide +kernel
theorem dX5_isLater_35 : decode cX5_isLater 35 = .ok (.aload_n 0, 1) := by decide +kernel
theorem dX5_isLater_36 : decode cX5_isLater 36 = .ok (.getfield 13, 3) := by decide +kernel
theorem dX5_isLater_39 : decode cX5_isLater 39 = .ok (.iload_n 1, 1) := by decide +kernel
theorem dX5_isLater_40 : decode cX5_isLater 40 = .ok (.iaload, 1) := by decide +kernel
theorem dX5_isLater_41 : decode cX5_isLater 41 = .ok (.aload_n 0, 1) := by decide +kernel
theorem dX5_isLater_42 : decode cX5_isLater 42 = .ok (.getfield 13, 3) := by decide +kernel
theorem dX5_isLater_45 : decode cX5_isLater 45 = .ok (.iload_n 2, 1) := by decide +kernel
theorem dX5_isLater_46 : decode cX5_isLater 46 = .ok (.iaload, 1) := by decide +kernel
theorem dX5_isLater_47 : decode cX5_isLater 47 = .ok (.if_icmp .le 7, 3) := by decide +kernel
theorem dX5_isLater_50 : decode cX5_isLater 50 = .ok (.iconst 1, 1) := by decide +kernel
theorem dX5_isLater_51 : decode cX5_isLater 51 = .ok (.goto 4, 3) := by decide +kernel
theorem dX5_isLater_54 : decode cX5_isLater 54 = .ok (.iconst 0, 1) := by decide +kernel
theorem dX5_isLater_55 : decode cX5_isLater 55 = .ok (.ireturn, 1) := by decide +kernel
theorem dX5_sizeOf_0 : decode cX5_sizeOf 0 = .ok (.iconst 0, 1) := by decide +kernel
theorem dX5_sizeOf_1 : decode cX5_sizeOf 1 = .ok (.istore_n 2, 1) := by decide +kernel
theorem dX5_sizeOf_2 : decode cX5_sizeOf 2 = .ok (.iconst 0, 1) := by decide +kernel
theorem dX5_sizeOf_3 : decode cX5_sizeOf 3 = .ok (.istore_n 3, 1) := by decide +kernel
theorem dX5_sizeOf_4 : decode cX5_sizeOf 4 = .ok (.iload_n 3, 1) := by decide +kernel
theorem dX5_sizeOf_5 : decode cX5_sizeOf 5 = .ok (.aload_n 0, 1) := by decide +kernel
theorem dX5_sizeOf_6 : decode cX5_sizeOf 6 = .ok (.getfield 110, 3) := by decide +kernel
theorem dX5_sizeOf_9 : decode cX5_sizeOf 9 = .ok (.if_icmp .ge 31, 3) := by decide +kernel
theorem dX5_sizeOf_12 : decode cX5_sizeOf 12 = .ok (.iload_n 2, 1) := by decide +kernel
theorem dX5_sizeOf_13 : decode cX5_sizeOf 13 = .ok (.aload_n 0, 1) := by decide +kernel
theorem dX5_sizeOf_14 : decode cX5_sizeOf 14 = .ok (.iload_n 1, 1) := by decide +kernel
theorem dX5_sizeOf_15 : decode cX5_sizeOf 15 = .ok (.aload_n 0, 1) := by decide +kernel
theorem dX5_sizeOf_16 : decode cX5_sizeOf 16 = .ok (.getfield 54, 3) := by decide +kernel
theorem dX5_sizeOf_19 : decode cX5_sizeOf 19 = .ok (.iload_n 3, 1) := by decide +kernel
theorem dX5_sizeOf_20 : decode cX5_sizeOf 20 = .ok (.iaload, 1) := by decide +kernel
theorem dX5_sizeOf_21 : decode cX5_sizeOf 21 = .ok (.invokevirtual 113, 3) := by decide +kernel
theorem dX5_sizeOf_24 : decode cX5_sizeOf 24 = .ok (.ifCond .eq 7, 3) := by decide +kernel
theorem dX5_sizeOf_27 : decode cX5_sizeOf 27 = .ok (.iconst 1, 1) := by decide +kernel
theorem dX5_sizeOf_28 : decode cX5_sizeOf 28 = .ok (.goto 4, 3) := by decide +kernel
theorem dX5_sizeOf_31 : decode cX5_sizeOf 31 = .ok (.iconst 0, 1) := by decide +kernel
theorem dX5_sizeOf_32 : decode cX5_sizeOf 32 = .ok (.iadd, 1) := by decide +kernel
theorem dX5_sizeOf_33 : decode cX5_sizeOf 33 = .ok (.istore_n 2, 1) := by decide +kernel
theorem dX5_sizeOf_34 : decode cX5_sizeOf 34 = .ok (.iinc 3 1, 3) := by decide +kernel
theorem dX5_sizeOf_37 : decode cX5_sizeOf 37 = .ok (.goto (-33), 3) := by decide +kernel
theorem dX5_sizeOf_40 : decode cX5_sizeOf 40 = .ok (.iload_n 2, 1) := by decide +kernel
theorem dX5_sizeOf_41 : decode cX5_sizeOf 41 = .ok (.ireturn, 1) := by decide +kernel
theorem dX5_signAt_0 : decode cX5_signAt 0 = .ok (.iload_n 2, 1) := by decide +kernel
theorem dX5_signAt_1 : decode cX5_signAt 1 = .ok (.istore_n 3, 1) := by decide +kernel
theorem dX5_signAt_2 : decode cX5_signAt 2 = .ok (.iconst 0, 1) := by decide +kernel
theorem dX5_signAt_3 : decode cX5_signAt 3 = .ok (.istore 4, 2) := by decide +kernel
theorem dX5_signAt_5 : decode cX5_signAt 5 = .ok (.iload 4, 2) := by decide +kernel
theorem dX5_signAt_7 : decode cX5_signAt 7 = .ok (.aload_n 0, 1) := by decide +kernel
theorem dX5_signAt_8 : decode cX5_signAt 8 = .ok (.getfield 110, 3) := by decide +kernel
theorem dX5_signAt_11 : decode cX5_signAt 11 = .ok (.if_icmp .ge 39, 3) := by decide +kernel
theorem dX5_signAt_14 : decode cX5_signAt 14 = .ok (.aload_n 0, 1) := by decide +kernel
theorem dX5_signAt_15 : decode cX5_signAt 15 = .ok (.iload_n 1, 1) := by decide +kernel
theorem dX5_signAt_16 : decode cX5_signAt 16 = .ok (.aload_n 0, 1) := by decide +kernel
theorem dX5_signAt_17 : decode cX5_signAt 17 = .ok (.getfield 54, 3) := by decide +kernel
theorem dX5_signAt_20 : decode cX5_signAt 20 = .ok (.iload 4, 2) := by decide +kernel
theorem dX5_signAt_22 : decode cX5_signAt 22 = .ok (.iaload, 1) := by decide +kernel
theorem dX5_signAt_23 : decode cX5_signAt 23 = .ok (.invokevirtual 113, 3) := by decide +kernel
theorem dX5_signAt_26 : decode cX5_signAt 26 = .ok (.ifCond .eq 18, 3) := by decide +kernel
theorem dX5_signAt_29 : decode cX5_signAt 29 = .ok (.iload_n 3, 1) := by decide +kernel
theorem dX5_signAt_30 : decode cX5_signAt 30 = .ok (.ifCond .ne 11, 3) := by decide +kernel
theorem dX5_signAt_33 : decode cX5_signAt 33 = .ok (.aload_n 0, 1) := by decide +kernel
theorem dX5_signAt_34 : decode cX5_signAt 34 = .ok (.getfield 54, 3) := by decide +kernel
theorem dX5_signAt_37 : decode cX5_signAt 37 = .ok (.iload 4, 2) := by decide +kernel
theorem dX5_signAt_39 : decode cX5_signAt 39 = .ok (.iaload, 1) := by decide +kernel
theorem dX5_signAt_40 : decode cX5_signAt 40 = .ok (.ireturn, 1) := by decide +kernel
theorem dX5_signAt_41 : decode cX5_signAt 41 = .ok (.iinc 3 (-1), 3) := by decide +kernel
theorem dX5_signAt_44 : decode cX5_signAt 44 = .ok (.iinc 4 1, 3) := by decide +kernel
theorem dX5_signAt_47 : decode cX5_signAt 47 = .ok (.goto (-42), 3) := by decide +kernel
theorem dX5_signAt_50 : decode cX5_signAt 50 = .ok (.iconst (-1), 1) := by decide +kernel
theorem dX5_signAt_51 : decode cX5_signAt 51 = .ok (.ireturn, 1) := by decide +kernel
theorem dX5_nextOf_0 : decode cX5_nextOf 0 = .ok (.iload_n 2, 1) := by decide +kernel
theorem dX5_nextOf_1 : decode cX5_nextOf 1 = .ok (.iconst (-1), 1) := by decide +kernel
theorem dX5_nextOf_2 : decode cX5_nextOf 2 = .ok (.if_icmp .ne 7, 3) := by decide +kernel
theorem dX5_nextOf_5 : decode cX5_nextOf 5 = .ok (.iconst 0, 1) := by decide +kernel
theorem dX5_nextOf_6 : decode cX5_nextOf 6 = .ok (.goto 11, 3) := by decide +kernel
theorem dX5_nextOf_9 : decode cX5_nextOf 9 = .ok (.aload_n 0, 1) := by decide +kernel
theorem dX5_nextOf_10 : decode cX5_nextOf 10 = .ok (.getfield 57, 3) := by decide +kernel
theorem dX5_nextOf_13 : decode cX5_nextOf 13 = .ok (.iload_n 2, 1) := by decide +kernel
theorem dX5_nextOf_14 : decode cX5_nextOf 14 = .ok (.iaload, 1) := by decide +kernel
theorem dX5_nextOf_15 : decode cX5_nextOf 15 = .ok (.iconst 1, 1) := by decide +kernel
theorem dX5_nextOf_16 : decode cX5_nextOf 16 = .ok (.iadd, 1) := by decide +kernel
theorem dX5_nextOf_17 : decode cX5_nextOf 17 = .ok (.istore_n 3, 1) := by decide +kernel
theorem dX5_nextOf_18 : decode cX5_nextOf 18 = .ok (.iload_n 3, 1) := by decide +kernel
theorem dX5_nextOf_19 : decode cX5_nextOf 19 = .ok (.aload_n 0, 1) := by decide +kernel
theorem dX5_nextOf_20 : decode cX5_nextOf 20 = .ok (.getfield 110, 3) := by decide +kernel
theorem dX5_nextOf_23 : decode cX5_nextOf 23 = .ok (.if_icmp .ge 30, 3) := by decide +kernel
theorem dX5_nextOf_26 : decode cX5_nextOf 26 = .ok (.aload_n 0, 1) := by decide +kernel
theorem dX5_nextOf_27 : decode cX5_nextOf 27 = .ok (.iload_n 1, 1) := by decide +kernel
theorem dX5_nextOf_28 : decode cX5_nextOf 28 = .ok (.aload_n 0, 1) := by decide +kernel
theorem dX5_nextOf_29 : decode cX5_nextOf 29 = .ok (.getfield 54, 3) := by decide +kernel
theorem dX5_nextOf_32 : decode cX5_nextOf 32 = .ok (.iload_n 3, 1) := by decide +kernel
theorem dX5_nextOf_33 : decode cX5_nextOf 33 = .ok (.iaload, 1) := by decide +kernel
theorem dX5_nextOf_34 : decode cX5_nextOf 34 = .ok (.invokevirtual 106, 3) := by decide +kernel
theorem dX5_nextOf_37 : decode cX5_nextOf 37 = .ok (.ifCond .eq 10, 3) := by decide +kernel
theorem dX5_nextOf_40 : decode cX5_nextOf 40 = .ok (.aload_n 0, 1) := by decide +kernel
theorem dX5_nextOf_41 : decode cX5_nextOf 41 = .ok (.getfield 54, 3) := by decide +kernel
theorem dX5_nextOf_44 : decode cX5_nextOf 44 = .ok (.iload_n 3, 1) := by decide +kernel
theorem dX5_nextOf_45 : decode cX5_nextOf 45 = .ok (.iaload, 1) := by decide +kernel
theorem dX5_nextOf_46 : decode cX5_nextOf 46 = .ok (.ireturn, 1) := by decide +kernel
theorem dX5_nextOf_47 : decode cX5_nextOf 47 = .ok (.iinc 3 1, 3) := by decide +kernel
theorem dX5_nextOf_50 : decode cX5_nextOf 50 = .ok (.goto (-32), 3) := by decide +kernel
theorem dX5_nextOf_53 : decode cX5_nextOf 53 = .ok (.iconst (-1), 1) := by decide +kernel
theorem dX5_nextOf_54 : decode cX5_nextOf 54 = .ok (.ireturn, 1) := by decide +kernel
theorem dX5_level_0 : decode cX5_level 0 = .ok (.aload_n 0, 1) := by decide +kernel
theorem dX5_level_1 : decode cX5_level 1 = .ok (.getfield 87, 3) := by decide +kernel
theorem dX5_level_4 : decode cX5_level 4 = .ok (.aload_n 0, 1) := by decide +kernel
theorem dX5_level_5 : decode cX5_level 5 = .ok (.getfield 116, 3) := by decide +kernel
theorem dX5_level_8 : decode cX5_level 8 = .ok (.iload_n 1, 1) := by decide +kernel
theorem dX5_level_9 : decode cX5_level 9 = .ok (.iastore, 1) := by decide +kernel
theorem dX5_level_10 : decode cX5_level 10 = .ok (.aload_n 0, 1) := by decide +kernel
theorem dX5_level_11 : decode cX5_level 11 = .ok (.getfield 90, 3) := by decide +kernel
theorem dX5_level_14 : decode cX5_level 14 = .ok (.aload_n 0, 1) := by decide +kernel
theorem dX5_level_15 : decode cX5_level 15 = .ok (.getfield 116, 3) := by decide +kernel
theorem dX5_level_18 : decode cX5_level 18 = .ok (.iload_n 2, 1) := by decide +kernel
theorem dX5_level_19 : decode cX5_level 19 = .ok (.iastore, 1) := by decide +kernel
theorem dX5_level_20 : decode cX5_level 20 = .ok (.aload_n 0, 1) := by decide +kernel
theorem dX5_level_21 : decode cX5_level 21 = .ok (.getfield 93, 3) := by decide +kernel
theorem dX5_level_24 : decode cX5_level 24 = .ok (.aload_n 0, 1) := by decide +kernel
theorem dX5_level_25 : decode cX5_level 25 = .ok (.getfield 116, 3) := by decide +kernel
theorem dX5_level_28 : decode cX5_level 28 = .ok (.iload_n 3, 1) := by decide +kernel
theorem dX5_level_29 : decode cX5_level 29 = .ok (.iastore, 1) := by decide +kernel
theorem dX5_level_30 : decode cX5_level 30 = .ok (.aload_n 0, 1) := by decide +kernel
theorem dX5_level_31 : decode cX5_level 31 = .ok (.dup, 1) := by decide +kernel
theorem dX5_level_32 : decode cX5_level 32 = .ok (.getfield 116, 3) := by decide +kernel
theorem dX5_level_35 : decode cX5_level 35 = .ok (.iconst 1, 1) := by decide +kernel
theorem dX5_level_36 : decode cX5_level 36 = .ok (.iadd, 1) := by decide +kernel
theorem dX5_level_37 : decode cX5_level 37 = .ok (.putfield 116, 3) := by decide +kernel
theorem dX5_level_40 : decode cX5_level 40 = .ok (.return_, 1) := by decide +kernel
theorem dX5_isLevel_0 : decode cX5_isLevel 0 = .ok (.bipush 12, 2) := by decide +kernel
theorem dX5_isLevel_2 : decode cX5_isLevel 2 = .ok (.iload_n 1, 1) := by decide +kernel
theorem dX5_isLevel_3 : decode cX5_isLevel 3 = .ok (.imul, 1) := by decide +kernel
theorem dX5_isLevel_4 : decode cX5_isLevel 4 = .ok (.iload_n 2, 1) := by decide +kernel
theorem dX5_isLevel_5 : decode cX5_isLevel 5 = .ok (.iadd, 1) := by decide +kernel
theorem dX5_isLevel_6 : decode cX5_isLevel 6 = .ok (.iconst 1, 1) := by decide +kernel
theorem dX5_isLevel_7 : decode cX5_isLevel 7 = .ok (.isub, 1) := by decide +kernel
theorem dX5_isLevel_8 : decode cX5_isLevel 8 = .ok (.istore 4, 2) := by decide +kernel
theorem dX5_isLevel_10 : decode cX5_isLevel 10 = .ok (.bipush 12, 2) := by decide +kernel
theorem dX5_isLevel_12 : decode cX5_isLevel 12 = .ok (.iload_n 3, 1) := by decide +kernel
theorem dX5_isLevel_13 : decode cX5_isLevel 13 = .ok (.imul, 1) := by decide +kernel
theorem dX5_isLevel_14 : decode cX5_isLevel 14 = .ok (.iload_n 2, 1) := by decide +kernel
theorem dX5_isLevel_15 : decode cX5_isLevel 15 = .ok (.iadd, 1) := by decide +kernel
theorem dX5_isLevel_16 : decode cX5_isLevel 16 = .ok (.iconst 1, 1) := by decide +kernel
theorem dX5_isLevel_17 : decode cX5_isLevel 17 = .ok (.isub, 1) := by decide +kernel
theorem dX5_isLevel_18 : decode cX5_isLevel 18 = .ok (.istore 5, 2) := by decide +kernel
theorem dX5_isLevel_20 : decode cX5_isLevel 20 = .ok (.aload_n 0, 1) := by decide +kernel
theorem dX5_isLevel_21 : decode cX5_isLevel 21 = .ok (.getfield 45, 3) := by decide +kernel
theorem dX5_isLevel_24 : decode cX5_isLevel 24 = .ok (.iload 4, 2) := by decide +kernel
theorem dX5_isLevel_26 : decode cX5_isLevel 26 = .ok (.iaload, 1) := by decide +kernel
theorem dX5_isLevel_27 : decode cX5_isLevel 27 = .ok (.aload_n 0, 1) := by decide +kernel
theorem dX5_isLevel_28 : decode cX5_isLevel 28 = .ok (.getfield 45, 3) := by decide +kernel
theorem dX5_isLevel_31 : decode cX5_isLevel 31 = .ok (.iload 5, 2) := by decide +kernel
theorem dX5_isLevel_33 : decode cX5_isLevel 33 = .ok (.iaload, 1) := by decide +kernel
theorem dX5_isLevel_34 : decode cX5_isLevel 34 = .ok (.if_icmp .ne 41, 3) := by decide +kernel
theorem dX5_isLevel_37 : decode cX5_isLevel 37 = .ok (.aload_n 0, 1) := by decide +kernel
theorem dX5_isLevel_38 : decode cX5_isLevel 38 = .ok (.getfield 48, 3) := by decide +kernel
theorem dX5_isLevel_41 : decode cX5_isLevel 41 = .ok (.iload 4, 2) := by decide +kernel
theorem dX5_isLevel_43 : decode cX5_isLevel 43 = .ok (.iaload, 1) := by decide +kernel
theorem dX5_isLevel_44 : decode cX5_isLevel 44 = .ok (.aload_n 0, 1) := by decide +kernel
theorem dX5_isLevel_45 : decode cX5_isLevel 45 = .ok (.getfield 48, 3) := by decide +kernel
theorem dX5_isLevel_48 : decode cX5_isLevel 48 = .ok (.iload 5, 2) := by decide +kernel
theorem dX5_isLevel_50 : decode cX5_isLevel 50 = .ok (.iaload, 1) := by decide +kernel
theorem dX5_isLevel_51 : decode cX5_isLevel 51 = .ok (.if_icmp .ne 24, 3) := by decide +kernel
theorem dX5_isLevel_54 : decode cX5_isLevel 54 = .ok (.aload_n 0, 1) := by decide +kernel
theorem dX5_isLevel_55 : decode cX5_isLevel 55 = .ok (.getfield 51, 3) := by decide +kernel
theorem dX5_isLevel_58 : decode cX5_isLevel 58 = .ok (.iload 4, 2) := by decide +kernel
theorem dX5_isLevel_60 : decode cX5_isLevel 60 = .ok (.iaload, 1) := by decide +kernel
theorem dX5_isLevel_61 : decode cX5_isLevel 61 = .ok (.aload_n 0, 1) := by decide +kernel
theorem dX5_isLevel_62 : decode cX5_isLevel 62 = .ok (.getfield 51, 3) := by decide +kernel
theorem dX5_isLevel_65 : decode cX5_isLevel 65 = .ok (.iload 5, 2) := by decide +kernel
theorem dX5_isLevel_67 : decode cX5_isLevel 67 = .ok (.iaload, 1) := by decide +kernel
theorem dX5_isLevel_68 : decode cX5_isLevel 68 = .ok (.if_icmp .ne 7, 3) := by decide +kernel
theorem dX5_isLevel_71 : decode cX5_isLevel 71 = .ok (.iconst 1, 1) := by decide +kernel
theorem dX5_isLevel_72 : decode cX5_isLevel 72 = .ok (.goto 4, 3) := by decide +kernel
theorem dX5_isLevel_75 : decode cX5_isLevel 75 = .ok (.iconst 0, 1) := by decide +kernel
theorem dX5_isLevel_76 : decode cX5_isLevel 76 = .ok (.ireturn, 1) := by decide +kernel
theorem dX5_findsPath_0 : decode cX5_findsPath 0 = .ok (.aload_n 0, 1) := by decide +kernel
theorem dX5_findsPath_1 : decode cX5_findsPath 1 = .ok (.iconst 0, 1) := by decide +kernel
theorem dX5_findsPath_2 : decode cX5_findsPath 2 = .ok (.putfield 116, 3) := by decide +kernel
theorem dX5_findsPath_5 : decode cX5_findsPath 5 = .ok (.iload 4, 2) := by decide +kernel
theorem dX5_findsPath_7 : decode cX5_findsPath 7 = .ok (.istore 5, 2) := by decide +kernel
theorem dX5_findsPath_9 : decode cX5_findsPath 9 = .ok (.iconst 1, 1) := by decide +kernel
theorem dX5_findsPath_10 : decode cX5_findsPath 10 = .ok (.istore 6, 2) := by decide +kernel
theorem dX5_findsPath_12 : decode cX5_findsPath 12 = .ok (.iload 6, 2) := by decide +kernel
theorem dX5_findsPath_14 : decode cX5_findsPath 14 = .ok (.bipush 12, 2) := by decide +kernel
theorem dX5_findsPath_16 : decode cX5_findsPath 16 = .ok (.if_icmp .gt 324, 3) := by decide +kernel
theorem dX5_findsPath_19 : decode cX5_findsPath 19 = .ok (.iload_n 3, 1) := by decide +kernel
theorem dX5_findsPath_20 : decode cX5_findsPath 20 = .ok (.iconst (-1), 1) := by decide +kernel
theorem dX5_findsPath_21 : decode cX5_findsPath 21 = .ok (.if_icmp .eq 18, 3) := by decide +kernel
theorem dX5_findsPath_24 : decode cX5_findsPath 24 = .ok (.aload_n 0, 1) := by decide +kernel
theorem dX5_findsPath_25 : decode cX5_findsPath 25 = .ok (.getfield 42, 3) := by decide +kernel
theorem dX5_findsPath_28 : decode cX5_findsPath 28 = .ok (.iload_n 3, 1) := by decide +kernel
theorem dX5_findsPath_29 : decode cX5_findsPath 29 = .ok (.iaload, 1) := by decide +kernel
theorem dX5_findsPath_30 : decode cX5_findsPath 30 = .ok (.iload 6, 2) := by decide +kernel
theorem dX5_findsPath_32 : decode cX5_findsPath 32 = .ok (.if_icmp .lt 7, 3) := by decide +kernel
theorem dX5_findsPath_35 : decode cX5_findsPath 35 = .ok (.iconst 1, 1) := by decide +kernel
theorem dX5_findsPath_36 : decode cX5_findsPath 36 = .ok (.goto 4, 3) := by decide +kernel
theorem dX5_findsPath_39 : decode cX5_findsPath 39 = .ok (.iconst 0, 1) := by decide +kernel
theorem dX5_findsPath_40 : decode cX5_findsPath 40 = .ok (.istore 7, 2) := by decide +kernel
theorem dX5_findsPath_42 : decode cX5_findsPath 42 = .ok (.iload 7, 2) := by decide +kernel
theorem dX5_findsPath_44 : decode cX5_findsPath 44 = .ok (.ifCond .eq 20, 3) := by decide +kernel
theorem dX5_findsPath_47 : decode cX5_findsPath 47 = .ok (.aload_n 0, 1) := by decide +kernel
theorem dX5_findsPath_48 : decode cX5_findsPath 48 = .ok (.getfield 45, 3) := by decide +kernel
theorem dX5_findsPath_51 : decode cX5_findsPath 51 = .ok (.bipush 12, 2) := by decide +kernel
theorem dX5_findsPath_53 : decode cX5_findsPath 53 = .ok (.iload_n 3, 1) := by decide +kernel
theorem dX5_findsPath_54 : decode cX5_findsPath 54 = .ok (.imul, 1) := by decide +kernel
theorem dX5_findsPath_55 : decode cX5_findsPath 55 = .ok (.iload 6, 2) := by decide +kernel
theorem dX5_findsPath_57 : decode cX5_findsPath 57 = .ok (.iadd, 1) := by decide +kernel
theorem dX5_findsPath_58 : decode cX5_findsPath 58 = .ok (.iconst 1, 1) := by decide +kernel
theorem dX5_findsPath_59 : decode cX5_findsPath 59 = .ok (.isub, 1) := by decide +kernel
theorem dX5_findsPath_60 : decode cX5_findsPath 60 = .ok (.iaload, 1) := by decide +kernel
theorem dX5_findsPath_61 : decode cX5_findsPath 61 = .ok (.goto 4, 3) := by decide +kernel
theorem dX5_findsPath_64 : decode cX5_findsPath 64 = .ok (.iconst 0, 1) := by decide +kernel
theorem dX5_findsPath_65 : decode cX5_findsPath 65 = .ok (.istore 8, 2) := by decide +kernel
theorem dX5_findsPath_67 : decode cX5_findsPath 67 = .ok (.iload 5, 2) := by decide +kernel
theorem dX5_findsPath_69 : decode cX5_findsPath 69 = .ok (.iconst (-1), 1) := by decide +kernel
theorem dX5_findsPath_70 : decode cX5_findsPath 70 = .ok (.if_icmp .eq 21, 3) := by decide +kernel
theorem dX5_findsPath_73 : decode cX5_findsPath 73 = .ok (.aload_n 0, 1) := by decide +kernel
theorem dX5_findsPath_74 : decode cX5_findsPath 74 = .ok (.getfield 45, 3) := by decide +kernel
theorem dX5_findsPath_77 : decode cX5_findsPath 77 = .ok (.bipush 12, 2) := by decide +kernel
theorem dX5_findsPath_79 : decode cX5_findsPath 79 = .ok (.iload 5, 2) := by decide +kernel
theorem dX5_findsPath_81 : decode cX5_findsPath 81 = .ok (.imul, 1) := by decide +kernel
theorem dX5_findsPath_82 : decode cX5_findsPath 82 = .ok (.iload 6, 2) := by decide +kernel
theorem dX5_findsPath_84 : decode cX5_findsPath 84 = .ok (.iadd, 1) := by decide +kernel
theorem dX5_findsPath_85 : decode cX5_findsPath 85 = .ok (.iconst 1, 1) := by decide +kernel
theorem dX5_findsPath_86 : decode cX5_findsPath 86 = .ok (.isub, 1) := by decide +kernel
theorem dX5_findsPath_87 : decode cX5_findsPath 87 = .ok (.iaload, 1) := by decide +kernel
theorem dX5_findsPath_88 : decode cX5_findsPath 88 = .ok (.goto 22, 3) := by decide +kernel
theorem dX5_findsPath_91 : decode cX5_findsPath 91 = .ok (.iload 6, 2) := by decide +kernel
theorem dX5_findsPath_93 : decode cX5_findsPath 93 = .ok (.bipush 8, 2) := by decide +kernel
theorem dX5_findsPath_95 : decode cX5_findsPath 95 = .ok (.if_icmp .le 9, 3) := by decide +kernel
theorem dX5_findsPath_98 : decode cX5_findsPath 98 = .ok (.sipush 4096, 3) := by decide +kernel
theorem dX5_findsPath_101 : decode cX5_findsPath 101 = .ok (.goto 9, 3) := by decide +kernel
theorem dX5_findsPath_104 : decode cX5_findsPath 104 = .ok (.iconst 1, 1) := by decide +kernel
theorem dX5_findsPath_105 : decode cX5_findsPath 105 = .ok (.iload 6, 2) := by decide +kernel
theorem dX5_findsPath_107 : decode cX5_findsPath 107 = .ok (.iconst 3, 1) := by decide +kernel
theorem dX5_findsPath_108 : decode cX5_findsPath 108 = .ok (.iadd, 1) := by decide +kernel
theorem dX5_findsPath_109 : decode cX5_findsPath 109 = .ok (.ishl, 1) := by decide +kernel
theorem dX5_findsPath_110 : decode cX5_findsPath 110 = .ok (.istore 9, 2) := by decide +kernel
theorem dX5_findsPath_112 : decode cX5_findsPath 112 = .ok (.iload 9, 2) := by decide +kernel
theorem dX5_findsPath_114 : decode cX5_findsPath 114 = .ok (.iload 8, 2) := by decide +kernel
theorem dX5_findsPath_116 : decode cX5_findsPath 116 = .ok (.isub, 1) := by decide +kernel
theorem dX5_findsPath_117 : decode cX5_findsPath 117 = .ok (.iconst 1, 1) := by decide +kernel
theorem dX5_findsPath_118 : decode cX5_findsPath 118 = .ok (.if_icmp .le 92, 3) := by decide +kernel
theorem dX5_findsPath_121 : decode cX5_findsPath 121 = .ok (.aload_n 0, 1) := by decide +kernel
theorem dX5_findsPath_122 : decode cX5_findsPath 122 = .ok (.getfield 75, 3) := by decide +kernel
theorem dX5_findsPath_125 : decode cX5_findsPath 125 = .ok (.iload_n 1, 1) := by decide +kernel
theorem dX5_findsPath_126 : decode cX5_findsPath 126 = .ok (.aload_n 0, 1) := by decide +kernel
theorem dX5_findsPath_127 : decode cX5_findsPath 127 = .ok (.getfield 75, 3) := by decide +kernel
theorem dX5_findsPath_130 : decode cX5_findsPath 130 = .ok (.iload_n 1, 1) := by decide +kernel
theorem dX5_findsPath_131 : decode cX5_findsPath 131 = .ok (.iaload, 1) := by decide +kernel
theorem dX5_findsPath_132 : decode cX5_findsPath 132 = .ok (.ldc 119, 2) := by decide +kernel
theorem dX5_findsPath_134 : decode cX5_findsPath 134 = .ok (.imul, 1) := by decide +kernel
theorem dX5_findsPath_135 : decode cX5_findsPath 135 = .ok (.ldc 120, 2) := by decide +kernel
theorem dX5_findsPath_137 : decode cX5_findsPath 137 = .ok (.iadd, 1) := by decide +kernel
theorem dX5_findsPath_138 : decode cX5_findsPath 138 = .ok (.iastore, 1) := by decide +kernel
theorem dX5_findsPath_139 : decode cX5_findsPath 139 = .ok (.aload_n 0, 1) := by decide +kernel
theorem dX5_findsPath_140 : decode cX5_findsPath 140 = .ok (.getfield 75, 3) := by decide +kernel
theorem dX5_findsPath_143 : decode cX5_findsPath 143 = .ok (.iload_n 1, 1) := by decide +kernel
theorem dX5_findsPath_144 : decode cX5_findsPath 144 = .ok (.iaload, 1) := by decide +kernel
theorem dX5_findsPath_145 : decode cX5_findsPath 145 = .ok (.bipush 16, 2) := by decide +kernel
theorem dX5_findsPath_147 : decode cX5_findsPath 147 = .ok (.iushr, 1) := by decide +kernel
theorem dX5_findsPath_148 : decode cX5_findsPath 148 = .ok (.istore 10, 2) := by decide +kernel
theorem dX5_findsPath_150 : decode cX5_findsPath 150 = .ok (.iconst 1, 1) := by decide +kernel
theorem dX5_findsPath_151 : decode cX5_findsPath 151 = .ok (.iload 10, 2) := by decide +kernel
theorem dX5_findsPath_153 : decode cX5_findsPath 153 = .ok (.iload 9, 2) := by decide +kernel
theorem dX5_findsPath_155 : decode cX5_findsPath 155 = .ok (.iload 8, 2) := by decide +kernel
theorem dX5_findsPath_157 : decode cX5_findsPath 157 = .ok (.isub, 1) := by decide +kernel
theorem dX5_findsPath_158 : decode cX5_findsPath 158 = .ok (.iconst 1, 1) := by decide +kernel
theorem dX5_findsPath_159 : decode cX5_findsPath 159 = .ok (.isub, 1) := by decide +kernel
theorem dX5_findsPath_160 : decode cX5_findsPath 160 = .ok (.bipush 10, 2) := by decide +kernel
theorem dX5_findsPath_162 : decode cX5_findsPath 162 = .ok (.if_icmp .ge 13, 3) := by decide +kernel
theorem dX5_findsPath_165 : decode cX5_findsPath 165 = .ok (.iload 9, 2) := by decide +kernel
theorem dX5_findsPath_167 : decode cX5_findsPath 167 = .ok (.iload 8, 2) := by decide +kernel
theorem dX5_findsPath_169 : decode cX5_findsPath 169 = .ok (.isub, 1) := by decide +kernel
theorem dX5_findsPath_170 : decode cX5_findsPath 170 = .ok (.iconst 1, 1) := by decide +kernel
theorem dX5_findsPath_171 : decode cX5_findsPath 171 = .ok (.isub, 1) := by decide +kernel
theorem dX5_findsPath_172 : decode cX5_findsPath 172 = .ok (.goto 5, 3) := by decide +kernel
theorem dX5_findsPath_175 : decode cX5_findsPath 175 = .ok (.bipush 10, 2) := by decide +kernel
theorem dX5_findsPath_177 : decode cX5_findsPath 177 = .ok (.irem, 1) := by decide +kernel
theorem dX5_findsPath_178 : decode cX5_findsPath 178 = .ok (.iadd, 1) := by decide +kernel
theorem dX5_findsPath_179 : decode cX5_findsPath 179 = .ok (.istore 11, 2) := by decide +kernel
theorem dX5_findsPath_181 : decode cX5_findsPath 181 = .ok (.aload_n 0, 1) := by decide +kernel
theorem dX5_findsPath_182 : decode cX5_findsPath 182 = .ok (.iload 6, 2) := by decide +kernel
theorem dX5_findsPath_184 : decode cX5_findsPath 184 = .ok (.iconst 2, 1) := by decide +kernel
theorem dX5_findsPath_185 : decode cX5_findsPath 185 = .ok (.irem, 1) := by decide +kernel
theorem dX5_findsPath_186 : decode cX5_findsPath 186 = .ok (.iconst 1, 1) := by decide +kernel
theorem dX5_findsPath_187 : decode cX5_findsPath 187 = .ok (.if_icmp .ne 11, 3) := by decide +kernel
theorem dX5_findsPath_190 : decode cX5_findsPath 190 = .ok (.iload 8, 2) := by decide +kernel
theorem dX5_findsPath_192 : decode cX5_findsPath 192 = .ok (.iload 11, 2) := by decide +kernel
theorem dX5_findsPath_194 : decode cX5_findsPath 194 = .ok (.iadd, 1) := by decide +kernel
theorem dX5_findsPath_195 : decode cX5_findsPath 195 = .ok (.goto 8, 3) := by decide +kernel
theorem dX5_findsPath_198 : decode cX5_findsPath 198 = .ok (.iload 9, 2) := by decide +kernel
theorem dX5_findsPath_200 : decode cX5_findsPath 200 = .ok (.iload 11, 2) := by decide +kernel
theorem dX5_findsPath_202 : decode cX5_findsPath 202 = .ok (.isub, 1) := by decide +kernel
theorem dX5_findsPath_203 : decode cX5_findsPath 203 = .ok (.iload_n 1, 1) := by decide +kernel
theorem dX5_findsPath_204 : decode cX5_findsPath 204 = .ok (.iload_n 2, 1) := by decide +kernel
theorem dX5_findsPath_205 : decode cX5_findsPath 205 = .ok (.invokevirtual 121, 3) := by decide +kernel
theorem dX5_findsPath_208 : decode cX5_findsPath 208 = .ok (.iconst 1, 1) := by decide +kernel
theorem dX5_findsPath_209 : decode cX5_findsPath 209 = .ok (.ireturn, 1) := by decide +kernel
theorem dX5_findsPath_210 : decode cX5_findsPath 210 = .ok (.iload 7, 2) := by decide +kernel
theorem dX5_findsPath_212 : decode cX5_findsPath 212 = .ok (.ifCond .eq 68, 3) := by decide +kernel
theorem dX5_findsPath_215 : decode cX5_findsPath 215 = .ok (.bipush 12, 2) := by decide +kernel
theorem dX5_findsPath_217 : decode cX5_findsPath 217 = .ok (.iload_n 3, 1) := by decide +kernel
theorem dX5_findsPath_218 : decode cX5_findsPath 218 = .ok (.imul, 1) := by decide +kernel
theorem dX5_findsPath_219 : decode cX5_findsPath 219 = .ok (.iload 6, 2) := by decide +kernel
theorem dX5_findsPath_221 : decode cX5_findsPath 221 = .ok (.iadd, 1) := by decide +kernel
theorem dX5_findsPath_222 : decode cX5_findsPath 222 = .ok (.iconst 1, 1) := by decide +kernel
theorem dX5_findsPath_223 : decode cX5_findsPath 223 = .ok (.isub, 1) := by decide +kernel
theorem dX5_findsPath_224 : decode cX5_findsPath 224 = .ok (.istore 10, 2) := by decide +kernel
theorem dX5_findsPath_226 : decode cX5_findsPath 226 = .ok (.aload_n 0, 1) := by decide +kernel
theorem dX5_findsPath_227 : decode cX5_findsPath 227 = .ok (.aload_n 0, 1) := by decide +kernel
theorem dX5_findsPath_228 : decode cX5_findsPath 228 = .ok (.getfield 45, 3) := by decide +kernel
theorem dX5_findsPath_231 : decode cX5_findsPath 231 = .ok (.iload 10, 2) := by decide +kernel
theorem dX5_findsPath_233 : decode cX5_findsPath 233 = .ok (.iaload, 1) := by decide +kernel
theorem dX5_findsPath_234 : decode cX5_findsPath 234 = .ok (.aload_n 0, 1) := by decide +kernel
theorem dX5_findsPath_235 : decode cX5_findsPath 235 = .ok (.getfield 48, 3) := by decide +kernel
theorem dX5_findsPath_238 : decode cX5_findsPath 238 = .ok (.iload 10, 2) := by decide +kernel
theorem dX5_findsPath_240 : decode cX5_findsPath 240 = .ok (.iaload, 1) := by decide +kernel
theorem dX5_findsPath_241 : decode cX5_findsPath 241 = .ok (.aload_n 0, 1) := by decide +kernel
theorem dX5_findsPath_242 : decode cX5_findsPath 242 = .ok (.getfield 51, 3) := by decide +kernel
theorem dX5_findsPath_245 : decode cX5_findsPath 245 = .ok (.iload 10, 2) := by decide +kernel
theorem dX5_findsPath_247 : decode cX5_findsPath 247 = .ok (.iaload, 1) := by decide +kernel
theorem dX5_findsPath_248 : decode cX5_findsPath 248 = .ok (.invokevirtual 121, 3) := by decide +kernel
theorem dX5_findsPath_251 : decode cX5_findsPath 251 = .ok (.iload 5, 2) := by decide +kernel
theorem dX5_findsPath_253 : decode cX5_findsPath 253 = .ok (.iconst (-1), 1) := by decide +kernel
theorem dX5_findsPath_254 : decode cX5_findsPath 254 = .ok (.if_icmp .eq 19, 3) := by decide +kernel
theorem dX5_findsPath_257 : decode cX5_findsPath 257 = .ok (.aload_n 0, 1) := by decide +kernel
theorem dX5_findsPath_258 : decode cX5_findsPath 258 = .ok (.iload_n 3, 1) := by decide +kernel
theorem dX5_findsPath_259 : decode cX5_findsPath 259 = .ok (.iload 6, 2) := by decide +kernel
theorem dX5_findsPath_261 : decode cX5_findsPath 261 = .ok (.iload 5, 2) := by decide +kernel
theorem dX5_findsPath_263 : decode cX5_findsPath 263 = .ok (.invokevirtual 125, 3) := by decide +kernel
theorem dX5_findsPath_266 : decode cX5_findsPath 266 = .ok (.ifCond .ne 7, 3) := by decide +kernel
theorem dX5_findsPath_269 : decode cX5_findsPath 269 = .ok (.iconst (-1), 1) := by decide +kernel
theorem dX5_findsPath_270 : decode cX5_findsPath 270 = .ok (.goto 5, 3) := by decide +kernel
theorem dX5_findsPath_273 : decode cX5_findsPath 273 = .ok (.iload 5, 2) := by decide +kernel
theorem dX5_findsPath_275 : decode cX5_findsPath 275 = .ok (.istore 5, 2) := by decide +kernel
theorem dX5_findsPath_277 : decode cX5_findsPath 277 = .ok (.goto 57, 3) := by decide +kernel
theorem dX5_findsPath_280 : decode cX5_findsPath 280 = .ok (.bipush 12, 2) := by decide +kernel
theorem dX5_findsPath_282 : decode cX5_findsPath 282 = .ok (.iload 5, 2) := by decide +kernel
theorem dX5_findsPath_284 : decode cX5_findsPath 284 = .ok (.imul, 1) := by decide +kernel
theorem dX5_findsPath_285 : decode cX5_findsPath 285 = .ok (.iload 6, 2) := by decide +kernel
theorem dX5_findsPath_287 : decode cX5_findsPath 287 = .ok (.iadd, 1) := by decide +kernel
theorem dX5_findsPath_288 : decode cX5_findsPath 288 = .ok (.iconst 1, 1) := by decide +kernel
theorem dX5_findsPath_289 : decode cX5_findsPath 289 = .ok (.isub, 1) := by decide +kernel
theorem dX5_findsPath_290 : decode cX5_findsPath 290 = .ok (.istore 10, 2) := by decide +kernel
theorem dX5_findsPath_292 : decode cX5_findsPath 292 = .ok (.aload_n 0, 1) := by decide +kernel
theorem dX5_findsPath_293 : decode cX5_findsPath 293 = .ok (.getfield 45, 3) := by decide +kernel
theorem dX5_findsPath_296 : decode cX5_findsPath 296 = .ok (.iload 10, 2) := by decide +kernel
theorem dX5_findsPath_298 : decode cX5_findsPath 298 = .ok (.iaload, 1) := by decide +kernel
theorem dX5_findsPath_299 : decode cX5_findsPath 299 = .ok (.ifCond .ne 25, 3) := by decide +kernel
theorem dX5_findsPath_302 : decode cX5_findsPath 302 = .ok (.aload_n 0, 1) := by decide +kernel
theorem dX5_findsPath_303 : decode cX5_findsPath 303 = .ok (.iconst 0, 1) := by decide +kernel
theorem dX5_findsPath_304 : decode cX5_findsPath 304 = .ok (.aload_n 0, 1) := by decide +kernel
theorem dX5_findsPath_305 : decode cX5_findsPath 305 = .ok (.getfield 48, 3) := by decide +kernel
theorem dX5_findsPath_308 : decode cX5_findsPath 308 = .ok (.iload 10, 2) := by decide +kernel
theorem dX5_findsPath_310 : decode cX5_findsPath 310 = .ok (.iaload, 1) := by decide +kernel
theorem dX5_findsPath_311 : decode cX5_findsPath 311 = .ok (.aload_n 0, 1) := by decide +kernel
theorem dX5_findsPath_312 : decode cX5_findsPath 312 = .ok (.getfield 51, 3) := by decide +kernel
theorem dX5_findsPath_315 : decode cX5_findsPath 315 = .ok (.iload 10, 2) := by decide +kernel
theorem dX5_findsPath_317 : decode cX5_findsPath 317 = .ok (.iaload, 1) := by decide +kernel
theorem dX5_findsPath_318 : decode cX5_findsPath 318 = .ok (.invokevirtual 121, 3) := by decide +kernel
theorem dX5_findsPath_321 : decode cX5_findsPath 321 = .ok (.goto 13, 3) := by decide +kernel
theorem dX5_findsPath_324 : decode cX5_findsPath 324 = .ok (.aload_n 0, 1) := by decide +kernel
theorem dX5_findsPath_325 : decode cX5_findsPath 325 = .ok (.iconst 0, 1) := by decide +kernel
theorem dX5_findsPath_326 : decode cX5_findsPath 326 = .ok (.iload_n 1, 1) := by decide +kernel
theorem dX5_findsPath_327 : decode cX5_findsPath 327 = .ok (.iload_n 2, 1) := by decide +kernel
theorem dX5_findsPath_328 : decode cX5_findsPath 328 = .ok (.invokevirtual 121, 3) := by decide +kernel
theorem dX5_findsPath_331 : decode cX5_findsPath 331 = .ok (.iconst (-1), 1) := by decide +kernel
theorem dX5_findsPath_332 : decode cX5_findsPath 332 = .ok (.istore 5, 2) := by decide +kernel
theorem dX5_findsPath_334 : decode cX5_findsPath 334 = .ok (.iinc 6 1, 3) := by decide +kernel
theorem dX5_findsPath_337 : decode cX5_findsPath 337 = .ok (.goto (-325), 3) := by decide +kernel
theorem dX5_findsPath_340 : decode cX5_findsPath 340 = .ok (.iconst 0, 1) := by decide +kernel
theorem dX5_findsPath_341 : decode cX5_findsPath 341 = .ok (.ireturn, 1) := by decide +kernel
theorem dX5_isBefore_0 : decode cX5_isBefore 0 = .ok (.iconst 0, 1) := by decide +kernel
theorem dX5_isBefore_1 : decode cX5_isBefore 1 = .ok (.istore_n 3, 1) := by decide +kernel
theorem dX5_isBefore_2 : decode cX5_isBefore 2 = .ok (.iload_n 3, 1) := by decide +kernel
theorem dX5_isBefore_3 : decode cX5_isBefore 3 = .ok (.bipush 12, 2) := by decide +kernel
theorem dX5_isBefore_5 : decode cX5_isBefore 5 = .ok (.if_icmp .ge 186, 3) := by decide +kernel
theorem dX5_isBefore_8 : decode cX5_isBefore 8 = .ok (.iload_n 3, 1) := by decide +kernel
theorem dX5_isBefore_9 : decode cX5_isBefore 9 = .ok (.aload_n 0, 1) := by decide +kernel
theorem dX5_isBefore_10 : decode cX5_isBefore 10 = .ok (.getfield 42, 3) := by decide +kernel
theorem dX5_isBefore_13 : decode cX5_isBefore 13 = .ok (.iload_n 1, 1) := by decide +kernel
theorem dX5_isBefore_14 : decode cX5_isBefore 14 = .ok (.iaload, 1) := by decide +kernel
theorem dX5_isBefore_15 : decode cX5_isBefore 15 = .ok (.if_icmp .eq 13, 3) := by decide +kernel
theorem dX5_isBefore_18 : decode cX5_isBefore 18 = .ok (.iload_n 3, 1) := by decide +kernel
theorem dX5_isBefore_19 : decode cX5_isBefore 19 = .ok (.aload_n 0, 1) := by decide +kernel
theorem dX5_isBefore_20 : decode cX5_isBefore 20 = .ok (.getfield 42, 3) := by decide +kernel
theorem dX5_isBefore_23 : decode cX5_isBefore 23 = .ok (.iload_n 2, 1) := by decide +kernel
theorem dX5_isBefore_24 : decode cX5_isBefore 24 = .ok (.iaload, 1) := by decide +kernel
theorem dX5_isBefore_25 : decode cX5_isBefore 25 = .ok (.if_icmp .ne 24, 3) := by decide +kernel
theorem dX5_isBefore_28 : decode cX5_isBefore 28 = .ok (.aload_n 0, 1) := by decide +kernel
theorem dX5_isBefore_29 : decode cX5_isBefore 29 = .ok (.getfield 42, 3) := by decide +kernel
theorem dX5_isBefore_32 : decode cX5_isBefore 32 = .ok (.iload_n 1, 1) := by decide +kernel
theorem dX5_isBefore_33 : decode cX5_isBefore 33 = .ok (.iaload, 1) := by decide +kernel
theorem dX5_isBefore_34 : decode cX5_isBefore 34 = .ok (.aload_n 0, 1) := by decide +kernel
theorem dX5_isBefore_35 : decode cX5_isBefore 35 = .ok (.getfield 42, 3) := by decide +kernel
theorem dX5_isBefore_38 : decode cX5_isBefore 38 = .ok (.iload_n 2, 1) := by decide +kernel
theorem dX5_isBefore_39 : decode cX5_isBefore 39 = .ok (.iaload, 1) := by decide +kernel
theorem dX5_isBefore_40 : decode cX5_isBefore 40 = .ok (.if_icmp .ge 7, 3) := by decide +kernel
theorem dX5_isBefore_43 : decode cX5_isBefore 43 = .ok (.iconst 1, 1) := by decide +kernel
theorem dX5_isBefore_44 : decode cX5_isBefore 44 = .ok (.goto 4, 3) := by decide +kernel
theorem dX5_isBefore_47 : decode cX5_isBefore 47 = .ok (.iconst 0, 1) := by decide +kernel
theorem dX5_isBefore_48 : decode cX5_isBefore 48 = .ok (.ireturn, 1) := by decide +kernel
theorem dX5_isBefore_49 : decode cX5_isBefore 49 = .ok (.bipush 12, 2) := by decide +kernel
theorem dX5_isBefore_51 : decode cX5_isBefore 51 = .ok (.iload_n 1, 1) := by decide +kernel
theorem dX5_isBefore_52 : decode cX5_isBefore 52 = .ok (.imul, 1) := by decide +kernel
theorem dX5_isBefore_53 : decode cX5_isBefore 53 = .ok (.iload_n 3, 1) := by decide +kernel
theorem dX5_isBefore_54 : decode cX5_isBefore 54 = .ok (.iadd, 1) := by decide +kernel
theorem dX5_isBefore_55 : decode cX5_isBefore 55 = .ok (.istore 4, 2) := by decide +kernel
theorem dX5_isBefore_57 : decode cX5_isBefore 57 = .ok (.bipush 12, 2) := by decide +kernel
theorem dX5_isBefore_59 : decode cX5_isBefore 59 = .ok (.iload_n 2, 1) := by decide +kernel
theorem dX5_isBefore_60 : decode cX5_isBefore 60 = .ok (.imul, 1) := by decide +kernel
theorem dX5_isBefore_61 : decode cX5_isBefore 61 = .ok (.iload_n 3, 1) := by decide +kernel
theorem dX5_isBefore_62 : decode cX5_isBefore 62 = .ok (.iadd, 1) := by decide +kernel
theorem dX5_isBefore_63 : decode cX5_isBefore 63 = .ok (.istore 5, 2) := by decide +kernel
theorem dX5_isBefore_65 : decode cX5_isBefore 65 = .ok (.aload_n 0, 1) := by decide +kernel
theorem dX5_isBefore_66 : decode cX5_isBefore 66 = .ok (.getfield 45, 3) := by decide +kernel
theorem dX5_isBefore_69 : decode cX5_isBefore 69 = .ok (.iload 4, 2) := by decide +kernel
theorem dX5_isBefore_71 : decode cX5_isBefore 71 = .ok (.iaload, 1) := by decide +kernel
theorem dX5_isBefore_72 : decode cX5_isBefore 72 = .ok (.aload_n 0, 1) := by decide +kernel
theorem dX5_isBefore_73 : decode cX5_isBefore 73 = .ok (.getfield 45, 3) := by decide +kernel
theorem dX5_isBefore_76 : decode cX5_isBefore 76 = .ok (.iload 5, 2) := by decide +kernel
theorem dX5_isBefore_78 : decode cX5_isBefore 78 = .ok (.iaload, 1) := by decide +kernel
theorem dX5_isBefore_79 : decode cX5_isBefore 79 = .ok (.if_icmp .eq 26, 3) := by decide +kernel
theorem dX5_isBefore_82 : decode cX5_isBefore 82 = .ok (.aload_n 0, 1) := by decide +kernel
theorem dX5_isBefore_83 : decode cX5_isBefore 83 = .ok (.getfield 45, 3) := by decide +kernel
theorem dX5_isBefore_86 : decode cX5_isBefore 86 = .ok (.iload 4, 2) := by decide +kernel
theorem dX5_isBefore_88 : decode cX5_isBefore 88 = .ok (.iaload, 1) := by decide +kernel
theorem dX5_isBefore_89 : decode cX5_isBefore 89 = .ok (.aload_n 0, 1) := by decide +kernel
theorem dX5_isBefore_90 : decode cX5_isBefore 90 = .ok (.getfield 45, 3) := by decide +kernel
theorem dX5_isBefore_93 : decode cX5_isBefore 93 = .ok (.iload 5, 2) := by decide +kernel
theorem dX5_isBefore_95 : decode cX5_isBefore 95 = .ok (.iaload, 1) := by decide +kernel
theorem dX5_isBefore_96 : decode cX5_isBefore 96 = .ok (.if_icmp .ge 7, 3) := by decide +kernel
theorem dX5_isBefore_99 : decode cX5_isBefore 99 = .ok (.iconst 1, 1) := by decide +kernel
theorem dX5_isBefore_100 : decode cX5_isBefore 100 = .ok (.goto 4, 3) := by decide +kernel
theorem dX5_isBefore_103 : decode cX5_isBefore 103 = .ok (.iconst 0, 1) := by decide +kernel
theorem dX5_isBefore_104 : decode cX5_isBefore 104 = .ok (.ireturn, 1) := by decide +kernel
theorem dX5_isBefore_105 : decode cX5_isBefore 105 = .ok (.aload_n 0, 1) := by decide +kernel
theorem dX5_isBefore_106 : decode cX5_isBefore 106 = .ok (.getfield 48, 3) := by decide +kernel
theorem dX5_isBefore_109 : decode cX5_isBefore 109 = .ok (.iload 4, 2) := by decide +kernel
theorem dX5_isBefore_111 : decode cX5_isBefore 111 = .ok (.iaload, 1) := by decide +kernel
theorem dX5_isBefore_112 : decode cX5_isBefore 112 = .ok (.aload_n 0, 1) := by decide +kernel
theorem dX5_isBefore_113 : decode cX5_isBefore 113 = .ok (.getfield 48, 3) := by decide +kernel
theorem dX5_isBefore_116 : decode cX5_isBefore 116 = .ok (.iload 5, 2) := by decide +kernel
theorem dX5_isBefore_118 : decode cX5_isBefore 118 = .ok (.iaload, 1) := by decide +kernel
theorem dX5_isBefore_119 : decode cX5_isBefore 119 = .ok (.if_icmp .eq 26, 3) := by decide +kernel
theorem dX5_isBefore_122 : decode cX5_isBefore 122 = .ok (.aload_n 0, 1) := by decide +kernel
theorem dX5_isBefore_123 : decode cX5_isBefore 123 = .ok (.getfield 48, 3) := by decide +kernel
theorem dX5_isBefore_126 : decode cX5_isBefore 126 = .ok (.iload 4, 2) := by decide +kernel
theorem dX5_isBefore_128 : decode cX5_isBefore 128 = .ok (.iaload, 1) := by decide +kernel
theorem dX5_isBefore_129 : decode cX5_isBefore 129 = .ok (.aload_n 0, 1) := by decide +kernel
theorem dX5_isBefore_130 : decode cX5_isBefore 130 = .ok (.getfield 48, 3) := by decide +kernel
theorem dX5_isBefore_133 : decode cX5_isBefore 133 = .ok (.iload 5, 2) := by decide +kernel
theorem dX5_isBefore_135 : decode cX5_isBefore 135 = .ok (.iaload, 1) := by decide +kernel
theorem dX5_isBefore_136 : decode cX5_isBefore 136 = .ok (.if_icmp .ge 7, 3) := by decide +kernel
theorem dX5_isBefore_139 : decode cX5_isBefore 139 = .ok (.iconst 1, 1) := by decide +kernel
theorem dX5_isBefore_140 : decode cX5_isBefore 140 = .ok (.goto 4, 3) := by decide +kernel
theorem dX5_isBefore_143 : decode cX5_isBefore 143 = .ok (.iconst 0, 1) := by decide +kernel
theorem dX5_isBefore_144 : decode cX5_isBefore 144 = .ok (.ireturn, 1) := by decide +kernel
theorem dX5_isBefore_145 : decode cX5_isBefore 145 = .ok (.aload_n 0, 1) := by decide +kernel
theorem dX5_isBefore_146 : decode cX5_isBefore 146 = .ok (.getfield 51, 3) := by decide +kernel
theorem dX5_isBefore_149 : decode cX5_isBefore 149 = .ok (.iload 4, 2) := by decide +kernel
theorem dX5_isBefore_151 : decode cX5_isBefore 151 = .ok (.iaload, 1) := by decide +kernel
theorem dX5_isBefore_152 : decode cX5_isBefore 152 = .ok (.aload_n 0, 1) := by decide +kernel
theorem dX5_isBefore_153 : decode cX5_isBefore 153 = .ok (.getfield 51, 3) := by decide +kernel
theorem dX5_isBefore_156 : decode cX5_isBefore 156 = .ok (.iload 5, 2) := by decide +kernel
theorem dX5_isBefore_158 : decode cX5_isBefore 158 = .ok (.iaload, 1) := by decide +kernel
theorem dX5_isBefore_159 : decode cX5_isBefore 159 = .ok (.if_icmp .eq 26, 3) := by decide +kernel
theorem dX5_isBefore_162 : decode cX5_isBefore 162 = .ok (.aload_n 0, 1) := by decide +kernel
theorem dX5_isBefore_163 : decode cX5_isBefore 163 = .ok (.getfield 51, 3) := by decide +kernel
theorem dX5_isBefore_166 : decode cX5_isBefore 166 = .ok (.iload 4, 2) := by decide +kernel
theorem dX5_isBefore_168 : decode cX5_isBefore 168 = .ok (.iaload, 1) := by decide +kernel
theorem dX5_isBefore_169 : decode cX5_isBefore 169 = .ok (.aload_n 0, 1) := by decide +kernel
theorem dX5_isBefore_170 : decode cX5_isBefore 170 = .ok (.getfield 51, 3) := by decide +kernel
theorem dX5_isBefore_173 : decode cX5_isBefore 173 = .ok (.iload 5, 2) := by decide +kernel
theorem dX5_isBefore_175 : decode cX5_isBefore 175 = .ok (.iaload, 1) := by decide +kernel
theorem dX5_isBefore_176 : decode cX5_isBefore 176 = .ok (.if_icmp .ge 7, 3) := by decide +kernel
theorem dX5_isBefore_179 : decode cX5_isBefore 179 = .ok (.iconst 1, 1) := by decide +kernel
theorem dX5_isBefore_180 : decode cX5_isBefore 180 = .ok (.goto 4, 3) := by decide +kernel
theorem dX5_isBefore_183 : decode cX5_isBefore 183 = .ok (.iconst 0, 1) := by decide +kernel
theorem dX5_isBefore_184 : decode cX5_isBefore 184 = .ok (.ireturn, 1) := by decide +kernel
theorem dX5_isBefore_185 : decode cX5_isBefore 185 = .ok (.iinc 3 1, 3) := by decide +kernel
theorem dX5_isBefore_188 : decode cX5_isBefore 188 = .ok (.goto (-186), 3) := by decide +kernel
theorem dX5_isBefore_191 : decode cX5_isBefore 191 = .ok (.iconst 0, 1) := by decide +kernel
theorem dX5_isBefore_192 : decode cX5_isBefore 192 = .ok (.ireturn, 1) := by decide +kernel
theorem dX5_sortIn_0 : decode cX5_sortIn 0 = .ok (.aload_n 0, 1) := by decide +kernel
theorem dX5_sortIn_1 : decode cX5_sortIn 1 = .ok (.getfield 110, 3) := by decide +kernel
theorem dX5_sortIn_4 : decode cX5_sortIn 4 = .ok (.istore_n 2, 1) := by decide +kernel
theorem dX5_sortIn_5 : decode cX5_sortIn 5 = .ok (.iload_n 2, 1) := by decide +kernel
theorem dX5_sortIn_6 : decode cX5_sortIn 6 = .ok (.ifCond .le 51, 3) := by decide +kernel
theorem dX5_sortIn_9 : decode cX5_sortIn 9 = .ok (.aload_n 0, 1) := by decide +kernel
theorem dX5_sortIn_10 : decode cX5_sortIn 10 = .ok (.iload_n 1, 1) := by decide +kernel
theorem dX5_sortIn_11 : decode cX5_sortIn 11 = .ok (.aload_n 0, 1) := by decide +kernel
theorem dX5_sortIn_12 : decode cX5_sortIn 12 = .ok (.getfield 54, 3) := by decide +kernel
theorem dX5_sortIn_15 : decode cX5_sortIn 15 = .ok (.iload_n 2, 1) := by decide +kernel
theorem dX5_sortIn_16 : decode cX5_sortIn 16 = .ok (.iconst 1, 1) := by decide +kernel
theorem dX5_sortIn_17 : decode cX5_sortIn 17 = .ok (.isub, 1) := by decide +kernel
theorem dX5_sortIn_18 : decode cX5_sortIn 18 = .ok (.iaload, 1) := by decide +kernel
theorem dX5_sortIn_19 : decode cX5_sortIn 19 = .ok (.invokevirtual 129, 3) := by decide +kernel
theorem dX5_sortIn_22 : decode cX5_sortIn 22 = .ok (.ifCond .eq 35, 3) := by decide +kernel
theorem dX5_sortIn_25 : decode cX5_sortIn 25 = .ok (.aload_n 0, 1) := by decide +kernel
theorem dX5_sortIn_26 : decode cX5_sortIn 26 = .ok (.getfield 54, 3) := by decide +kernel
theorem dX5_sortIn_29 : decode cX5_sortIn 29 = .ok (.iload_n 2, 1) := by decide +kernel
theorem dX5_sortIn_30 : decode cX5_sortIn 30 = .ok (.aload_n 0, 1) := by decide +kernel
theorem dX5_sortIn_31 : decode cX5_sortIn 31 = .ok (.getfield 54, 3) := by decide +kernel
theorem dX5_sortIn_34 : decode cX5_sortIn 34 = .ok (.iload_n 2, 1) := by decide +kernel
theorem dX5_sortIn_35 : decode cX5_sortIn 35 = .ok (.iconst 1, 1) := by decide +kernel
theorem dX5_sortIn_36 : decode cX5_sortIn 36 = .ok (.isub, 1) := by decide +kernel
theorem dX5_sortIn_37 : decode cX5_sortIn 37 = .ok (.iaload, 1) := by decide +kernel
theorem dX5_sortIn_38 : decode cX5_sortIn 38 = .ok (.iastore, 1) := by decide +kernel
theorem dX5_sortIn_39 : decode cX5_sortIn 39 = .ok (.aload_n 0, 1) := by decide +kernel
theorem dX5_sortIn_40 : decode cX5_sortIn 40 = .ok (.getfield 57, 3) := by decide +kernel
theorem dX5_sortIn_43 : decode cX5_sortIn 43 = .ok (.aload_n 0, 1) := by decide +kernel
theorem dX5_sortIn_44 : decode cX5_sortIn 44 = .ok (.getfield 54, 3) := by decide +kernel
theorem dX5_sortIn_47 : decode cX5_sortIn 47 = .ok (.iload_n 2, 1) := by decide +kernel
theorem dX5_sortIn_48 : decode cX5_sortIn 48 = .ok (.iaload, 1) := by decide +kernel
theorem dX5_sortIn_49 : decode cX5_sortIn 49 = .ok (.iload_n 2, 1) := by decide +kernel
theorem dX5_sortIn_50 : decode cX5_sortIn 50 = .ok (.iastore, 1) := by decide +kernel
theorem dX5_sortIn_51 : decode cX5_sortIn 51 = .ok (.iinc 2 (-1), 3) := by decide +kernel
theorem dX5_sortIn_54 : decode cX5_sortIn 54 = .ok (.goto (-49), 3) := by decide +kernel
theorem dX5_sortIn_57 : decode cX5_sortIn 57 = .ok (.aload_n 0, 1) := by decide +kernel
theorem dX5_sortIn_58 : decode cX5_sortIn 58 = .ok (.getfield 54, 3) := by decide +kernel
theorem dX5_sortIn_61 : decode cX5_sortIn 61 = .ok (.iload_n 2, 1) := by decide +kernel
theorem dX5_sortIn_62 : decode cX5_sortIn 62 = .ok (.iload_n 1, 1) := by decide +kernel
theorem dX5_sortIn_63 : decode cX5_sortIn 63 = .ok (.iastore, 1) := by decide +kernel
theorem dX5_sortIn_64 : decode cX5_sortIn 64 = .ok (.aload_n 0, 1) := by decide +kernel
theorem dX5_sortIn_65 : decode cX5_sortIn 65 = .ok (.getfield 57, 3) := by decide +kernel
theorem dX5_sortIn_68 : decode cX5_sortIn 68 = .ok (.iload_n 1, 1) := by decide +kernel
theorem dX5_sortIn_69 : decode cX5_sortIn 69 = .ok (.iload_n 2, 1) := by decide +kernel
theorem dX5_sortIn_70 : decode cX5_sortIn 70 = .ok (.iastore, 1) := by decide +kernel
theorem dX5_sortIn_71 : decode cX5_sortIn 71 = .ok (.aload_n 0, 1) := by decide +kernel
theorem dX5_sortIn_72 : decode cX5_sortIn 72 = .ok (.dup, 1) := by decide +kernel
theorem dX5_sortIn_73 : decode cX5_sortIn 73 = .ok (.getfield 110, 3) := by decide +kernel
theorem dX5_sortIn_76 : decode cX5_sortIn 76 = .ok (.iconst 1, 1) := by decide +kernel
theorem dX5_sortIn_77 : decode cX5_sortIn 77 = .ok (.iadd, 1) := by decide +kernel
theorem dX5_sortIn_78 : decode cX5_sortIn 78 = .ok (.putfield 110, 3) := by decide +kernel
theorem dX5_sortIn_81 : decode cX5_sortIn 81 = .ok (.return_, 1) := by decide +kernel
theorem dX5_can_0 : decode cX5_can 0 = .ok (.aload_n 0, 1) := by decide +kernel
theorem dX5_can_1 : decode cX5_can 1 = .ok (.getfield 69, 3) := by decide +kernel
theorem dX5_can_4 : decode cX5_can 4 = .ok (.bipush 6, 2) := by decide +kernel
theorem dX5_can_6 : decode cX5_can 6 = .ok (.iload_n 1, 1) := by decide +kernel
theorem dX5_can_7 : decode cX5_can 7 = .ok (.imul, 1) := by decide +kernel
theorem dX5_can_8 : decode cX5_can 8 = .ok (.aload_n 0, 1) := by decide +kernel
theorem dX5_can_9 : decode cX5_can 9 = .ok (.getfield 13, 3) := by decide +kernel
theorem dX5_can_12 : decode cX5_can 12 = .ok (.iload_n 2, 1) := by decide +kernel
theorem dX5_can_13 : decode cX5_can 13 = .ok (.iaload, 1) := by decide +kernel
theorem dX5_can_14 : decode cX5_can 14 = .ok (.iadd, 1) := by decide +kernel
theorem dX5_can_15 : decode cX5_can 15 = .ok (.iaload, 1) := by decide +kernel
theorem dX5_can_16 : decode cX5_can 16 = .ok (.aload_n 0, 1) := by decide +kernel
theorem dX5_can_17 : decode cX5_can 17 = .ok (.getfield 17, 3) := by decide +kernel
theorem dX5_can_20 : decode cX5_can 20 = .ok (.iload_n 2, 1) := by decide +kernel
theorem dX5_can_21 : decode cX5_can 21 = .ok (.iaload, 1) := by decide +kernel
theorem dX5_can_22 : decode cX5_can 22 = .ok (.iconst 1, 1) := by decide +kernel
theorem dX5_can_23 : decode cX5_can 23 = .ok (.isub, 1) := by decide +kernel
theorem dX5_can_24 : decode cX5_can 24 = .ok (.if_icmp .ne 7, 3) := by decide +kernel
theorem dX5_can_27 : decode cX5_can 27 = .ok (.iconst 1, 1) := by decide +kernel
theorem dX5_can_28 : decode cX5_can 28 = .ok (.goto 4, 3) := by decide +kernel
theorem dX5_can_31 : decode cX5_can 31 = .ok (.iconst 0, 1) := by decide +kernel
theorem dX5_can_32 : decode cX5_can 32 = .ok (.istore_n 3, 1) := by decide +kernel
theorem dX5_can_33 : decode cX5_can 33 = .ok (.aload_n 0, 1) := by decide +kernel
theorem dX5_can_34 : decode cX5_can 34 = .ok (.getfield 23, 3) := by decide +kernel
theorem dX5_can_37 : decode cX5_can 37 = .ok (.iload_n 2, 1) := by decide +kernel
theorem dX5_can_38 : decode cX5_can 38 = .ok (.iaload, 1) := by decide +kernel
theorem dX5_can_39 : decode cX5_can 39 = .ok (.ifCond .eq 41, 3) := by decide +kernel
theorem dX5_can_42 : decode cX5_can 42 = .ok (.aload_n 0, 1) := by decide +kernel
theorem dX5_can_43 : decode cX5_can 43 = .ok (.iload_n 1, 1) := by decide +kernel
theorem dX5_can_44 : decode cX5_can 44 = .ok (.aload_n 0, 1) := by decide +kernel
theorem dX5_can_45 : decode cX5_can 45 = .ok (.getfield 29, 3) := by decide +kernel
theorem dX5_can_48 : decode cX5_can 48 = .ok (.iload_n 2, 1) := by decide +kernel
theorem dX5_can_49 : decode cX5_can 49 = .ok (.iaload, 1) := by decide +kernel
theorem dX5_can_50 : decode cX5_can 50 = .ok (.invokevirtual 106, 3) := by decide +kernel
theorem dX5_can_53 : decode cX5_can 53 = .ok (.ifCond .eq 31, 3) := by decide +kernel
theorem dX5_can_56 : decode cX5_can 56 = .ok (.aload_n 0, 1) := by decide +kernel
theorem dX5_can_57 : decode cX5_can 57 = .ok (.getfield 23, 3) := by decide +kernel
theorem dX5_can_60 : decode cX5_can 60 = .ok (.iload_n 2, 1) := by decide +kernel
theorem dX5_can_61 : decode cX5_can 61 = .ok (.iaload, 1) := by decide +kernel
theorem dX5_can_62 : decode cX5_can 62 = .ok (.iconst 3, 1) := by decide +kernel
theorem dX5_can_63 : decode cX5_can 63 = .ok (.if_icmp .ne 17, 3) := by decide +kernel
theorem dX5_can_66 : decode cX5_can 66 = .ok (.aload_n 0, 1) := by decide +kernel
theorem dX5_can_67 : decode cX5_can 67 = .ok (.iload_n 1, 1) := by decide +kernel
theorem dX5_can_68 : decode cX5_can 68 = .ok (.aload_n 0, 1) := by decide +kernel
theorem dX5_can_69 : decode cX5_can 69 = .ok (.getfield 32, 3) := by decide +kernel
theorem dX5_can_72 : decode cX5_can 72 = .ok (.iload_n 2, 1) := by decide +kernel
theorem dX5_can_73 : decode cX5_can 73 = .ok (.iaload, 1) := by decide +kernel
theorem dX5_can_74 : decode cX5_can 74 = .ok (.invokevirtual 106, 3) := by decide +kernel
theorem dX5_can_77 : decode cX5_can 77 = .ok (.ifCond .eq 7, 3) := by decide +kernel
theorem dX5_can_80 : decode cX5_can 80 = .ok (.iconst 1, 1) := by decide +kernel
theorem dX5_can_81 : decode cX5_can 81 = .ok (.goto 4, 3) := by decide +kernel
theorem dX5_can_84 : decode cX5_can 84 = .ok (.iconst 0, 1) := by decide +kernel
theorem dX5_can_85 : decode cX5_can 85 = .ok (.istore 4, 2) := by decide +kernel
theorem dX5_can_87 : decode cX5_can 87 = .ok (.iload_n 3, 1) := by decide +kernel
theorem dX5_can_88 : decode cX5_can 88 = .ok (.ifCond .eq 12, 3) := by decide +kernel
theorem dX5_can_91 : decode cX5_can 91 = .ok (.iload 4, 2) := by decide +kernel
theorem dX5_can_93 : decode cX5_can 93 = .ok (.ifCond .eq 7, 3) := by decide +kernel
theorem dX5_can_96 : decode cX5_can 96 = .ok (.iconst 1, 1) := by decide +kernel
theorem dX5_can_97 : decode cX5_can 97 = .ok (.goto 4, 3) := by decide +kernel
theorem dX5_can_100 : decode cX5_can 100 = .ok (.iconst 0, 1) := by decide +kernel
theorem dX5_can_101 : decode cX5_can 101 = .ok (.ireturn, 1) := by decide +kernel
theorem dX5_isDone_0 : decode cX5_isDone 0 = .ok (.aload_n 0, 1) := by decide +kernel
theorem dX5_isDone_1 : decode cX5_isDone 1 = .ok (.getfield 60, 3) := by decide +kernel
theorem dX5_isDone_4 : decode cX5_isDone 4 = .ok (.sipush 400, 3) := by decide +kernel
theorem dX5_isDone_7 : decode cX5_isDone 7 = .ok (.iload_n 1, 1) := by decide +kernel
theorem dX5_isDone_8 : decode cX5_isDone 8 = .ok (.imul, 1) := by decide +kernel
theorem dX5_isDone_9 : decode cX5_isDone 9 = .ok (.iload_n 2, 1) := by decide +kernel
theorem dX5_isDone_10 : decode cX5_isDone 10 = .ok (.iadd, 1) := by decide +kernel
theorem dX5_isDone_11 : decode cX5_isDone 11 = .ok (.iconst 1, 1) := by decide +kernel
theorem dX5_isDone_12 : decode cX5_isDone 12 = .ok (.bastore, 1) := by decide +kernel
theorem dX5_isDone_13 : decode cX5_isDone 13 = .ok (.aload_n 0, 1) := by decide +kernel
theorem dX5_isDone_14 : decode cX5_isDone 14 = .ok (.getfield 63, 3) := by decide +kernel
theorem dX5_isDone_17 : decode cX5_isDone 17 = .ok (.sipush 400, 3) := by decide +kernel
theorem dX5_isDone_20 : decode cX5_isDone 20 = .ok (.iload_n 1, 1) := by decide +kernel
theorem dX5_isDone_21 : decode cX5_isDone 21 = .ok (.imul, 1) := by decide +kernel
theorem dX5_isDone_22 : decode cX5_isDone 22 = .ok (.iload_n 2, 1) := by decide +kernel
theorem dX5_isDone_23 : decode cX5_isDone 23 = .ok (.iadd, 1) := by decide +kernel
theorem dX5_isDone_24 : decode cX5_isDone 24 = .ok (.iconst 0, 1) := by decide +kernel
theorem dX5_isDone_25 : decode cX5_isDone 25 = .ok (.bastore, 1) := by decide +kernel
theorem dX5_isDone_26 : decode cX5_isDone 26 = .ok (.aload_n 0, 1) := by decide +kernel
theorem dX5_isDone_27 : decode cX5_isDone 27 = .ok (.getfield 69, 3) := by decide +kernel
theorem dX5_isDone_30 : decode cX5_isDone 30 = .ok (.bipush 6, 2) := by decide +kernel
theorem dX5_isDone_32 : decode cX5_isDone 32 = .ok (.iload_n 1, 1) := by decide +kernel
theorem dX5_isDone_33 : decode cX5_isDone 33 = .ok (.imul, 1) := by decide +kernel
theorem dX5_isDone_34 : decode cX5_isDone 34 = .ok (.aload_n 0, 1) := by decide +kernel
theorem dX5_isDone_35 : decode cX5_isDone 35 = .ok (.getfield 13, 3) := by decide +kernel
theorem dX5_isDone_38 : decode cX5_isDone 38 = .ok (.iload_n 2, 1) := by decide +kernel
theorem dX5_isDone_39 : decode cX5_isDone 39 = .ok (.iaload, 1) := by decide +kernel
theorem dX5_isDone_40 : decode cX5_isDone 40 = .ok (.iadd, 1) := by decide +kernel
theorem dX5_isDone_41 : decode cX5_isDone 41 = .ok (.dup2, 1) := by decide +kernel
theorem dX5_isDone_42 : decode cX5_isDone 42 = .ok (.iaload, 1) := by decide +kernel
theorem dX5_isDone_43 : decode cX5_isDone 43 = .ok (.iconst 1, 1) := by decide +kernel
theorem dX5_isDone_44 : decode cX5_isDone 44 = .ok (.iadd, 1) := by decide +kernel
theorem dX5_isDone_45 : decode cX5_isDone 45 = .ok (.iastore, 1) := by decide +kernel
theorem dX5_isDone_46 : decode cX5_isDone 46 = .ok (.aload_n 0, 1) := by decide +kernel
theorem dX5_isDone_47 : decode cX5_isDone 47 = .ok (.getfield 72, 3) := by decide +kernel
theorem dX5_isDone_50 : decode cX5_isDone 50 = .ok (.iload_n 1, 1) := by decide +kernel
theorem dX5_isDone_51 : decode cX5_isDone 51 = .ok (.aload_n 0, 1) := by decide +kernel
theorem dX5_isDone_52 : decode cX5_isDone 52 = .ok (.getfield 20, 3) := by decide +kernel
theorem dX5_isDone_55 : decode cX5_isDone 55 = .ok (.iload_n 2, 1) := by decide +kernel
theorem dX5_isDone_56 : decode cX5_isDone 56 = .ok (.iaload, 1) := by decide +kernel
theorem dX5_isDone_57 : decode cX5_isDone 57 = .ok (.aload_n 0, 1) := by decide +kernel
theorem dX5_isDone_58 : decode cX5_isDone 58 = .ok (.getfield 72, 3) := by decide +kernel
theorem dX5_isDone_61 : decode cX5_isDone 61 = .ok (.iload_n 1, 1) := by decide +kernel
theorem dX5_isDone_62 : decode cX5_isDone 62 = .ok (.iaload, 1) := by decide +kernel
theorem dX5_isDone_63 : decode cX5_isDone 63 = .ok (.if_icmp .le 12, 3) := by decide +kernel
theorem dX5_isDone_66 : decode cX5_isDone 66 = .ok (.aload_n 0, 1) := by decide +kernel
theorem dX5_isDone_67 : decode cX5_isDone 67 = .ok (.getfield 20, 3) := by decide +kernel
theorem dX5_isDone_70 : decode cX5_isDone 70 = .ok (.iload_n 2, 1) := by decide +kernel
theorem dX5_isDone_71 : decode cX5_isDone 71 = .ok (.iaload, 1) := by decide +kernel
theorem dX5_isDone_72 : decode cX5_isDone 72 = .ok (.goto 9, 3) := by decide +kernel
theorem dX5_isDone_75 : decode cX5_isDone 75 = .ok (.aload_n 0, 1) := by decide +kernel
theorem dX5_isDone_76 : decode cX5_isDone 76 = .ok (.getfield 72, 3) := by decide +kernel
theorem dX5_isDone_79 : decode cX5_isDone 79 = .ok (.iload_n 1, 1) := by decide +kernel
theorem dX5_isDone_80 : decode cX5_isDone 80 = .ok (.iaload, 1) := by decide +kernel
theorem dX5_isDone_81 : decode cX5_isDone 81 = .ok (.iastore, 1) := by decide +kernel
theorem dX5_isDone_82 : decode cX5_isDone 82 = .ok (.aload_n 0, 1) := by decide +kernel
theorem dX5_isDone_83 : decode cX5_isDone 83 = .ok (.getfield 23, 3) := by decide +kernel
theorem dX5_isDone_86 : decode cX5_isDone 86 = .ok (.iload_n 2, 1) := by decide +kernel
theorem dX5_isDone_87 : decode cX5_isDone 87 = .ok (.iaload, 1) := by decide +kernel
theorem dX5_isDone_88 : decode cX5_isDone 88 = .ok (.iconst 1, 1) := by decide +kernel
theorem dX5_isDone_89 : decode cX5_isDone 89 = .ok (.if_icmp .eq 13, 3) := by decide +kernel
theorem dX5_isDone_92 : decode cX5_isDone 92 = .ok (.aload_n 0, 1) := by decide +kernel
theorem dX5_isDone_93 : decode cX5_isDone 93 = .ok (.getfield 23, 3) := by decide +kernel
theorem dX5_isDone_96 : decode cX5_isDone 96 = .ok (.iload_n 2, 1) := by decide +kernel
theorem dX5_isDone_97 : decode cX5_isDone 97 = .ok (.iaload, 1) := by decide +kernel
theorem dX5_isDone_98 : decode cX5_isDone 98 = .ok (.iconst 2, 1) := by decide +kernel
theorem dX5_isDone_99 : decode cX5_isDone 99 = .ok (.if_icmp .ne 46, 3) := by decide +kernel
theorem dX5_isDone_102 : decode cX5_isDone 102 = .ok (.sipush 400, 3) := by decide +kernel
theorem dX5_isDone_105 : decode cX5_isDone 105 = .ok (.iload_n 1, 1) := by decide +kernel
theorem dX5_isDone_106 : decode cX5_isDone 106 = .ok (.imul, 1) := by decide +kernel
theorem dX5_isDone_107 : decode cX5_isDone 107 = .ok (.aload_n 0, 1) := by decide +kernel
theorem dX5_isDone_108 : decode cX5_isDone 108 = .ok (.getfield 29, 3) := by decide +kernel
theorem dX5_isDone_111 : decode cX5_isDone 111 = .ok (.iload_n 2, 1) := by decide +kernel
theorem dX5_isDone_112 : decode cX5_isDone 112 = .ok (.iaload, 1) := by decide +kernel
theorem dX5_isDone_113 : decode cX5_isDone 113 = .ok (.iadd, 1) := by decide +kernel
theorem dX5_isDone_114 : decode cX5_isDone 114 = .ok (.istore_n 3, 1) := by decide +kernel
theorem dX5_isDone_115 : decode cX5_isDone 115 = .ok (.aload_n 0, 1) := by decide +kernel
theorem dX5_isDone_116 : decode cX5_isDone 116 = .ok (.getfield 66, 3) := by decide +kernel
theorem dX5_isDone_119 : decode cX5_isDone 119 = .ok (.iload_n 3, 1) := by decide +kernel
theorem dX5_isDone_120 : decode cX5_isDone 120 = .ok (.aload_n 0, 1) := by decide +kernel
theorem dX5_isDone_121 : decode cX5_isDone 121 = .ok (.iload_n 2, 1) := by decide +kernel
theorem dX5_isDone_122 : decode cX5_isDone 122 = .ok (.aload_n 0, 1) := by decide +kernel
theorem dX5_isDone_123 : decode cX5_isDone 123 = .ok (.getfield 66, 3) := by decide +kernel
theorem dX5_isDone_126 : decode cX5_isDone 126 = .ok (.iload_n 3, 1) := by decide +kernel
theorem dX5_isDone_127 : decode cX5_isDone 127 = .ok (.iaload, 1) := by decide +kernel
theorem dX5_isDone_128 : decode cX5_isDone 128 = .ok (.invokevirtual 132, 3) := by decide +kernel
theorem dX5_isDone_131 : decode cX5_isDone 131 = .ok (.ifCond .eq 7, 3) := by decide +kernel
theorem dX5_isDone_134 : decode cX5_isDone 134 = .ok (.iload_n 2, 1) := by decide +kernel
theorem dX5_isDone_135 : decode cX5_isDone 135 = .ok (.goto 9, 3) := by decide +kernel
theorem dX5_isDone_138 : decode cX5_isDone 138 = .ok (.aload_n 0, 1) := by decide +kernel
theorem dX5_isDone_139 : decode cX5_isDone 139 = .ok (.getfield 66, 3) := by decide +kernel
theorem dX5_isDone_142 : decode cX5_isDone 142 = .ok (.iload_n 3, 1) := by decide +kernel
theorem dX5_isDone_143 : decode cX5_isDone 143 = .ok (.iaload, 1) := by decide +kernel
theorem dX5_isDone_144 : decode cX5_isDone 144 = .ok (.iastore, 1) := by decide +kernel
theorem dX5_isDone_145 : decode cX5_isDone 145 = .ok (.return_, 1) := by decide +kernel
theorem dX5_goOn_0 : decode cX5_goOn 0 = .ok (.iconst 0, 1) := by decide +kernel
theorem dX5_goOn_1 : decode cX5_goOn 1 = .ok (.istore_n 2, 1) := by decide +kernel
theorem dX5_goOn_2 : decode cX5_goOn 2 = .ok (.iconst 1, 1) := by decide +kernel
theorem dX5_goOn_3 : decode cX5_goOn 3 = .ok (.istore_n 3, 1) := by decide +kernel
theorem dX5_goOn_4 : decode cX5_goOn 4 = .ok (.iload_n 3, 1) := by decide +kernel
theorem dX5_goOn_5 : decode cX5_goOn 5 = .ok (.ifCond .eq 68, 3) := by decide +kernel
theorem dX5_goOn_8 : decode cX5_goOn 8 = .ok (.iconst 0, 1) := by decide +kernel
theorem dX5_goOn_9 : decode cX5_goOn 9 = .ok (.istore_n 3, 1) := by decide +kernel
theorem dX5_goOn_10 : decode cX5_goOn 10 = .ok (.iconst 0, 1) := by decide +kernel
theorem dX5_goOn_11 : decode cX5_goOn 11 = .ok (.istore 4, 2) := by decide +kernel
theorem dX5_goOn_13 : decode cX5_goOn 13 = .ok (.iload 4, 2) := by decide +kernel
theorem dX5_goOn_15 : decode cX5_goOn 15 = .ok (.aload_n 0, 1) := by decide +kernel
theorem dX5_goOn_16 : decode cX5_goOn 16 = .ok (.getfield 135, 3) := by decide +kernel
theorem dX5_goOn_19 : decode cX5_goOn 19 = .ok (.if_icmp .ge 51, 3) := by decide +kernel
theorem dX5_goOn_22 : decode cX5_goOn 22 = .ok (.iload_n 3, 1) := by decide +kernel
theorem dX5_goOn_23 : decode cX5_goOn 23 = .ok (.ifCond .ne 47, 3) := by decide +kernel
theorem dX5_goOn_26 : decode cX5_goOn 26 = .ok (.aload_n 0, 1) := by decide +kernel
theorem dX5_goOn_27 : decode cX5_goOn 27 = .ok (.getfield 63, 3) := by decide +kernel
theorem dX5_goOn_30 : decode cX5_goOn 30 = .ok (.sipush 400, 3) := by decide +kernel
theorem dX5_goOn_33 : decode cX5_goOn 33 = .ok (.iload_n 1, 1) := by decide +kernel
theorem dX5_goOn_34 : decode cX5_goOn 34 = .ok (.imul, 1) := by decide +kernel
theorem dX5_goOn_35 : decode cX5_goOn 35 = .ok (.iload 4, 2) := by decide +kernel
theorem dX5_goOn_37 : decode cX5_goOn 37 = .ok (.iadd, 1) := by decide +kernel
theorem dX5_goOn_38 : decode cX5_goOn 38 = .ok (.baload, 1) := by decide +kernel
theorem dX5_goOn_39 : decode cX5_goOn 39 = .ok (.ifCond .eq 25, 3) := by decide +kernel
theorem dX5_goOn_42 : decode cX5_goOn 42 = .ok (.aload_n 0, 1) := by decide +kernel
theorem dX5_goOn_43 : decode cX5_goOn 43 = .ok (.iload_n 1, 1) := by decide +kernel
theorem dX5_goOn_44 : decode cX5_goOn 44 = .ok (.iload 4, 2) := by decide +kernel
theorem dX5_goOn_46 : decode cX5_goOn 46 = .ok (.invokevirtual 138, 3) := by decide +kernel
theorem dX5_goOn_49 : decode cX5_goOn 49 = .ok (.ifCond .eq 15, 3) := by decide +kernel
theorem dX5_goOn_52 : decode cX5_goOn 52 = .ok (.aload_n 0, 1) := by decide +kernel
theorem dX5_goOn_53 : decode cX5_goOn 53 = .ok (.iload_n 1, 1) := by decide +kernel
theorem dX5_goOn_54 : decode cX5_goOn 54 = .ok (.iload 4, 2) := by decide +kernel
theorem dX5_goOn_56 : decode cX5_goOn 56 = .ok (.invokevirtual 141, 3) := by decide +kernel
theorem dX5_goOn_59 : decode cX5_goOn 59 = .ok (.iinc 2 1, 3) := by decide +kernel
theorem dX5_goOn_62 : decode cX5_goOn 62 = .ok (.iconst 1, 1) := by decide +kernel
theorem dX5_goOn_63 : decode cX5_goOn 63 = .ok (.istore_n 3, 1) := by decide +kernel
theorem dX5_goOn_64 : decode cX5_goOn 64 = .ok (.iinc 4 1, 3) := by decide +kernel
theorem dX5_goOn_67 : decode cX5_goOn 67 = .ok (.goto (-54), 3) := by decide +kernel
theorem dX5_goOn_70 : decode cX5_goOn 70 = .ok (.goto (-66), 3) := by decide +kernel
theorem dX5_goOn_73 : decode cX5_goOn 73 = .ok (.iload_n 2, 1) := by decide +kernel
theorem dX5_goOn_74 : decode cX5_goOn 74 = .ok (.ireturn, 1) := by decide +kernel
theorem dX5_comes_0 : decode cX5_comes 0 = .ok (.aload_n 0, 1) := by decide +kernel
theorem dX5_comes_1 : decode cX5_comes 1 = .ok (.iload_n 1, 1) := by decide +kernel
theorem dX5_comes_2 : decode cX5_comes 2 = .ok (.iload_n 2, 1) := by decide +kernel
theorem dX5_comes_3 : decode cX5_comes 3 = .ok (.invokevirtual 106, 3) := by decide +kernel
theorem dX5_comes_6 : decode cX5_comes 6 = .ok (.ifCond .ne 18, 3) := by decide +kernel
theorem dX5_comes_9 : decode cX5_comes 9 = .ok (.aload_n 0, 1) := by decide +kernel
theorem dX5_comes_10 : decode cX5_comes 10 = .ok (.getfield 63, 3) := by decide +kernel
theorem dX5_comes_13 : decode cX5_comes 13 = .ok (.sipush 400, 3) := by decide +kernel
theorem dX5_comes_16 : decode cX5_comes 16 = .ok (.iload_n 1, 1) := by decide +kernel
theorem dX5_comes_17 : decode cX5_comes 17 = .ok (.imul, 1) := by decide +kernel
theorem dX5_comes_18 : decode cX5_comes 18 = .ok (.iload_n 2, 1) := by decide +kernel
theorem dX5_comes_19 : decode cX5_comes 19 = .ok (.iadd, 1) := by decide +kernel
theorem dX5_comes_20 : decode cX5_comes 20 = .ok (.baload, 1) := by decide +kernel
theorem dX5_comes_21 : decode cX5_comes 21 = .ok (.ifCond .eq 5, 3) := by decide +kernel
theorem dX5_comes_24 : decode cX5_comes 24 = .ok (.iconst 0, 1) := by decide +kernel
theorem dX5_comes_25 : decode cX5_comes 25 = .ok (.ireturn, 1) := by decide +kernel
theorem dX5_comes_26 : decode cX5_comes 26 = .ok (.aload_n 0, 1) := by decide +kernel
theorem dX5_comes_27 : decode cX5_comes 27 = .ok (.iload_n 1, 1) := by decide +kernel
theorem dX5_comes_28 : decode cX5_comes 28 = .ok (.iload_n 2, 1) := by decide +kernel
theorem dX5_comes_29 : decode cX5_comes 29 = .ok (.invokevirtual 138, 3) := by decide +kernel
theorem dX5_comes_32 : decode cX5_comes 32 = .ok (.ifCond .ne 18, 3) := by decide +kernel
theorem dX5_comes_35 : decode cX5_comes 35 = .ok (.aload_n 0, 1) := by decide +kernel
theorem dX5_comes_36 : decode cX5_comes 36 = .ok (.getfield 63, 3) := by decide +kernel
theorem dX5_comes_39 : decode cX5_comes 39 = .ok (.sipush 400, 3) := by decide +kernel
theorem dX5_comes_42 : decode cX5_comes 42 = .ok (.iload_n 1, 1) := by decide +kernel
theorem dX5_comes_43 : decode cX5_comes 43 = .ok (.imul, 1) := by decide +kernel
theorem dX5_comes_44 : decode cX5_comes 44 = .ok (.iload_n 2, 1) := by decide +kernel
theorem dX5_comes_45 : decode cX5_comes 45 = .ok (.iadd, 1) := by decide +kernel
theorem dX5_comes_46 : decode cX5_comes 46 = .ok (.iconst 1, 1) := by decide +kernel
theorem dX5_comes_47 : decode cX5_comes 47 = .ok (.bastore, 1) := by decide +kernel
theorem dX5_comes_48 : decode cX5_comes 48 = .ok (.iconst 2, 1) := by decide +kernel
theorem dX5_comes_49 : decode cX5_comes 49 = .ok (.ireturn, 1) := by decide +kernel
theorem dX5_comes_50 : decode cX5_comes 50 = .ok (.aload_n 0, 1) := by decide +kernel
theorem dX5_comes_51 : decode cX5_comes 51 = .ok (.iload_n 1, 1) := by decide +kernel
theorem dX5_comes_52 : decode cX5_comes 52 = .ok (.iload_n 2, 1) := by decide +kernel
theorem dX5_comes_53 : decode cX5_comes 53 = .ok (.invokevirtual 141, 3) := by decide +kernel
theorem dX5_comes_56 : decode cX5_comes 56 = .ok (.iconst 1, 1) := by decide +kernel
theorem dX5_comes_57 : decode cX5_comes 57 = .ok (.ireturn, 1) := by decide +kernel
theorem dX5_send_0 : decode cX5_send 0 = .ok (.aload_n 0, 1) := by decide +kernel
theorem dX5_send_1 : decode cX5_send 1 = .ok (.getfield 145, 3) := by decide +kernel
theorem dX5_send_4 : decode cX5_send 4 = .ok (.sipush 300, 3) := by decide +kernel
theorem dX5_send_7 : decode cX5_send 7 = .ok (.if_icmp .ne 14, 3) := by decide +kernel
theorem dX5_send_10 : decode cX5_send 10 = .ok (.aload_n 0, 1) := by decide +kernel
theorem dX5_send_11 : decode cX5_send 11 = .ok (.dup, 1) := by decide +kernel
theorem dX5_send_12 : decode cX5_send 12 = .ok (.getfield 148, 3) := by decide +kernel
theorem dX5_send_15 : decode cX5_send 15 = .ok (.iconst 1, 1) := by decide +kernel
theorem dX5_send_16 : decode cX5_send 16 = .ok (.iadd, 1) := by decide +kernel
theorem dX5_send_17 : decode cX5_send 17 = .ok (.putfield 148, 3) := by decide +kernel
theorem dX5_send_20 : decode cX5_send 20 = .ok (.return_, 1) := by decide +kernel
theorem dX5_send_21 : decode cX5_send 21 = .ok (.aload_n 0, 1) := by decide +kernel
theorem dX5_send_22 : decode cX5_send 22 = .ok (.getfield 81, 3) := by decide +kernel
theorem dX5_send_25 : decode cX5_send 25 = .ok (.aload_n 0, 1) := by decide +kernel
theorem dX5_send_26 : decode cX5_send 26 = .ok (.getfield 145, 3) := by decide +kernel
theorem dX5_send_29 : decode cX5_send 29 = .ok (.iload_n 1, 1) := by decide +kernel
theorem dX5_send_30 : decode cX5_send 30 = .ok (.iastore, 1) := by decide +kernel
theorem dX5_send_31 : decode cX5_send 31 = .ok (.aload_n 0, 1) := by decide +kernel
theorem dX5_send_32 : decode cX5_send 32 = .ok (.getfield 84, 3) := by decide +kernel
theorem dX5_send_35 : decode cX5_send 35 = .ok (.aload_n 0, 1) := by decide +kernel
theorem dX5_send_36 : decode cX5_send 36 = .ok (.getfield 145, 3) := by decide +kernel
theorem dX5_send_39 : decode cX5_send 39 = .ok (.iload_n 2, 1) := by decide +kernel
theorem dX5_send_40 : decode cX5_send 40 = .ok (.iastore, 1) := by decide +kernel
theorem dX5_send_41 : decode cX5_send 41 = .ok (.aload_n 0, 1) := by decide +kernel
theorem dX5_send_42 : decode cX5_send 42 = .ok (.dup, 1) := by decide +kernel
theorem dX5_send_43 : decode cX5_send 43 = .ok (.getfield 145, 3) := by decide +kernel
theorem dX5_send_46 : decode cX5_send 46 = .ok (.iconst 1, 1) := by decide +kernel
theorem dX5_send_47 : decode cX5_send 47 = .ok (.iadd, 1) := by decide +kernel
theorem dX5_send_48 : decode cX5_send 48 = .ok (.putfield 145, 3) := by decide +kernel
theorem dX5_send_51 : decode cX5_send 51 = .ok (.return_, 1) := by decide +kernel
theorem dX5_made_0 : decode cX5_made 0 = .ok (.aload_n 0, 1) := by decide +kernel
theorem dX5_made_1 : decode cX5_made 1 = .ok (.getfield 135, 3) := by decide +kernel
theorem dX5_made_4 : decode cX5_made 4 = .ok (.istore 6, 2) := by decide +kernel
theorem dX5_made_6 : decode cX5_made 6 = .ok (.aload_n 0, 1) := by decide +kernel
theorem dX5_made_7 : decode cX5_made 7 = .ok (.getfield 13, 3) := by decide +kernel
theorem dX5_made_10 : decode cX5_made 10 = .ok (.iload 6, 2) := by decide +kernel
theorem dX5_made_12 : decode cX5_made 12 = .ok (.iload_n 1, 1) := by decide +kernel
theorem dX5_made_13 : decode cX5_made 13 = .ok (.iastore, 1) := by decide +kernel
theorem dX5_made_14 : decode cX5_made 14 = .ok (.aload_n 0, 1) := by decide +kernel
theorem dX5_made_15 : decode cX5_made 15 = .ok (.getfield 17, 3) := by decide +kernel
theorem dX5_made_18 : decode cX5_made 18 = .ok (.iload 6, 2) := by decide +kernel
theorem dX5_made_20 : decode cX5_made 20 = .ok (.aload_n 0, 1) := by decide +kernel
theorem dX5_made_21 : decode cX5_made 21 = .ok (.getfield 69, 3) := by decide +kernel
theorem dX5_made_24 : decode cX5_made 24 = .ok (.bipush 6, 2) := by decide +kernel
theorem dX5_made_26 : decode cX5_made 26 = .ok (.iload_n 1, 1) := by decide +kernel
theorem dX5_made_27 : decode cX5_made 27 = .ok (.imul, 1) := by decide +kernel
theorem dX5_made_28 : decode cX5_made 28 = .ok (.iload_n 1, 1) := by decide +kernel
theorem dX5_made_29 : decode cX5_made 29 = .ok (.iadd, 1) := by decide +kernel
theorem dX5_made_30 : decode cX5_made 30 = .ok (.iaload, 1) := by decide +kernel
theorem dX5_made_31 : decode cX5_made 31 = .ok (.iconst 1, 1) := by decide +kernel
theorem dX5_made_32 : decode cX5_made 32 = .ok (.iadd, 1) := by decide +kernel
theorem dX5_made_33 : decode cX5_made 33 = .ok (.iastore, 1) := by decide +kernel
theorem dX5_made_34 : decode cX5_made 34 = .ok (.aload_n 0, 1) := by decide +kernel
theorem dX5_made_35 : decode cX5_made 35 = .ok (.getfield 20, 3) := by decide +kernel
theorem dX5_made_38 : decode cX5_made 38 = .ok (.iload 6, 2) := by decide +kernel
theorem dX5_made_40 : decode cX5_made 40 = .ok (.aload_n 0, 1) := by decide +kernel
theorem dX5_made_41 : decode cX5_made 41 = .ok (.getfield 72, 3) := by decide +kernel
theorem dX5_made_44 : decode cX5_made 44 = .ok (.iload_n 1, 1) := by decide +kernel
theorem dX5_made_45 : decode cX5_made 45 = .ok (.iaload, 1) := by decide +kernel
theorem dX5_made_46 : decode cX5_made 46 = .ok (.iconst 1, 1) := by decide +kernel
theorem dX5_made_47 : decode cX5_made 47 = .ok (.iadd, 1) := by decide +kernel
theorem dX5_made_48 : decode cX5_made 48 = .ok (.iastore, 1) := by decide +kernel
theorem dX5_made_49 : decode cX5_made 49 = .ok (.aload_n 0, 1) := by decide +kernel
theorem dX5_made_50 : decode cX5_made 50 = .ok (.getfield 23, 3) := by decide +kernel
theorem dX5_made_53 : decode cX5_made 53 = .ok (.iload 6, 2) := by decide +kernel
theorem dX5_made_55 : decode cX5_made 55 = .ok (.iload_n 2, 1) := by decide +kernel
theorem dX5_made_56 : decode cX5_made 56 = .ok (.iastore, 1) := by decide +kernel
theorem dX5_made_57 : decode cX5_made 57 = .ok (.aload_n 0, 1) := by decide +kernel
theorem dX5_made_58 : decode cX5_made 58 = .ok (.getfield 26, 3) := by decide +kernel
theorem dX5_made_61 : decode cX5_made 61 = .ok (.iload 6, 2) := by decide +kernel
theorem dX5_made_63 : decode cX5_made 63 = .ok (.iload_n 3, 1) := by decide +kernel
theorem dX5_made_64 : decode cX5_made 64 = .ok (.iastore, 1) := by decide +kernel
theorem dX5_made_65 : decode cX5_made 65 = .ok (.aload_n 0, 1) := by decide +kernel
theorem dX5_made_66 : decode cX5_made 66 = .ok (.getfield 29, 3) := by decide +kernel
theorem dX5_made_69 : decode cX5_made 69 = .ok (.iload 6, 2) := by decide +kernel
theorem dX5_made_71 : decode cX5_made 71 = .ok (.iload_n 2, 1) := by decide +kernel
theorem dX5_made_72 : decode cX5_made 72 = .ok (.ifCond .ne 8, 3) := by decide +kernel
theorem dX5_made_75 : decode cX5_made 75 = .ok (.iload 6, 2) := by decide +kernel
theorem dX5_made_77 : decode cX5_made 77 = .ok (.goto 5, 3) := by decide +kernel
theorem dX5_made_80 : decode cX5_made 80 = .ok (.iload 4, 2) := by decide +kernel
theorem dX5_made_82 : decode cX5_made 82 = .ok (.iastore, 1) := by decide +kernel
theorem dX5_made_83 : decode cX5_made 83 = .ok (.aload_n 0, 1) := by decide +kernel
theorem dX5_made_84 : decode cX5_made 84 = .ok (.getfield 32, 3) := by decide +kernel
theorem dX5_made_87 : decode cX5_made 87 = .ok (.iload 6, 2) := by decide +kernel
theorem dX5_made_89 : decode cX5_made 89 = .ok (.iload 5, 2) := by decide +kernel
theorem dX5_made_91 : decode cX5_made 91 = .ok (.iastore, 1) := by decide +kernel
theorem dX5_made_92 : decode cX5_made 92 = .ok (.aload_n 0, 1) := by decide +kernel
theorem dX5_made_93 : decode cX5_made 93 = .ok (.getfield 35, 3) := by decide +kernel
theorem dX5_made_96 : decode cX5_made 96 = .ok (.iload 6, 2) := by decide +kernel
theorem dX5_made_98 : decode cX5_made 98 = .ok (.iconst 0, 1) := by decide +kernel
theorem dX5_made_99 : decode cX5_made 99 = .ok (.bastore, 1) := by decide +kernel
theorem dX5_made_100 : decode cX5_made 100 = .ok (.aload_n 0, 1) := by decide +kernel
theorem dX5_made_101 : decode cX5_made 101 = .ok (.getfield 39, 3) := by decide +kernel
theorem dX5_made_104 : decode cX5_made 104 = .ok (.iload 6, 2) := by decide +kernel
theorem dX5_made_106 : decode cX5_made 106 = .ok (.iconst 0, 1) := by decide +kernel
theorem dX5_made_107 : decode cX5_made 107 = .ok (.bastore, 1) := by decide +kernel
theorem dX5_made_108 : decode cX5_made 108 = .ok (.iload_n 2, 1) := by decide +kernel
theorem dX5_made_109 : decode cX5_made 109 = .ok (.ifCond .ne 98, 3) := by decide +kernel
theorem dX5_made_112 : decode cX5_made 112 = .ok (.aload_n 0, 1) := by decide +kernel
theorem dX5_made_113 : decode cX5_made 113 = .ok (.getfield 42, 3) := by decide +kernel
theorem dX5_made_116 : decode cX5_made 116 = .ok (.iload 6, 2) := by decide +kernel
theorem dX5_made_118 : decode cX5_made 118 = .ok (.aload_n 0, 1) := by decide +kernel
theorem dX5_made_119 : decode cX5_made 119 = .ok (.getfield 116, 3) := by decide +kernel
theorem dX5_made_122 : decode cX5_made 122 = .ok (.iastore, 1) := by decide +kernel
theorem dX5_made_123 : decode cX5_made 123 = .ok (.iconst 0, 1) := by decide +kernel
theorem dX5_made_124 : decode cX5_made 124 = .ok (.istore 7, 2) := by decide +kernel
theorem dX5_made_126 : decode cX5_made 126 = .ok (.iload 7, 2) := by decide +kernel
theorem dX5_made_128 : decode cX5_made 128 = .ok (.aload_n 0, 1) := by decide +kernel
theorem dX5_made_129 : decode cX5_made 129 = .ok (.getfield 116, 3) := by decide +kernel
theorem dX5_made_132 : decode cX5_made 132 = .ok (.if_icmp .ge 69, 3) := by decide +kernel
theorem dX5_made_135 : decode cX5_made 135 = .ok (.aload_n 0, 1) := by decide +kernel
theorem dX5_made_136 : decode cX5_made 136 = .ok (.getfield 45, 3) := by decide +kernel
theorem dX5_made_139 : decode cX5_made 139 = .ok (.bipush 12, 2) := by decide +kernel
theorem dX5_made_141 : decode cX5_made 141 = .ok (.iload 6, 2) := by decide +kernel
theorem dX5_made_143 : decode cX5_made 143 = .ok (.imul, 1) := by decide +kernel
theorem dX5_made_144 : decode cX5_made 144 = .ok (.iload 7, 2) := by decide +kernel
theorem dX5_made_146 : decode cX5_made 146 = .ok (.iadd, 1) := by decide +kernel
theorem dX5_made_147 : decode cX5_made 147 = .ok (.aload_n 0, 1) := by decide +kernel
theorem dX5_made_148 : decode cX5_made 148 = .ok (.getfield 87, 3) := by decide +kernel
theorem dX5_made_151 : decode cX5_made 151 = .ok (.iload 7, 2) := by decide +kernel
theorem dX5_made_153 : decode cX5_made 153 = .ok (.iaload, 1) := by decide +kernel
theorem dX5_made_154 : decode cX5_made 154 = .ok (.iastore, 1) := by decide +kernel
theorem dX5_made_155 : decode cX5_made 155 = .ok (.aload_n 0, 1) := by decide +kernel
theorem dX5_made_156 : decode cX5_made 156 = .ok (.getfield 48, 3) := by decide +kernel
theorem dX5_made_159 : decode cX5_made 159 = .ok (.bipush 12, 2) := by decide +kernel
theorem dX5_made_161 : decode cX5_made 161 = .ok (.iload 6, 2) := by decide +kernel
theorem dX5_made_163 : decode cX5_made 163 = .ok (.imul, 1) := by decide +kernel
theorem dX5_made_164 : decode cX5_made 164 = .ok (.iload 7, 2) := by decide +kernel
theorem dX5_made_166 : decode cX5_made 166 = .ok (.iadd, 1) := by decide +kernel
theorem dX5_made_167 : decode cX5_made 167 = .ok (.aload_n 0, 1) := by decide +kernel
theorem dX5_made_168 : decode cX5_made 168 = .ok (.getfield 90, 3) := by decide +kernel
theorem dX5_made_171 : decode cX5_made 171 = .ok (.iload 7, 2) := by decide +kernel
theorem dX5_made_173 : decode cX5_made 173 = .ok (.iaload, 1) := by decide +kernel
theorem dX5_made_174 : decode cX5_made 174 = .ok (.iastore, 1) := by decide +kernel
theorem dX5_made_175 : decode cX5_made 175 = .ok (.aload_n 0, 1) := by decide +kernel
theorem dX5_made_176 : decode cX5_made 176 = .ok (.getfield 51, 3) := by decide +kernel
theorem dX5_made_179 : decode cX5_made 179 = .ok (.bipush 12, 2) := by decide +kernel
theorem dX5_made_181 : decode cX5_made 181 = .ok (.iload 6, 2) := by decide +kernel
theorem dX5_made_183 : decode cX5_made 183 = .ok (.imul, 1) := by decide +kernel
theorem dX5_made_184 : decode cX5_made 184 = .ok (.iload 7, 2) := by decide +kernel
theorem dX5_made_186 : decode cX5_made 186 = .ok (.iadd, 1) := by decide +kernel
theorem dX5_made_187 : decode cX5_made 187 = .ok (.aload_n 0, 1) := by decide +kernel
theorem dX5_made_188 : decode cX5_made 188 = .ok (.getfield 93, 3) := by decide +kernel
theorem dX5_made_191 : decode cX5_made 191 = .ok (.iload 7, 2) := by decide +kernel
theorem dX5_made_193 : decode cX5_made 193 = .ok (.iaload, 1) := by decide +kernel
theorem dX5_made_194 : decode cX5_made 194 = .ok (.iastore, 1) := by decide +kernel
theorem dX5_made_195 : decode cX5_made 195 = .ok (.iinc 7 1, 3) := by decide +kernel
theorem dX5_made_198 : decode cX5_made 198 = .ok (.goto (-72), 3) := by decide +kernel
theorem dX5_made_201 : decode cX5_made 201 = .ok (.aload_n 0, 1) := by decide +kernel
theorem dX5_made_202 : decode cX5_made 202 = .ok (.iload 6, 2) := by decide +kernel
theorem dX5_made_204 : decode cX5_made 204 = .ok (.invokevirtual 151, 3) := by decide +kernel
theorem dX5_made_207 : decode cX5_made 207 = .ok (.aload_n 0, 1) := by decide +kernel
theorem dX5_made_208 : decode cX5_made 208 = .ok (.dup, 1) := by decide +kernel
theorem dX5_made_209 : decode cX5_made 209 = .ok (.getfield 135, 3) := by decide +kernel
theorem dX5_made_212 : decode cX5_made 212 = .ok (.iconst 1, 1) := by decide +kernel
theorem dX5_made_213 : decode cX5_made 213 = .ok (.iadd, 1) := by decide +kernel
theorem dX5_made_214 : decode cX5_made 214 = .ok (.putfield 135, 3) := by decide +kernel
theorem dX5_made_217 : decode cX5_made 217 = .ok (.aload_n 0, 1) := by decide +kernel
theorem dX5_made_218 : decode cX5_made 218 = .ok (.iload_n 1, 1) := by decide +kernel
theorem dX5_made_219 : decode cX5_made 219 = .ok (.iload 6, 2) := by decide +kernel
theorem dX5_made_221 : decode cX5_made 221 = .ok (.invokevirtual 141, 3) := by decide +kernel
theorem dX5_made_224 : decode cX5_made 224 = .ok (.aload_n 0, 1) := by decide +kernel
theorem dX5_made_225 : decode cX5_made 225 = .ok (.iload_n 1, 1) := by decide +kernel
theorem dX5_made_226 : decode cX5_made 226 = .ok (.invokevirtual 155, 3) := by decide +kernel
theorem dX5_made_229 : decode cX5_made 229 = .ok (.istore 7, 2) := by decide +kernel
theorem dX5_made_231 : decode cX5_made 231 = .ok (.iconst 0, 1) := by decide +kernel
theorem dX5_made_232 : decode cX5_made 232 = .ok (.istore 8, 2) := by decide +kernel
theorem dX5_made_234 : decode cX5_made 234 = .ok (.iload 8, 2) := by decide +kernel
theorem dX5_made_236 : decode cX5_made 236 = .ok (.bipush 6, 2) := by decide +kernel
theorem dX5_made_238 : decode cX5_made 238 = .ok (.if_icmp .ge 23, 3) := by decide +kernel
theorem dX5_made_241 : decode cX5_made 241 = .ok (.iload 8, 2) := by decide +kernel
theorem dX5_made_243 : decode cX5_made 243 = .ok (.iload_n 1, 1) := by decide +kernel
theorem dX5_made_244 : decode cX5_made 244 = .ok (.if_icmp .eq 11, 3) := by decide +kernel
theorem dX5_made_247 : decode cX5_made 247 = .ok (.aload_n 0, 1) := by decide +kernel
theorem dX5_made_248 : decode cX5_made 248 = .ok (.iload 6, 2) := by decide +kernel
theorem dX5_made_250 : decode cX5_made 250 = .ok (.iload 8, 2) := by decide +kernel
theorem dX5_made_252 : decode cX5_made 252 = .ok (.invokevirtual 159, 3) := by decide +kernel
theorem dX5_made_255 : decode cX5_made 255 = .ok (.iinc 8 1, 3) := by decide +kernel
theorem dX5_made_258 : decode cX5_made 258 = .ok (.goto (-24), 3) := by decide +kernel
theorem dX5_made_261 : decode cX5_made 261 = .ok (.iload 6, 2) := by decide +kernel
theorem dX5_made_263 : decode cX5_made 263 = .ok (.ireturn, 1) := by decide +kernel
theorem dX5_typeOne_0 : decode cX5_typeOne 0 = .ok (.aload_n 0, 1) := by decide +kernel
theorem dX5_typeOne_1 : decode cX5_typeOne 1 = .ok (.getfield 135, 3) := by decide +kernel
theorem dX5_typeOne_4 : decode cX5_typeOne 4 = .ok (.sipush 400, 3) := by decide +kernel
theorem dX5_typeOne_7 : decode cX5_typeOne 7 = .ok (.if_icmp .ne 6, 3) := by decide +kernel
theorem dX5_typeOne_10 : decode cX5_typeOne 10 = .ok (.bipush (-104), 2) := by decide +kernel
theorem dX5_typeOne_12 : decode cX5_typeOne 12 = .ok (.ireturn, 1) := by decide +kernel
theorem dX5_typeOne_13 : decode cX5_typeOne 13 = .ok (.iload_n 2, 1) := by decide +kernel
theorem dX5_typeOne_14 : decode cX5_typeOne 14 = .ok (.ifCond .ne 7, 3) := by decide +kernel
theorem dX5_typeOne_17 : decode cX5_typeOne 17 = .ok (.iconst (-1), 1) := by decide +kernel
theorem dX5_typeOne_18 : decode cX5_typeOne 18 = .ok (.goto 11, 3) := by decide +kernel
theorem dX5_typeOne_21 : decode cX5_typeOne 21 = .ok (.aload_n 0, 1) := by decide +kernel
theorem dX5_typeOne_22 : decode cX5_typeOne 22 = .ok (.iload_n 1, 1) := by decide +kernel
theorem dX5_typeOne_23 : decode cX5_typeOne 23 = .ok (.iload_n 2, 1) := by decide +kernel
theorem dX5_typeOne_24 : decode cX5_typeOne 24 = .ok (.iconst 1, 1) := by decide +kernel
theorem dX5_typeOne_25 : decode cX5_typeOne 25 = .ok (.isub, 1) := by decide +kernel
theorem dX5_typeOne_26 : decode cX5_typeOne 26 = .ok (.invokevirtual 162, 3) := by decide +kernel
theorem dX5_typeOne_29 : decode cX5_typeOne 29 = .ok (.istore 4, 2) := by decide +kernel
theorem dX5_typeOne_31 : decode cX5_typeOne 31 = .ok (.aload_n 0, 1) := by decide +kernel
theorem dX5_typeOne_32 : decode cX5_typeOne 32 = .ok (.iload_n 1, 1) := by decide +kernel
theorem dX5_typeOne_33 : decode cX5_typeOne 33 = .ok (.aload_n 0, 1) := by decide +kernel
theorem dX5_typeOne_34 : decode cX5_typeOne 34 = .ok (.getfield 69, 3) := by decide +kernel
theorem dX5_typeOne_37 : decode cX5_typeOne 37 = .ok (.bipush 6, 2) := by decide +kernel
theorem dX5_typeOne_39 : decode cX5_typeOne 39 = .ok (.iload_n 1, 1) := by decide +kernel
theorem dX5_typeOne_40 : decode cX5_typeOne 40 = .ok (.imul, 1) := by decide +kernel
theorem dX5_typeOne_41 : decode cX5_typeOne 41 = .ok (.iload_n 1, 1) := by decide +kernel
theorem dX5_typeOne_42 : decode cX5_typeOne 42 = .ok (.iadd, 1) := by decide +kernel
theorem dX5_typeOne_43 : decode cX5_typeOne 43 = .ok (.iaload, 1) := by decide +kernel
theorem dX5_typeOne_44 : decode cX5_typeOne 44 = .ok (.iconst 1, 1) := by decide +kernel
theorem dX5_typeOne_45 : decode cX5_typeOne 45 = .ok (.iadd, 1) := by decide +kernel
theorem dX5_typeOne_46 : decode cX5_typeOne 46 = .ok (.iload 4, 2) := by decide +kernel
theorem dX5_typeOne_48 : decode cX5_typeOne 48 = .ok (.aload_n 0, 1) := by decide +kernel
theorem dX5_typeOne_49 : decode cX5_typeOne 49 = .ok (.iload_n 1, 1) := by decide +kernel
theorem dX5_typeOne_50 : decode cX5_typeOne 50 = .ok (.iload 4, 2) := by decide +kernel
theorem dX5_typeOne_52 : decode cX5_typeOne 52 = .ok (.invokevirtual 166, 3) := by decide +kernel
theorem dX5_typeOne_55 : decode cX5_typeOne 55 = .ok (.invokevirtual 169, 3) := by decide +kernel
theorem dX5_typeOne_58 : decode cX5_typeOne 58 = .ok (.ifCond .ne 6, 3) := by decide +kernel
theorem dX5_typeOne_61 : decode cX5_typeOne 61 = .ok (.bipush (-104), 2) := by decide +kernel
theorem dX5_typeOne_63 : decode cX5_typeOne 63 = .ok (.ireturn, 1) := by decide +kernel
theorem dX5_typeOne_64 : decode cX5_typeOne 64 = .ok (.aload_n 0, 1) := by decide +kernel
theorem dX5_typeOne_65 : decode cX5_typeOne 65 = .ok (.iload_n 1, 1) := by decide +kernel
theorem dX5_typeOne_66 : decode cX5_typeOne 66 = .ok (.iconst 0, 1) := by decide +kernel
theorem dX5_typeOne_67 : decode cX5_typeOne 67 = .ok (.iload_n 3, 1) := by decide +kernel
theorem dX5_typeOne_68 : decode cX5_typeOne 68 = .ok (.iconst (-1), 1) := by decide +kernel
theorem dX5_typeOne_69 : decode cX5_typeOne 69 = .ok (.iconst (-1), 1) := by decide +kernel
theorem dX5_typeOne_70 : decode cX5_typeOne 70 = .ok (.invokevirtual 173, 3) := by decide +kernel
theorem dX5_typeOne_73 : decode cX5_typeOne 73 = .ok (.ireturn, 1) := by decide +kernel
theorem dX5_type_0 : decode cX5_type 0 = .ok (.iload_n 1, 1) := by decide +kernel
theorem dX5_type_1 : decode cX5_type 1 = .ok (.invokestatic 102, 3) := by decide +kernel
theorem dX5_type_4 : decode cX5_type 4 = .ok (.ifCond .ne 6, 3) := by decide +kernel
theorem dX5_type_7 : decode cX5_type 7 = .ok (.bipush (-101), 2) := by decide +kernel
theorem dX5_type_9 : decode cX5_type 9 = .ok (.ireturn, 1) := by decide +kernel
theorem dX5_type_10 : decode cX5_type 10 = .ok (.iload_n 2, 1) := by decide +kernel
theorem dX5_type_11 : decode cX5_type 11 = .ok (.i2l, 1) := by decide +kernel
theorem dX5_type_12 : decode cX5_type 12 = .ok (.lconst 0, 1) := by decide +kernel
theorem dX5_type_13 : decode cX5_type 13 = .ok (.aload_n 0, 1) := by decide +kernel
theorem dX5_type_14 : decode cX5_type 14 = .ok (.iload_n 1, 1) := by decide +kernel
theorem dX5_type_15 : decode cX5_type 15 = .ok (.invokevirtual 177, 3) := by decide +kernel
theorem dX5_type_18 : decode cX5_type 18 = .ok (.i2l, 1) := by decide +kernel
theorem dX5_type_19 : decode cX5_type 19 = .ok (.invokestatic 98, 3) := by decide +kernel
theorem dX5_type_22 : decode cX5_type 22 = .ok (.ifCond .eq 17, 3) := by decide +kernel
theorem dX5_type_25 : decode cX5_type 25 = .ok (.iload_n 3, 1) := by decide +kernel
theorem dX5_type_26 : decode cX5_type 26 = .ok (.i2l, 1) := by decide +kernel
theorem dX5_type_27 : decode cX5_type 27 = .ok (.ldc2_w 180, 3) := by decide +kernel
theorem dX5_type_30 : decode cX5_type 30 = .ok (.ldc2_w 182, 3) := by decide +kernel
theorem dX5_type_33 : decode cX5_type 33 = .ok (.invokestatic 98, 3) := by decide +kernel
theorem dX5_type_36 : decode cX5_type 36 = .ok (.ifCond .ne 6, 3) := by decide +kernel
theorem dX5_type_39 : decode cX5_type 39 = .ok (.bipush (-102), 2) := by decide +kernel
theorem dX5_type_41 : decode cX5_type 41 = .ok (.ireturn, 1) := by decide +kernel
theorem dX5_type_42 : decode cX5_type 42 = .ok (.aload_n 0, 1) := by decide +kernel
theorem dX5_type_43 : decode cX5_type 43 = .ok (.iload_n 1, 1) := by decide +kernel
theorem dX5_type_44 : decode cX5_type 44 = .ok (.iload_n 2, 1) := by decide +kernel
theorem dX5_type_45 : decode cX5_type 45 = .ok (.iload_n 3, 1) := by decide +kernel
theorem dX5_type_46 : decode cX5_type 46 = .ok (.invokevirtual 184, 3) := by decide +kernel
theorem dX5_type_49 : decode cX5_type 49 = .ok (.ireturn, 1) := by decide +kernel
theorem dX5_paste_0 : decode cX5_paste 0 = .ok (.iload_n 1, 1) := by decide +kernel
theorem dX5_paste_1 : decode cX5_paste 1 = .ok (.invokestatic 102, 3) := by decide +kernel
theorem dX5_paste_4 : decode cX5_paste 4 = .ok (.ifCond .ne 6, 3) := by decide +kernel
theorem dX5_paste_7 : decode cX5_paste 7 = .ok (.bipush (-101), 2) := by decide +kernel
theorem dX5_paste_9 : decode cX5_paste 9 = .ok (.ireturn, 1) := by decide +kernel
theorem dX5_paste_10 : decode cX5_paste 10 = .ok (.iload_n 2, 1) := by decide +kernel
theorem dX5_paste_11 : decode cX5_paste 11 = .ok (.i2l, 1) := by decide +kernel
theorem dX5_paste_12 : decode cX5_paste 12 = .ok (.lconst 0, 1) := by decide +kernel
theorem dX5_paste_13 : decode cX5_paste 13 = .ok (.aload_n 0, 1) := by decide +kernel
theorem dX5_paste_14 : decode cX5_paste 14 = .ok (.iload_n 1, 1) := by decide +kernel
theorem dX5_paste_15 : decode cX5_paste 15 = .ok (.invokevirtual 177, 3) := by decide +kernel
theorem dX5_paste_18 : decode cX5_paste 18 = .ok (.i2l, 1) := by decide +kernel
theorem dX5_paste_19 : decode cX5_paste 19 = .ok (.invokestatic 98, 3) := by decide +kernel
theorem dX5_paste_22 : decode cX5_paste 22 = .ok (.ifCond .eq 30, 3) := by decide +kernel
theorem dX5_paste_25 : decode cX5_paste 25 = .ok (.iload_n 3, 1) := by decide +kernel
theorem dX5_paste_26 : decode cX5_paste 26 = .ok (.i2l, 1) := by decide +kernel
theorem dX5_paste_27 : decode cX5_paste 27 = .ok (.lconst 1, 1) := by decide +kernel
theorem dX5_paste_28 : decode cX5_paste 28 = .ok (.ldc2_w 188, 3) := by decide +kernel
theorem dX5_paste_31 : decode cX5_paste 31 = .ok (.invokestatic 98, 3) := by decide +kernel
theorem dX5_paste_34 : decode cX5_paste 34 = .ok (.ifCond .eq 18, 3) := by decide +kernel
theorem dX5_paste_37 : decode cX5_paste 37 = .ok (.iload 4, 2) := by decide +kernel
theorem dX5_paste_39 : decode cX5_paste 39 = .ok (.i2l, 1) := by decide +kernel
theorem dX5_paste_40 : decode cX5_paste 40 = .ok (.ldc2_w 180, 3) := by decide +kernel
theorem dX5_paste_43 : decode cX5_paste 43 = .ok (.ldc2_w 182, 3) := by decide +kernel
theorem dX5_paste_46 : decode cX5_paste 46 = .ok (.invokestatic 98, 3) := by decide +kernel
theorem dX5_paste_49 : decode cX5_paste 49 = .ok (.ifCond .ne 6, 3) := by decide +kernel
theorem dX5_paste_52 : decode cX5_paste 52 = .ok (.bipush (-102), 2) := by decide +kernel
theorem dX5_paste_54 : decode cX5_paste 54 = .ok (.ireturn, 1) := by decide +kernel
theorem dX5_paste_55 : decode cX5_paste 55 = .ok (.iconst 0, 1) := by decide +kernel
theorem dX5_paste_56 : decode cX5_paste 56 = .ok (.istore 5, 2) := by decide +kernel
theorem dX5_paste_58 : decode cX5_paste 58 = .ok (.iload 5, 2) := by decide +kernel
theorem dX5_paste_60 : decode cX5_paste 60 = .ok (.iload_n 3, 1) := by decide +kernel
theorem dX5_paste_61 : decode cX5_paste 61 = .ok (.if_icmp .ge 40, 3) := by decide +kernel
theorem dX5_paste_64 : decode cX5_paste 64 = .ok (.aload_n 0, 1) := by decide +kernel
theorem dX5_paste_65 : decode cX5_paste 65 = .ok (.iload_n 1, 1) := by decide +kernel
theorem dX5_paste_66 : decode cX5_paste 66 = .ok (.iload_n 2, 1) := by decide +kernel
theorem dX5_paste_67 : decode cX5_paste 67 = .ok (.iload 5, 2) := by decide +kernel
theorem dX5_paste_69 : decode cX5_paste 69 = .ok (.iadd, 1) := by decide +kernel
theorem dX5_paste_70 : decode cX5_paste 70 = .ok (.bipush 32, 2) := by decide +kernel
theorem dX5_paste_72 : decode cX5_paste 72 = .ok (.iload 4, 2) := by decide +kernel
theorem dX5_paste_74 : decode cX5_paste 74 = .ok (.bipush 32, 2) := by decide +kernel
theorem dX5_paste_76 : decode cX5_paste 76 = .ok (.isub, 1) := by decide +kernel
theorem dX5_paste_77 : decode cX5_paste 77 = .ok (.iload 5, 2) := by decide +kernel
theorem dX5_paste_79 : decode cX5_paste 79 = .ok (.iadd, 1) := by decide +kernel
theorem dX5_paste_80 : decode cX5_paste 80 = .ok (.bipush 95, 2) := by decide +kernel
theorem dX5_paste_82 : decode cX5_paste 82 = .ok (.irem, 1) := by decide +kernel
theorem dX5_paste_83 : decode cX5_paste 83 = .ok (.iadd, 1) := by decide +kernel
theorem dX5_paste_84 : decode cX5_paste 84 = .ok (.invokevirtual 184, 3) := by decide +kernel
theorem dX5_paste_87 : decode cX5_paste 87 = .ok (.bipush (-104), 2) := by decide +kernel
theorem dX5_paste_89 : decode cX5_paste 89 = .ok (.if_icmp .ne 6, 3) := by decide +kernel
theorem dX5_paste_92 : decode cX5_paste 92 = .ok (.iload 5, 2) := by decide +kernel
theorem dX5_paste_94 : decode cX5_paste 94 = .ok (.ireturn, 1) := by decide +kernel
theorem dX5_paste_95 : decode cX5_paste 95 = .ok (.iinc 5 1, 3) := by decide +kernel
theorem dX5_paste_98 : decode cX5_paste 98 = .ok (.goto (-40), 3) := by decide +kernel
theorem dX5_paste_101 : decode cX5_paste 101 = .ok (.iload_n 3, 1) := by decide +kernel
theorem dX5_paste_102 : decode cX5_paste 102 = .ok (.ireturn, 1) := by decide +kernel
theorem dX5_erase_0 : decode cX5_erase 0 = .ok (.iload_n 1, 1) := by decide +kernel
theorem dX5_erase_1 : decode cX5_erase 1 = .ok (.invokestatic 102, 3) := by decide +kernel
theorem dX5_erase_4 : decode cX5_erase 4 = .ok (.ifCond .ne 6, 3) := by decide +kernel
theorem dX5_erase_7 : decode cX5_erase 7 = .ok (.bipush (-101), 2) := by decide +kernel
theorem dX5_erase_9 : decode cX5_erase 9 = .ok (.ireturn, 1) := by decide +kernel
theorem dX5_erase_10 : decode cX5_erase 10 = .ok (.iload_n 2, 1) := by decide +kernel
theorem dX5_erase_11 : decode cX5_erase 11 = .ok (.i2l, 1) := by decide +kernel
theorem dX5_erase_12 : decode cX5_erase 12 = .ok (.lconst 0, 1) := by decide +kernel
theorem dX5_erase_13 : decode cX5_erase 13 = .ok (.aload_n 0, 1) := by decide +kernel
theorem dX5_erase_14 : decode cX5_erase 14 = .ok (.iload_n 1, 1) := by decide +kernel
theorem dX5_erase_15 : decode cX5_erase 15 = .ok (.invokevirtual 177, 3) := by decide +kernel
theorem dX5_erase_18 : decode cX5_erase 18 = .ok (.iconst 1, 1) := by decide +kernel
theorem dX5_erase_19 : decode cX5_erase 19 = .ok (.isub, 1) := by decide +kernel
theorem dX5_erase_20 : decode cX5_erase 20 = .ok (.i2l, 1) := by decide +kernel
theorem dX5_erase_21 : decode cX5_erase 21 = .ok (.invokestatic 98, 3) := by decide +kernel
theorem dX5_erase_24 : decode cX5_erase 24 = .ok (.ifCond .ne 6, 3) := by decide +kernel
theorem dX5_erase_27 : decode cX5_erase 27 = .ok (.bipush (-102), 2) := by decide +kernel
theorem dX5_erase_29 : decode cX5_erase 29 = .ok (.ireturn, 1) := by decide +kernel
theorem dX5_erase_30 : decode cX5_erase 30 = .ok (.aload_n 0, 1) := by decide +kernel
theorem dX5_erase_31 : decode cX5_erase 31 = .ok (.getfield 135, 3) := by decide +kernel
theorem dX5_erase_34 : decode cX5_erase 34 = .ok (.sipush 400, 3) := by decide +kernel
theorem dX5_erase_37 : decode cX5_erase 37 = .ok (.if_icmp .ne 8, 3) := by decide +kernel
theorem dX5_erase_40 : decode cX5_erase 40 = .ok (.bipush (-104), 2) := by decide +kernel
theorem dX5_erase_42 : decode cX5_erase 42 = .ok (.goto 17, 3) := by decide +kernel
theorem dX5_erase_45 : decode cX5_erase 45 = .ok (.aload_n 0, 1) := by decide +kernel
theorem dX5_erase_46 : decode cX5_erase 46 = .ok (.iload_n 1, 1) := by decide +kernel
theorem dX5_erase_47 : decode cX5_erase 47 = .ok (.iconst 1, 1) := by decide +kernel
theorem dX5_erase_48 : decode cX5_erase 48 = .ok (.iconst 0, 1) := by decide +kernel
theorem dX5_erase_49 : decode cX5_erase 49 = .ok (.aload_n 0, 1) := by decide +kernel
theorem dX5_erase_50 : decode cX5_erase 50 = .ok (.iload_n 1, 1) := by decide +kernel
theorem dX5_erase_51 : decode cX5_erase 51 = .ok (.iload_n 2, 1) := by decide +kernel
theorem dX5_erase_52 : decode cX5_erase 52 = .ok (.invokevirtual 162, 3) := by decide +kernel
theorem dX5_erase_55 : decode cX5_erase 55 = .ok (.iconst (-1), 1) := by decide +kernel
theorem dX5_erase_56 : decode cX5_erase 56 = .ok (.invokevirtual 173, 3) := by decide +kernel
theorem dX5_erase_59 : decode cX5_erase 59 = .ok (.ireturn, 1) := by decide +kernel
theorem dX5_undo_0 : decode cX5_undo 0 = .ok (.iload_n 1, 1) := by decide +kernel
theorem dX5_undo_1 : decode cX5_undo 1 = .ok (.invokestatic 102, 3) := by decide +kernel
theorem dX5_undo_4 : decode cX5_undo 4 = .ok (.ifCond .ne 6, 3) := by decide +kernel
theorem dX5_undo_7 : decode cX5_undo 7 = .ok (.bipush (-101), 2) := by decide +kernel
theorem dX5_undo_9 : decode cX5_undo 9 = .ok (.ireturn, 1) := by decide +kernel
theorem dX5_undo_10 : decode cX5_undo 10 = .ok (.aload_n 0, 1) := by decide +kernel
theorem dX5_undo_11 : decode cX5_undo 11 = .ok (.getfield 135, 3) := by decide +kernel
theorem dX5_undo_14 : decode cX5_undo 14 = .ok (.iconst 1, 1) := by decide +kernel
theorem dX5_undo_15 : decode cX5_undo 15 = .ok (.isub, 1) := by decide +kernel
theorem dX5_undo_16 : decode cX5_undo 16 = .ok (.istore_n 2, 1) := by decide +kernel
theorem dX5_undo_17 : decode cX5_undo 17 = .ok (.iload_n 2, 1) := by decide +kernel
theorem dX5_undo_18 : decode cX5_undo 18 = .ok (.ifCond .lt 56, 3) := by decide +kernel
theorem dX5_undo_21 : decode cX5_undo 21 = .ok (.aload_n 0, 1) := by decide +kernel
theorem dX5_undo_22 : decode cX5_undo 22 = .ok (.getfield 13, 3) := by decide +kernel
theorem dX5_undo_25 : decode cX5_undo 25 = .ok (.iload_n 2, 1) := by decide +kernel
theorem dX5_undo_26 : decode cX5_undo 26 = .ok (.iaload, 1) := by decide +kernel
theorem dX5_undo_27 : decode cX5_undo 27 = .ok (.iload_n 1, 1) := by decide +kernel
theorem dX5_undo_28 : decode cX5_undo 28 = .ok (.if_icmp .ne 40, 3) := by decide +kernel
theorem dX5_undo_31 : decode cX5_undo 31 = .ok (.aload_n 0, 1) := by decide +kernel
theorem dX5_undo_32 : decode cX5_undo 32 = .ok (.getfield 23, 3) := by decide +kernel
theorem dX5_undo_35 : decode cX5_undo 35 = .ok (.iload_n 2, 1) := by decide +kernel
theorem dX5_undo_36 : decode cX5_undo 36 = .ok (.iaload, 1) := by decide +kernel
theorem dX5_undo_37 : decode cX5_undo 37 = .ok (.ifCond .eq 13, 3) := by decide +kernel
theorem dX5_undo_40 : decode cX5_undo 40 = .ok (.aload_n 0, 1) := by decide +kernel
theorem dX5_undo_41 : decode cX5_undo 41 = .ok (.getfield 23, 3) := by decide +kernel
theorem dX5_undo_44 : decode cX5_undo 44 = .ok (.iload_n 2, 1) := by decide +kernel
theorem dX5_undo_45 : decode cX5_undo 45 = .ok (.iaload, 1) := by decide +kernel
theorem dX5_undo_46 : decode cX5_undo 46 = .ok (.iconst 1, 1) := by decide +kernel
theorem dX5_undo_47 : decode cX5_undo 47 = .ok (.if_icmp .ne 21, 3) := by decide +kernel
theorem dX5_undo_50 : decode cX5_undo 50 = .ok (.aload_n 0, 1) := by decide +kernel
theorem dX5_undo_51 : decode cX5_undo 51 = .ok (.getfield 35, 3) := by decide +kernel
theorem dX5_undo_54 : decode cX5_undo 54 = .ok (.iload_n 2, 1) := by decide +kernel
theorem dX5_undo_55 : decode cX5_undo 55 = .ok (.baload, 1) := by decide +kernel
theorem dX5_undo_56 : decode cX5_undo 56 = .ok (.ifCond .ne 12, 3) := by decide +kernel
theorem dX5_undo_59 : decode cX5_undo 59 = .ok (.aload_n 0, 1) := by decide +kernel
theorem dX5_undo_60 : decode cX5_undo 60 = .ok (.getfield 39, 3) := by decide +kernel
theorem dX5_undo_63 : decode cX5_undo 63 = .ok (.iload_n 2, 1) := by decide +kernel
theorem dX5_undo_64 : decode cX5_undo 64 = .ok (.baload, 1) := by decide +kernel
theorem dX5_undo_65 : decode cX5_undo 65 = .ok (.ifCond .eq 9, 3) := by decide +kernel
theorem dX5_undo_68 : decode cX5_undo 68 = .ok (.iinc 2 (-1), 3) := by decide +kernel
theorem dX5_undo_71 : decode cX5_undo 71 = .ok (.goto (-54), 3) := by decide +kernel
theorem dX5_undo_74 : decode cX5_undo 74 = .ok (.iload_n 2, 1) := by decide +kernel
theorem dX5_undo_75 : decode cX5_undo 75 = .ok (.ifCond .ge 6, 3) := by decide +kernel
theorem dX5_undo_78 : decode cX5_undo 78 = .ok (.bipush (-103), 2) := by decide +kernel
theorem dX5_undo_80 : decode cX5_undo 80 = .ok (.ireturn, 1) := by decide +kernel
theorem dX5_undo_81 : decode cX5_undo 81 = .ok (.aload_n 0, 1) := by decide +kernel
theorem dX5_undo_82 : decode cX5_undo 82 = .ok (.getfield 135, 3) := by decide +kernel
theorem dX5_undo_85 : decode cX5_undo 85 = .ok (.sipush 400, 3) := by decide +kernel
theorem dX5_undo_88 : decode cX5_undo 88 = .ok (.if_icmp .ne 6, 3) := by decide +kernel
theorem dX5_undo_91 : decode cX5_undo 91 = .ok (.bipush (-104), 2) := by decide +kernel
theorem dX5_undo_93 : decode cX5_undo 93 = .ok (.ireturn, 1) := by decide +kernel
theorem dX5_undo_94 : decode cX5_undo 94 = .ok (.aload_n 0, 1) := by decide +kernel
theorem dX5_undo_95 : decode cX5_undo 95 = .ok (.iload_n 1, 1) := by decide +kernel
theorem dX5_undo_96 : decode cX5_undo 96 = .ok (.aload_n 0, 1) := by decide +kernel
theorem dX5_undo_97 : decode cX5_undo 97 = .ok (.getfield 23, 3) := by decide +kernel
theorem dX5_undo_100 : decode cX5_undo 100 = .ok (.iload_n 2, 1) := by decide +kernel
theorem dX5_undo_101 : decode cX5_undo 101 = .ok (.iaload, 1) := by decide +kernel
theorem dX5_undo_102 : decode cX5_undo 102 = .ok (.ifCond .ne 7, 3) := by decide +kernel
theorem dX5_undo_105 : decode cX5_undo 105 = .ok (.iconst 1, 1) := by decide +kernel
theorem dX5_undo_106 : decode cX5_undo 106 = .ok (.goto 4, 3) := by decide +kernel
theorem dX5_undo_109 : decode cX5_undo 109 = .ok (.iconst 2, 1) := by decide +kernel
theorem dX5_undo_110 : decode cX5_undo 110 = .ok (.iconst 0, 1) := by decide +kernel
theorem dX5_undo_111 : decode cX5_undo 111 = .ok (.aload_n 0, 1) := by decide +kernel
theorem dX5_undo_112 : decode cX5_undo 112 = .ok (.getfield 29, 3) := by decide +kernel
theorem dX5_undo_115 : decode cX5_undo 115 = .ok (.iload_n 2, 1) := by decide +kernel
theorem dX5_undo_116 : decode cX5_undo 116 = .ok (.iaload, 1) := by decide +kernel
theorem dX5_undo_117 : decode cX5_undo 117 = .ok (.iconst (-1), 1) := by decide +kernel
theorem dX5_undo_118 : decode cX5_undo 118 = .ok (.invokevirtual 173, 3) := by decide +kernel
theorem dX5_undo_121 : decode cX5_undo 121 = .ok (.istore_n 3, 1) := by decide +kernel
theorem dX5_undo_122 : decode cX5_undo 122 = .ok (.aload_n 0, 1) := by decide +kernel
theorem dX5_undo_123 : decode cX5_undo 123 = .ok (.getfield 35, 3) := by decide +kernel
theorem dX5_undo_126 : decode cX5_undo 126 = .ok (.iload_n 2, 1) := by decide +kernel
theorem dX5_undo_127 : decode cX5_undo 127 = .ok (.iconst 1, 1) := by decide +kernel
theorem dX5_undo_128 : decode cX5_undo 128 = .ok (.bastore, 1) := by decide +kernel
theorem dX5_undo_129 : decode cX5_undo 129 = .ok (.aload_n 0, 1) := by decide +kernel
theorem dX5_undo_130 : decode cX5_undo 130 = .ok (.getfield 39, 3) := by decide +kernel
theorem dX5_undo_133 : decode cX5_undo 133 = .ok (.iload_n 3, 1) := by decide +kernel
theorem dX5_undo_134 : decode cX5_undo 134 = .ok (.iconst 1, 1) := by decide +kernel
theorem dX5_undo_135 : decode cX5_undo 135 = .ok (.bastore, 1) := by decide +kernel
theorem dX5_undo_136 : decode cX5_undo 136 = .ok (.iload_n 3, 1) := by decide +kernel
theorem dX5_undo_137 : decode cX5_undo 137 = .ok (.ireturn, 1) := by decide +kernel
theorem dX5_mark_0 : decode cX5_mark 0 = .ok (.iload_n 1, 1) := by decide +kernel
theorem dX5_mark_1 : decode cX5_mark 1 = .ok (.invokestatic 102, 3) := by decide +kernel
theorem dX5_mark_4 : decode cX5_mark 4 = .ok (.ifCond .ne 6, 3) := by decide +kernel
theorem dX5_mark_7 : decode cX5_mark 7 = .ok (.bipush (-101), 2) := by decide +kernel
theorem dX5_mark_9 : decode cX5_mark 9 = .ok (.ireturn, 1) := by decide +kernel
theorem dX5_mark_10 : decode cX5_mark 10 = .ok (.iload_n 2, 1) := by decide +kernel
theorem dX5_mark_11 : decode cX5_mark 11 = .ok (.i2l, 1) := by decide +kernel
theorem dX5_mark_12 : decode cX5_mark 12 = .ok (.lconst 0, 1) := by decide +kernel
theorem dX5_mark_13 : decode cX5_mark 13 = .ok (.iload_n 3, 1) := by decide +kernel
theorem dX5_mark_14 : decode cX5_mark 14 = .ok (.i2l, 1) := by decide +kernel
theorem dX5_mark_15 : decode cX5_mark 15 = .ok (.invokestatic 98, 3) := by decide +kernel
theorem dX5_mark_18 : decode cX5_mark 18 = .ok (.ifCond .eq 33, 3) := by decide +kernel
theorem dX5_mark_21 : decode cX5_mark 21 = .ok (.iload_n 3, 1) := by decide +kernel
theorem dX5_mark_22 : decode cX5_mark 22 = .ok (.i2l, 1) := by decide +kernel
theorem dX5_mark_23 : decode cX5_mark 23 = .ok (.lconst 0, 1) := by decide +kernel
theorem dX5_mark_24 : decode cX5_mark 24 = .ok (.aload_n 0, 1) := by decide +kernel
theorem dX5_mark_25 : decode cX5_mark 25 = .ok (.iload_n 1, 1) := by decide +kernel
theorem dX5_mark_26 : decode cX5_mark 26 = .ok (.invokevirtual 177, 3) := by decide +kernel
theorem dX5_mark_29 : decode cX5_mark 29 = .ok (.iconst 1, 1) := by decide +kernel
theorem dX5_mark_30 : decode cX5_mark 30 = .ok (.isub, 1) := by decide +kernel
theorem dX5_mark_31 : decode cX5_mark 31 = .ok (.i2l, 1) := by decide +kernel
theorem dX5_mark_32 : decode cX5_mark 32 = .ok (.invokestatic 98, 3) := by decide +kernel
theorem dX5_mark_35 : decode cX5_mark 35 = .ok (.ifCond .eq 16, 3) := by decide +kernel
theorem dX5_mark_38 : decode cX5_mark 38 = .ok (.iload 4, 2) := by decide +kernel
theorem dX5_mark_40 : decode cX5_mark 40 = .ok (.i2l, 1) := by decide +kernel
theorem dX5_mark_41 : decode cX5_mark 41 = .ok (.lconst 0, 1) := by decide +kernel
theorem dX5_mark_42 : decode cX5_mark 42 = .ok (.ldc2_w 190, 3) := by decide +kernel
theorem dX5_mark_45 : decode cX5_mark 45 = .ok (.invokestatic 98, 3) := by decide +kernel
theorem dX5_mark_48 : decode cX5_mark 48 = .ok (.ifCond .ne 6, 3) := by decide +kernel
theorem dX5_mark_51 : decode cX5_mark 51 = .ok (.bipush (-102), 2) := by decide +kernel
theorem dX5_mark_53 : decode cX5_mark 53 = .ok (.ireturn, 1) := by decide +kernel
theorem dX5_mark_54 : decode cX5_mark 54 = .ok (.aload_n 0, 1) := by decide +kernel
theorem dX5_mark_55 : decode cX5_mark 55 = .ok (.getfield 135, 3) := by decide +kernel
theorem dX5_mark_58 : decode cX5_mark 58 = .ok (.sipush 400, 3) := by decide +kernel
theorem dX5_mark_61 : decode cX5_mark 61 = .ok (.if_icmp .ne 8, 3) := by decide +kernel
theorem dX5_mark_64 : decode cX5_mark 64 = .ok (.bipush (-104), 2) := by decide +kernel
theorem dX5_mark_66 : decode cX5_mark 66 = .ok (.goto 35, 3) := by decide +kernel
theorem dX5_mark_69 : decode cX5_mark 69 = .ok (.aload_n 0, 1) := by decide +kernel
theorem dX5_mark_70 : decode cX5_mark 70 = .ok (.iload_n 1, 1) := by decide +kernel
theorem dX5_mark_71 : decode cX5_mark 71 = .ok (.iconst 3, 1) := by decide +kernel
theorem dX5_mark_72 : decode cX5_mark 72 = .ok (.iload 4, 2) := by decide +kernel
theorem dX5_mark_74 : decode cX5_mark 74 = .ok (.iload 5, 2) := by decide +kernel
theorem dX5_mark_76 : decode cX5_mark 76 = .ok (.ifCond .eq 8, 3) := by decide +kernel
theorem dX5_mark_79 : decode cX5_mark 79 = .ok (.bipush 8, 2) := by decide +kernel
theorem dX5_mark_81 : decode cX5_mark 81 = .ok (.goto 4, 3) := by decide +kernel
theorem dX5_mark_84 : decode cX5_mark 84 = .ok (.iconst 0, 1) := by decide +kernel
theorem dX5_mark_85 : decode cX5_mark 85 = .ok (.iadd, 1) := by decide +kernel
theorem dX5_mark_86 : decode cX5_mark 86 = .ok (.aload_n 0, 1) := by decide +kernel
theorem dX5_mark_87 : decode cX5_mark 87 = .ok (.iload_n 1, 1) := by decide +kernel
theorem dX5_mark_88 : decode cX5_mark 88 = .ok (.iload_n 2, 1) := by decide +kernel
theorem dX5_mark_89 : decode cX5_mark 89 = .ok (.invokevirtual 162, 3) := by decide +kernel
theorem dX5_mark_92 : decode cX5_mark 92 = .ok (.aload_n 0, 1) := by decide +kernel
theorem dX5_mark_93 : decode cX5_mark 93 = .ok (.iload_n 1, 1) := by decide +kernel
theorem dX5_mark_94 : decode cX5_mark 94 = .ok (.iload_n 3, 1) := by decide +kernel
theorem dX5_mark_95 : decode cX5_mark 95 = .ok (.invokevirtual 162, 3) := by decide +kernel
theorem dX5_mark_98 : decode cX5_mark 98 = .ok (.invokevirtual 173, 3) := by decide +kernel
theorem dX5_mark_101 : decode cX5_mark 101 = .ok (.ireturn, 1) := by decide +kernel
theorem dX5_drop_0 : decode cX5_drop 0 = .ok (.aload_n 0, 1) := by decide +kernel
theorem dX5_drop_1 : decode cX5_drop 1 = .ok (.dup, 1) := by decide +kernel
theorem dX5_drop_2 : decode cX5_drop 2 = .ok (.getfield 145, 3) := by decide +kernel
theorem dX5_drop_5 : decode cX5_drop 5 = .ok (.iconst 1, 1) := by decide +kernel
theorem dX5_drop_6 : decode cX5_drop 6 = .ok (.isub, 1) := by decide +kernel
theorem dX5_drop_7 : decode cX5_drop 7 = .ok (.putfield 145, 3) := by decide +kernel
theorem dX5_drop_10 : decode cX5_drop 10 = .ok (.iload_n 1, 1) := by decide +kernel
theorem dX5_drop_11 : decode cX5_drop 11 = .ok (.istore_n 2, 1) := by decide +kernel
theorem dX5_drop_12 : decode cX5_drop 12 = .ok (.iload_n 2, 1) := by decide +kernel
theorem dX5_drop_13 : decode cX5_drop 13 = .ok (.aload_n 0, 1) := by decide +kernel
theorem dX5_drop_14 : decode cX5_drop 14 = .ok (.getfield 145, 3) := by decide +kernel
theorem dX5_drop_17 : decode cX5_drop 17 = .ok (.if_icmp .ge 37, 3) := by decide +kernel
theorem dX5_drop_20 : decode cX5_drop 20 = .ok (.aload_n 0, 1) := by decide +kernel
theorem dX5_drop_21 : decode cX5_drop 21 = .ok (.getfield 81, 3) := by decide +kernel
theorem dX5_drop_24 : decode cX5_drop 24 = .ok (.iload_n 2, 1) := by decide +kernel
theorem dX5_drop_25 : decode cX5_drop 25 = .ok (.aload_n 0, 1) := by decide +kernel
theorem dX5_drop_26 : decode cX5_drop 26 = .ok (.getfield 81, 3) := by decide +kernel
theorem dX5_drop_29 : decode cX5_drop 29 = .ok (.iload_n 2, 1) := by decide +kernel
theorem dX5_drop_30 : decode cX5_drop 30 = .ok (.iconst 1, 1) := by decide +kernel
theorem dX5_drop_31 : decode cX5_drop 31 = .ok (.iadd, 1) := by decide +kernel
theorem dX5_drop_32 : decode cX5_drop 32 = .ok (.iaload, 1) := by decide +kernel
theorem dX5_drop_33 : decode cX5_drop 33 = .ok (.iastore, 1) := by decide +kernel
theorem dX5_drop_34 : decode cX5_drop 34 = .ok (.aload_n 0, 1) := by decide +kernel
theorem dX5_drop_35 : decode cX5_drop 35 = .ok (.getfield 84, 3) := by decide +kernel
theorem dX5_drop_38 : decode cX5_drop 38 = .ok (.iload_n 2, 1) := by decide +kernel
theorem dX5_drop_39 : decode cX5_drop 39 = .ok (.aload_n 0, 1) := by decide +kernel
theorem dX5_drop_40 : decode cX5_drop 40 = .ok (.getfield 84, 3) := by decide +kernel
theorem dX5_drop_43 : decode cX5_drop 43 = .ok (.iload_n 2, 1) := by decide +kernel
theorem dX5_drop_44 : decode cX5_drop 44 = .ok (.iconst 1, 1) := by decide +kernel
theorem dX5_drop_45 : decode cX5_drop 45 = .ok (.iadd, 1) := by decide +kernel
theorem dX5_drop_46 : decode cX5_drop 46 = .ok (.iaload, 1) := by decide +kernel
theorem dX5_drop_47 : decode cX5_drop 47 = .ok (.iastore, 1) := by decide +kernel
theorem dX5_drop_48 : decode cX5_drop 48 = .ok (.iinc 2 1, 3) := by decide +kernel
theorem dX5_drop_51 : decode cX5_drop 51 = .ok (.goto (-39), 3) := by decide +kernel
theorem dX5_drop_54 : decode cX5_drop 54 = .ok (.return_, 1) := by decide +kernel
theorem dX5_deliver_0 : decode cX5_deliver 0 = .ok (.iload_n 1, 1) := by decide +kernel
theorem dX5_deliver_1 : decode cX5_deliver 1 = .ok (.i2l, 1) := by decide +kernel
theorem dX5_deliver_2 : decode cX5_deliver 2 = .ok (.lconst 0, 1) := by decide +kernel
theorem dX5_deliver_3 : decode cX5_deliver 3 = .ok (.aload_n 0, 1) := by decide +kernel
theorem dX5_deliver_4 : decode cX5_deliver 4 = .ok (.getfield 145, 3) := by decide +kernel
theorem dX5_deliver_7 : decode cX5_deliver 7 = .ok (.iconst 1, 1) := by decide +kernel
theorem dX5_deliver_8 : decode cX5_deliver 8 = .ok (.isub, 1) := by decide +kernel
theorem dX5_deliver_9 : decode cX5_deliver 9 = .ok (.i2l, 1) := by decide +kernel
theorem dX5_deliver_10 : decode cX5_deliver 10 = .ok (.invokestatic 98, 3) := by decide +kernel
theorem dX5_deliver_13 : decode cX5_deliver 13 = .ok (.ifCond .ne 6, 3) := by decide +kernel
theorem dX5_deliver_16 : decode cX5_deliver 16 = .ok (.bipush (-101), 2) := by decide +kernel
theorem dX5_deliver_18 : decode cX5_deliver 18 = .ok (.ireturn, 1) := by decide +kernel
theorem dX5_deliver_19 : decode cX5_deliver 19 = .ok (.aload_n 0, 1) := by decide +kernel
theorem dX5_deliver_20 : decode cX5_deliver 20 = .ok (.getfield 81, 3) := by decide +kernel
theorem dX5_deliver_23 : decode cX5_deliver 23 = .ok (.iload_n 1, 1) := by decide +kernel
theorem dX5_deliver_24 : decode cX5_deliver 24 = .ok (.iaload, 1) := by decide +kernel
theorem dX5_deliver_25 : decode cX5_deliver 25 = .ok (.istore_n 2, 1) := by decide +kernel
theorem dX5_deliver_26 : decode cX5_deliver 26 = .ok (.aload_n 0, 1) := by decide +kernel
theorem dX5_deliver_27 : decode cX5_deliver 27 = .ok (.getfield 84, 3) := by decide +kernel
theorem dX5_deliver_30 : decode cX5_deliver 30 = .ok (.iload_n 1, 1) := by decide +kernel
theorem dX5_deliver_31 : decode cX5_deliver 31 = .ok (.iaload, 1) := by decide +kernel
theorem dX5_deliver_32 : decode cX5_deliver 32 = .ok (.istore_n 3, 1) := by decide +kernel
theorem dX5_deliver_33 : decode cX5_deliver 33 = .ok (.aload_n 0, 1) := by decide +kernel
theorem dX5_deliver_34 : decode cX5_deliver 34 = .ok (.iload_n 1, 1) := by decide +kernel
theorem dX5_deliver_35 : decode cX5_deliver 35 = .ok (.invokevirtual 192, 3) := by decide +kernel
theorem dX5_deliver_38 : decode cX5_deliver 38 = .ok (.aload_n 0, 1) := by decide +kernel
theorem dX5_deliver_39 : decode cX5_deliver 39 = .ok (.iload_n 3, 1) := by decide +kernel
theorem dX5_deliver_40 : decode cX5_deliver 40 = .ok (.iload_n 2, 1) := by decide +kernel
theorem dX5_deliver_41 : decode cX5_deliver 41 = .ok (.invokevirtual 195, 3) := by decide +kernel
theorem dX5_deliver_44 : decode cX5_deliver 44 = .ok (.istore 4, 2) := by decide +kernel
theorem dX5_deliver_46 : decode cX5_deliver 46 = .ok (.iload 4, 2) := by decide +kernel
theorem dX5_deliver_48 : decode cX5_deliver 48 = .ok (.iconst 1, 1) := by decide +kernel
theorem dX5_deliver_49 : decode cX5_deliver 49 = .ok (.if_icmp .ne 11, 3) := by decide +kernel
theorem dX5_deliver_52 : decode cX5_deliver 52 = .ok (.aload_n 0, 1) := by decide +kernel
theorem dX5_deliver_53 : decode cX5_deliver 53 = .ok (.iload_n 3, 1) := by decide +kernel
theorem dX5_deliver_54 : decode cX5_deliver 54 = .ok (.invokevirtual 155, 3) := by decide +kernel
theorem dX5_deliver_57 : decode cX5_deliver 57 = .ok (.goto 4, 3) := by decide +kernel
theorem dX5_deliver_60 : decode cX5_deliver 60 = .ok (.iconst 0, 1) := by decide +kernel
theorem dX5_deliver_61 : decode cX5_deliver 61 = .ok (.istore 5, 2) := by decide +kernel
theorem dX5_deliver_63 : decode cX5_deliver 63 = .ok (.iload 4, 2) := by decide +kernel
theorem dX5_deliver_65 : decode cX5_deliver 65 = .ok (.ireturn, 1) := by decide +kernel
theorem dX5_lose_0 : decode cX5_lose 0 = .ok (.iload_n 1, 1) := by decide +kernel
theorem dX5_lose_1 : decode cX5_lose 1 = .ok (.i2l, 1) := by decide +kernel
theorem dX5_lose_2 : decode cX5_lose 2 = .ok (.lconst 0, 1) := by decide +kernel
theorem dX5_lose_3 : decode cX5_lose 3 = .ok (.aload_n 0, 1) := by decide +kernel
theorem dX5_lose_4 : decode cX5_lose 4 = .ok (.getfield 145, 3) := by decide +kernel
theorem dX5_lose_7 : decode cX5_lose 7 = .ok (.iconst 1, 1) := by decide +kernel
theorem dX5_lose_8 : decode cX5_lose 8 = .ok (.isub, 1) := by decide +kernel
theorem dX5_lose_9 : decode cX5_lose 9 = .ok (.i2l, 1) := by decide +kernel
theorem dX5_lose_10 : decode cX5_lose 10 = .ok (.invokestatic 98, 3) := by decide +kernel
theorem dX5_lose_13 : decode cX5_lose 13 = .ok (.ifCond .ne 6, 3) := by decide +kernel
theorem dX5_lose_16 : decode cX5_lose 16 = .ok (.bipush (-101), 2) := by decide +kernel
theorem dX5_lose_18 : decode cX5_lose 18 = .ok (.ireturn, 1) := by decide +kernel
theorem dX5_lose_19 : decode cX5_lose 19 = .ok (.aload_n 0, 1) := by decide +kernel
theorem dX5_lose_20 : decode cX5_lose 20 = .ok (.iload_n 1, 1) := by decide +kernel
theorem dX5_lose_21 : decode cX5_lose 21 = .ok (.invokevirtual 192, 3) := by decide +kernel
theorem dX5_lose_24 : decode cX5_lose 24 = .ok (.aload_n 0, 1) := by decide +kernel
theorem dX5_lose_25 : decode cX5_lose 25 = .ok (.getfield 145, 3) := by decide +kernel
theorem dX5_lose_28 : decode cX5_lose 28 = .ok (.ireturn, 1) := by decide +kernel
theorem dX5_repeat_0 : decode cX5_repeat 0 = .ok (.iload_n 1, 1) := by decide +kernel
theorem dX5_repeat_1 : decode cX5_repeat 1 = .ok (.i2l, 1) := by decide +kernel
theorem dX5_repeat_2 : decode cX5_repeat 2 = .ok (.lconst 0, 1) := by decide +kernel
theorem dX5_repeat_3 : decode cX5_repeat 3 = .ok (.aload_n 0, 1) := by decide +kernel
theorem dX5_repeat_4 : decode cX5_repeat 4 = .ok (.getfield 145, 3) := by decide +kernel
theorem dX5_repeat_7 : decode cX5_repeat 7 = .ok (.iconst 1, 1) := by decide +kernel
theorem dX5_repeat_8 : decode cX5_repeat 8 = .ok (.isub, 1) := by decide +kernel
theorem dX5_repeat_9 : decode cX5_repeat 9 = .ok (.i2l, 1) := by decide +kernel
theorem dX5_repeat_10 : decode cX5_repeat 10 = .ok (.invokestatic 98, 3) := by decide +kernel
theorem dX5_repeat_13 : decode cX5_repeat 13 = .ok (.ifCond .ne 6, 3) := by decide +kernel
theorem dX5_repeat_16 : decode cX5_repeat 16 = .ok (.bipush (-101), 2) := by decide +kernel
theorem dX5_repeat_18 : decode cX5_repeat 18 = .ok (.ireturn, 1) := by decide +kernel
theorem dX5_repeat_19 : decode cX5_repeat 19 = .ok (.aload_n 0, 1) := by decide +kernel
theorem dX5_repeat_20 : decode cX5_repeat 20 = .ok (.getfield 145, 3) := by decide +kernel
theorem dX5_repeat_23 : decode cX5_repeat 23 = .ok (.sipush 300, 3) := by decide +kernel
theorem dX5_repeat_26 : decode cX5_repeat 26 = .ok (.if_icmp .ne 6, 3) := by decide +kernel
theorem dX5_repeat_29 : decode cX5_repeat 29 = .ok (.bipush (-104), 2) := by decide +kernel
theorem dX5_repeat_31 : decode cX5_repeat 31 = .ok (.ireturn, 1) := by decide +kernel
theorem dX5_repeat_32 : decode cX5_repeat 32 = .ok (.aload_n 0, 1) := by decide +kernel
theorem dX5_repeat_33 : decode cX5_repeat 33 = .ok (.aload_n 0, 1) := by decide +kernel
theorem dX5_repeat_34 : decode cX5_repeat 34 = .ok (.getfield 81, 3) := by decide +kernel
theorem dX5_repeat_37 : decode cX5_repeat 37 = .ok (.iload_n 1, 1) := by decide +kernel
theorem dX5_repeat_38 : decode cX5_repeat 38 = .ok (.iaload, 1) := by decide +kernel
theorem dX5_repeat_39 : decode cX5_repeat 39 = .ok (.aload_n 0, 1) := by decide +kernel
theorem dX5_repeat_40 : decode cX5_repeat 40 = .ok (.getfield 84, 3) := by decide +kernel
theorem dX5_repeat_43 : decode cX5_repeat 43 = .ok (.iload_n 1, 1) := by decide +kernel
theorem dX5_repeat_44 : decode cX5_repeat 44 = .ok (.iaload, 1) := by decide +kernel
theorem dX5_repeat_45 : decode cX5_repeat 45 = .ok (.invokevirtual 159, 3) := by decide +kernel
theorem dX5_repeat_48 : decode cX5_repeat 48 = .ok (.aload_n 0, 1) := by decide +kernel
theorem dX5_repeat_49 : decode cX5_repeat 49 = .ok (.getfield 145, 3) := by decide +kernel
theorem dX5_repeat_52 : decode cX5_repeat 52 = .ok (.ireturn, 1) := by decide +kernel
theorem dX5_sync_0 : decode cX5_sync 0 = .ok (.iload_n 1, 1) := by decide +kernel
theorem dX5_sync_1 : decode cX5_sync 1 = .ok (.invokestatic 102, 3) := by decide +kernel
theorem dX5_sync_4 : decode cX5_sync 4 = .ok (.ifCond .eq 10, 3) := by decide +kernel
theorem dX5_sync_7 : decode cX5_sync 7 = .ok (.iload_n 2, 1) := by decide +kernel
theorem dX5_sync_8 : decode cX5_sync 8 = .ok (.invokestatic 102, 3) := by decide +kernel
theorem dX5_sync_11 : decode cX5_sync 11 = .ok (.ifCond .ne 6, 3) := by decide +kernel
theorem dX5_sync_14 : decode cX5_sync 14 = .ok (.bipush (-101), 2) := by decide +kernel
theorem dX5_sync_16 : decode cX5_sync 16 = .ok (.ireturn, 1) := by decide +kernel
theorem dX5_sync_17 : decode cX5_sync 17 = .ok (.iconst 0, 1) := by decide +kernel
theorem dX5_sync_18 : decode cX5_sync 18 = .ok (.istore_n 3, 1) := by decide +kernel
theorem dX5_sync_19 : decode cX5_sync 19 = .ok (.iconst 0, 1) := by decide +kernel
theorem dX5_sync_20 : decode cX5_sync 20 = .ok (.istore 4, 2) := by decide +kernel
theorem dX5_sync_22 : decode cX5_sync 22 = .ok (.iload 4, 2) := by decide +kernel
theorem dX5_sync_24 : decode cX5_sync 24 = .ok (.aload_n 0, 1) := by decide +kernel
theorem dX5_sync_25 : decode cX5_sync 25 = .ok (.getfield 135, 3) := by decide +kernel
theorem dX5_sync_28 : decode cX5_sync 28 = .ok (.if_icmp .ge 40, 3) := by decide +kernel
theorem dX5_sync_31 : decode cX5_sync 31 = .ok (.aload_n 0, 1) := by decide +kernel
theorem dX5_sync_32 : decode cX5_sync 32 = .ok (.iload_n 2, 1) := by decide +kernel
theorem dX5_sync_33 : decode cX5_sync 33 = .ok (.iload 4, 2) := by decide +kernel
theorem dX5_sync_35 : decode cX5_sync 35 = .ok (.invokevirtual 106, 3) := by decide +kernel
theorem dX5_sync_38 : decode cX5_sync 38 = .ok (.ifCond .eq 24, 3) := by decide +kernel
theorem dX5_sync_41 : decode cX5_sync 41 = .ok (.aload_n 0, 1) := by decide +kernel
theorem dX5_sync_42 : decode cX5_sync 42 = .ok (.iload_n 1, 1) := by decide +kernel
theorem dX5_sync_43 : decode cX5_sync 43 = .ok (.iload 4, 2) := by decide +kernel
theorem dX5_sync_45 : decode cX5_sync 45 = .ok (.invokevirtual 195, 3) := by decide +kernel
theorem dX5_sync_48 : decode cX5_sync 48 = .ok (.iconst 1, 1) := by decide +kernel
theorem dX5_sync_49 : decode cX5_sync 49 = .ok (.if_icmp .ne 13, 3) := by decide +kernel
theorem dX5_sync_52 : decode cX5_sync 52 = .ok (.iload_n 3, 1) := by decide +kernel
theorem dX5_sync_53 : decode cX5_sync 53 = .ok (.iconst 1, 1) := by decide +kernel
theorem dX5_sync_54 : decode cX5_sync 54 = .ok (.aload_n 0, 1) := by decide +kernel
theorem dX5_sync_55 : decode cX5_sync 55 = .ok (.iload_n 1, 1) := by decide +kernel
theorem dX5_sync_56 : decode cX5_sync 56 = .ok (.invokevirtual 155, 3) := by decide +kernel
theorem dX5_sync_59 : decode cX5_sync 59 = .ok (.iadd, 1) := by decide +kernel
theorem dX5_sync_60 : decode cX5_sync 60 = .ok (.iadd, 1) := by decide +kernel
theorem dX5_sync_61 : decode cX5_sync 61 = .ok (.istore_n 3, 1) := by decide +kernel
theorem dX5_sync_62 : decode cX5_sync 62 = .ok (.iinc 4 1, 3) := by decide +kernel
theorem dX5_sync_65 : decode cX5_sync 65 = .ok (.goto (-43), 3) := by decide +kernel
theorem dX5_sync_68 : decode cX5_sync 68 = .ok (.iload_n 3, 1) := by decide +kernel
theorem dX5_sync_69 : decode cX5_sync 69 = .ok (.ireturn, 1) := by decide +kernel
theorem dX5_length_0 : decode cX5_length 0 = .ok (.iload_n 1, 1) := by decide +kernel
theorem dX5_length_1 : decode cX5_length 1 = .ok (.invokestatic 102, 3) := by decide +kernel
theorem dX5_length_4 : decode cX5_length 4 = .ok (.ifCond .eq 11, 3) := by decide +kernel
theorem dX5_length_7 : decode cX5_length 7 = .ok (.aload_n 0, 1) := by decide +kernel
theorem dX5_length_8 : decode cX5_length 8 = .ok (.iload_n 1, 1) := by decide +kernel
theorem dX5_length_9 : decode cX5_length 9 = .ok (.invokevirtual 177, 3) := by decide +kernel
theorem dX5_length_12 : decode cX5_length 12 = .ok (.goto 5, 3) := by decide +kernel
theorem dX5_length_15 : decode cX5_length 15 = .ok (.bipush (-101), 2) := by decide +kernel
theorem dX5_length_17 : decode cX5_length 17 = .ok (.ireturn, 1) := by decide +kernel
theorem dX5_signOf_0 : decode cX5_signOf 0 = .ok (.aload_n 0, 1) := by decide +kernel
theorem dX5_signOf_1 : decode cX5_signOf 1 = .ok (.iload_n 1, 1) := by decide +kernel
theorem dX5_signOf_2 : decode cX5_signOf 2 = .ok (.invokestatic 102, 3) := by decide +kernel
theorem dX5_signOf_5 : decode cX5_signOf 5 = .ok (.ifCond .eq 20, 3) := by decide +kernel
theorem dX5_signOf_8 : decode cX5_signOf 8 = .ok (.iload_n 2, 1) := by decide +kernel
theorem dX5_signOf_9 : decode cX5_signOf 9 = .ok (.i2l, 1) := by decide +kernel
theorem dX5_signOf_10 : decode cX5_signOf 10 = .ok (.lconst 0, 1) := by decide +kernel
theorem dX5_signOf_11 : decode cX5_signOf 11 = .ok (.aload_n 0, 1) := by decide +kernel
theorem dX5_signOf_12 : decode cX5_signOf 12 = .ok (.iload_n 1, 1) := by decide +kernel
theorem dX5_signOf_13 : decode cX5_signOf 13 = .ok (.invokevirtual 177, 3) := by decide +kernel
theorem dX5_signOf_16 : decode cX5_signOf 16 = .ok (.iconst 1, 1) := by decide +kernel
theorem dX5_signOf_17 : decode cX5_signOf 17 = .ok (.isub, 1) := by decide +kernel
theorem dX5_signOf_18 : decode cX5_signOf 18 = .ok (.i2l, 1) := by decide +kernel
theorem dX5_signOf_19 : decode cX5_signOf 19 = .ok (.invokestatic 98, 3) := by decide +kernel
theorem dX5_signOf_22 : decode cX5_signOf 22 = .ok (.ifCond .ne 7, 3) := by decide +kernel
theorem dX5_signOf_25 : decode cX5_signOf 25 = .ok (.iconst 1, 1) := by decide +kernel
theorem dX5_signOf_26 : decode cX5_signOf 26 = .ok (.goto 4, 3) := by decide +kernel
theorem dX5_signOf_29 : decode cX5_signOf 29 = .ok (.iconst 0, 1) := by decide +kernel
theorem dX5_signOf_30 : decode cX5_signOf 30 = .ok (.putfield 1, 3) := by decide +kernel
theorem dX5_signOf_33 : decode cX5_signOf 33 = .ok (.aload_n 0, 1) := by decide +kernel
theorem dX5_signOf_34 : decode cX5_signOf 34 = .ok (.getfield 1, 3) := by decide +kernel
theorem dX5_signOf_37 : decode cX5_signOf 37 = .ok (.ifCond .le 7, 3) := by decide +kernel
theorem dX5_signOf_40 : decode cX5_signOf 40 = .ok (.iconst (-1), 1) := by decide +kernel
theorem dX5_signOf_41 : decode cX5_signOf 41 = .ok (.goto 9, 3) := by decide +kernel
theorem dX5_signOf_44 : decode cX5_signOf 44 = .ok (.aload_n 0, 1) := by decide +kernel
theorem dX5_signOf_45 : decode cX5_signOf 45 = .ok (.iload_n 1, 1) := by decide +kernel
theorem dX5_signOf_46 : decode cX5_signOf 46 = .ok (.iload_n 2, 1) := by decide +kernel
theorem dX5_signOf_47 : decode cX5_signOf 47 = .ok (.invokevirtual 162, 3) := by decide +kernel
theorem dX5_signOf_50 : decode cX5_signOf 50 = .ok (.ireturn, 1) := by decide +kernel
theorem dX5_sign_0 : decode cX5_sign 0 = .ok (.aload_n 0, 1) := by decide +kernel
theorem dX5_sign_1 : decode cX5_sign 1 = .ok (.iload_n 1, 1) := by decide +kernel
theorem dX5_sign_2 : decode cX5_sign 2 = .ok (.iload_n 2, 1) := by decide +kernel
theorem dX5_sign_3 : decode cX5_sign 3 = .ok (.invokevirtual 198, 3) := by decide +kernel
theorem dX5_sign_6 : decode cX5_sign 6 = .ok (.istore_n 3, 1) := by decide +kernel
theorem dX5_sign_7 : decode cX5_sign 7 = .ok (.iload_n 3, 1) := by decide +kernel
theorem dX5_sign_8 : decode cX5_sign 8 = .ok (.iconst (-1), 1) := by decide +kernel
theorem dX5_sign_9 : decode cX5_sign 9 = .ok (.if_icmp .ne 7, 3) := by decide +kernel
theorem dX5_sign_12 : decode cX5_sign 12 = .ok (.iconst 0, 1) := by decide +kernel
theorem dX5_sign_13 : decode cX5_sign 13 = .ok (.goto 9, 3) := by decide +kernel
theorem dX5_sign_16 : decode cX5_sign 16 = .ok (.aload_n 0, 1) := by decide +kernel
theorem dX5_sign_17 : decode cX5_sign 17 = .ok (.getfield 26, 3) := by decide +kernel
theorem dX5_sign_20 : decode cX5_sign 20 = .ok (.iload_n 3, 1) := by decide +kernel
theorem dX5_sign_21 : decode cX5_sign 21 = .ok (.iaload, 1) := by decide +kernel
theorem dX5_sign_22 : decode cX5_sign 22 = .ok (.ireturn, 1) := by decide +kernel
theorem dX5_path_0 : decode cX5_path 0 = .ok (.aload_n 0, 1) := by decide +kernel
theorem dX5_path_1 : decode cX5_path 1 = .ok (.iload_n 1, 1) := by decide +kernel
theorem dX5_path_2 : decode cX5_path 2 = .ok (.iload_n 2, 1) := by decide +kernel
theorem dX5_path_3 : decode cX5_path 3 = .ok (.invokevirtual 198, 3) := by decide +kernel
theorem dX5_path_6 : decode cX5_path 6 = .ok (.istore 5, 2) := by decide +kernel
theorem dX5_path_8 : decode cX5_path 8 = .ok (.iload 5, 2) := by decide +kernel
theorem dX5_path_10 : decode cX5_path 10 = .ok (.iconst (-1), 1) := by decide +kernel
theorem dX5_path_11 : decode cX5_path 11 = .ok (.if_icmp .eq 38, 3) := by decide +kernel
theorem dX5_path_14 : decode cX5_path 14 = .ok (.iload 4, 2) := by decide +kernel
theorem dX5_path_16 : decode cX5_path 16 = .ok (.i2l, 1) := by decide +kernel
theorem dX5_path_17 : decode cX5_path 17 = .ok (.lconst 0, 1) := by decide +kernel
theorem dX5_path_18 : decode cX5_path 18 = .ok (.ldc2_w 201, 3) := by decide +kernel
theorem dX5_path_21 : decode cX5_path 21 = .ok (.invokestatic 98, 3) := by decide +kernel
theorem dX5_path_24 : decode cX5_path 24 = .ok (.ifCond .eq 25, 3) := by decide +kernel
theorem dX5_path_27 : decode cX5_path 27 = .ok (.iload 4, 2) := by decide +kernel
theorem dX5_path_29 : decode cX5_path 29 = .ok (.ifCond .le 27, 3) := by decide +kernel
theorem dX5_path_32 : decode cX5_path 32 = .ok (.iload_n 3, 1) := by decide +kernel
theorem dX5_path_33 : decode cX5_path 33 = .ok (.i2l, 1) := by decide +kernel
theorem dX5_path_34 : decode cX5_path 34 = .ok (.lconst 1, 1) := by decide +kernel
theorem dX5_path_35 : decode cX5_path 35 = .ok (.aload_n 0, 1) := by decide +kernel
theorem dX5_path_36 : decode cX5_path 36 = .ok (.getfield 42, 3) := by decide +kernel
theorem dX5_path_39 : decode cX5_path 39 = .ok (.iload 5, 2) := by decide +kernel
theorem dX5_path_41 : decode cX5_path 41 = .ok (.iaload, 1) := by decide +kernel
theorem dX5_path_42 : decode cX5_path 42 = .ok (.i2l, 1) := by decide +kernel
theorem dX5_path_43 : decode cX5_path 43 = .ok (.invokestatic 98, 3) := by decide +kernel
theorem dX5_path_46 : decode cX5_path 46 = .ok (.ifCond .ne 10, 3) := by decide +kernel
theorem dX5_path_49 : decode cX5_path 49 = .ok (.aload_n 0, 1) := by decide +kernel
theorem dX5_path_50 : decode cX5_path 50 = .ok (.iconst 1, 1) := by decide +kernel
theorem dX5_path_51 : decode cX5_path 51 = .ok (.putfield 1, 3) := by decide +kernel
theorem dX5_path_54 : decode cX5_path 54 = .ok (.iconst 0, 1) := by decide +kernel
theorem dX5_path_55 : decode cX5_path 55 = .ok (.ireturn, 1) := by decide +kernel
theorem dX5_path_56 : decode cX5_path 56 = .ok (.bipush 12, 2) := by decide +kernel
theorem dX5_path_58 : decode cX5_path 58 = .ok (.iload 5, 2) := by decide +kernel
theorem dX5_path_60 : decode cX5_path 60 = .ok (.imul, 1) := by decide +kernel
theorem dX5_path_61 : decode cX5_path 61 = .ok (.iload_n 3, 1) := by decide +kernel
theorem dX5_path_62 : decode cX5_path 62 = .ok (.iadd, 1) := by decide +kernel
theorem dX5_path_63 : decode cX5_path 63 = .ok (.iconst 1, 1) := by decide +kernel
theorem dX5_path_64 : decode cX5_path 64 = .ok (.isub, 1) := by decide +kernel
theorem dX5_path_65 : decode cX5_path 65 = .ok (.istore 6, 2) := by decide +kernel
theorem dX5_path_67 : decode cX5_path 67 = .ok (.iload 4, 2) := by decide +kernel
theorem dX5_path_69 : decode cX5_path 69 = .ok (.ifCond .ne 13, 3) := by decide +kernel
theorem dX5_path_72 : decode cX5_path 72 = .ok (.aload_n 0, 1) := by decide +kernel
theorem dX5_path_73 : decode cX5_path 73 = .ok (.getfield 42, 3) := by decide +kernel
theorem dX5_path_76 : decode cX5_path 76 = .ok (.iload 5, 2) := by decide +kernel
theorem dX5_path_78 : decode cX5_path 78 = .ok (.iaload, 1) := by decide +kernel
theorem dX5_path_79 : decode cX5_path 79 = .ok (.goto 42, 3) := by decide +kernel
theorem dX5_path_82 : decode cX5_path 82 = .ok (.iload 4, 2) := by decide +kernel
theorem dX5_path_84 : decode cX5_path 84 = .ok (.iconst 1, 1) := by decide +kernel
theorem dX5_path_85 : decode cX5_path 85 = .ok (.if_icmp .ne 13, 3) := by decide +kernel
theorem dX5_path_88 : decode cX5_path 88 = .ok (.aload_n 0, 1) := by decide +kernel
theorem dX5_path_89 : decode cX5_path 89 = .ok (.getfield 45, 3) := by decide +kernel
theorem dX5_path_92 : decode cX5_path 92 = .ok (.iload 6, 2) := by decide +kernel
theorem dX5_path_94 : decode cX5_path 94 = .ok (.iaload, 1) := by decide +kernel
theorem dX5_path_95 : decode cX5_path 95 = .ok (.goto 26, 3) := by decide +kernel
theorem dX5_path_98 : decode cX5_path 98 = .ok (.iload 4, 2) := by decide +kernel
theorem dX5_path_100 : decode cX5_path 100 = .ok (.iconst 2, 1) := by decide +kernel
theorem dX5_path_101 : decode cX5_path 101 = .ok (.if_icmp .ne 13, 3) := by decide +kernel
theorem dX5_path_104 : decode cX5_path 104 = .ok (.aload_n 0, 1) := by decide +kernel
theorem dX5_path_105 : decode cX5_path 105 = .ok (.getfield 48, 3) := by decide +kernel
theorem dX5_path_108 : decode cX5_path 108 = .ok (.iload 6, 2) := by decide +kernel
theorem dX5_path_110 : decode cX5_path 110 = .ok (.iaload, 1) := by decide +kernel
theorem dX5_path_111 : decode cX5_path 111 = .ok (.goto 10, 3) := by decide +kernel
theorem dX5_path_114 : decode cX5_path 114 = .ok (.aload_n 0, 1) := by decide +kernel
theorem dX5_path_115 : decode cX5_path 115 = .ok (.getfield 51, 3) := by decide +kernel
theorem dX5_path_118 : decode cX5_path 118 = .ok (.iload 6, 2) := by decide +kernel
theorem dX5_path_120 : decode cX5_path 120 = .ok (.iaload, 1) := by decide +kernel
theorem dX5_path_121 : decode cX5_path 121 = .ok (.ireturn, 1) := by decide +kernel
theorem dX5_kindsOf_0 : decode cX5_kindsOf 0 = .ok (.iconst 0, 1) := by decide +kernel
theorem dX5_kindsOf_1 : decode cX5_kindsOf 1 = .ok (.istore_n 3, 1) := by decide +kernel
theorem dX5_kindsOf_2 : decode cX5_kindsOf 2 = .ok (.iconst 0, 1) := by decide +kernel
theorem dX5_kindsOf_3 : decode cX5_kindsOf 3 = .ok (.istore 4, 2) := by decide +kernel
theorem dX5_kindsOf_5 : decode cX5_kindsOf 5 = .ok (.iload 4, 2) := by decide +kernel
theorem dX5_kindsOf_7 : decode cX5_kindsOf 7 = .ok (.bipush 8, 2) := by decide +kernel
theorem dX5_kindsOf_9 : decode cX5_kindsOf 9 = .ok (.if_icmp .ge 169, 3) := by decide +kernel
theorem dX5_kindsOf_12 : decode cX5_kindsOf 12 = .ok (.iconst (-1), 1) := by decide +kernel
theorem dX5_kindsOf_13 : decode cX5_kindsOf 13 = .ok (.istore 5, 2) := by decide +kernel
theorem dX5_kindsOf_15 : decode cX5_kindsOf 15 = .ok (.iconst 0, 1) := by decide +kernel
theorem dX5_kindsOf_16 : decode cX5_kindsOf 16 = .ok (.istore 6, 2) := by decide +kernel
theorem dX5_kindsOf_18 : decode cX5_kindsOf 18 = .ok (.iload 6, 2) := by decide +kernel
theorem dX5_kindsOf_20 : decode cX5_kindsOf 20 = .ok (.aload_n 0, 1) := by decide +kernel
theorem dX5_kindsOf_21 : decode cX5_kindsOf 21 = .ok (.getfield 135, 3) := by decide +kernel
theorem dX5_kindsOf_24 : decode cX5_kindsOf 24 = .ok (.if_icmp .ge 119, 3) := by decide +kernel
theorem dX5_kindsOf_27 : decode cX5_kindsOf 27 = .ok (.aload_n 0, 1) := by decide +kernel
theorem dX5_kindsOf_28 : decode cX5_kindsOf 28 = .ok (.getfield 23, 3) := by decide +kernel
theorem dX5_kindsOf_31 : decode cX5_kindsOf 31 = .ok (.iload 6, 2) := by decide +kernel
theorem dX5_kindsOf_33 : decode cX5_kindsOf 33 = .ok (.iaload, 1) := by decide +kernel
theorem dX5_kindsOf_34 : decode cX5_kindsOf 34 = .ok (.iconst 3, 1) := by decide +kernel
theorem dX5_kindsOf_35 : decode cX5_kindsOf 35 = .ok (.if_icmp .ne 74, 3) := by decide +kernel
theorem dX5_kindsOf_38 : decode cX5_kindsOf 38 = .ok (.aload_n 0, 1) := by decide +kernel
theorem dX5_kindsOf_39 : decode cX5_kindsOf 39 = .ok (.iload_n 1, 1) := by decide +kernel
theorem dX5_kindsOf_40 : decode cX5_kindsOf 40 = .ok (.iload 6, 2) := by decide +kernel
theorem dX5_kindsOf_42 : decode cX5_kindsOf 42 = .ok (.invokevirtual 106, 3) := by decide +kernel
theorem dX5_kindsOf_45 : decode cX5_kindsOf 45 = .ok (.ifCond .eq 64, 3) := by decide +kernel
theorem dX5_kindsOf_48 : decode cX5_kindsOf 48 = .ok (.aload_n 0, 1) := by decide +kernel
theorem dX5_kindsOf_49 : decode cX5_kindsOf 49 = .ok (.getfield 26, 3) := by decide +kernel
theorem dX5_kindsOf_52 : decode cX5_kindsOf 52 = .ok (.iload 6, 2) := by decide +kernel
theorem dX5_kindsOf_54 : decode cX5_kindsOf 54 = .ok (.iaload, 1) := by decide +kernel
theorem dX5_kindsOf_55 : decode cX5_kindsOf 55 = .ok (.bipush 7, 2) := by decide +kernel
theorem dX5_kindsOf_57 : decode cX5_kindsOf 57 = .ok (.iand, 1) := by decide +kernel
theorem dX5_kindsOf_58 : decode cX5_kindsOf 58 = .ok (.iload 4, 2) := by decide +kernel
theorem dX5_kindsOf_60 : decode cX5_kindsOf 60 = .ok (.if_icmp .ne 49, 3) := by decide +kernel
theorem dX5_kindsOf_63 : decode cX5_kindsOf 63 = .ok (.aload_n 0, 1) := by decide +kernel
theorem dX5_kindsOf_64 : decode cX5_kindsOf 64 = .ok (.getfield 57, 3) := by decide +kernel
theorem dX5_kindsOf_67 : decode cX5_kindsOf 67 = .ok (.aload_n 0, 1) := by decide +kernel
theorem dX5_kindsOf_68 : decode cX5_kindsOf 68 = .ok (.getfield 29, 3) := by decide +kernel
theorem dX5_kindsOf_71 : decode cX5_kindsOf 71 = .ok (.iload 6, 2) := by decide +kernel
theorem dX5_kindsOf_73 : decode cX5_kindsOf 73 = .ok (.iaload, 1) := by decide +kernel
theorem dX5_kindsOf_74 : decode cX5_kindsOf 74 = .ok (.iaload, 1) := by decide +kernel
theorem dX5_kindsOf_75 : decode cX5_kindsOf 75 = .ok (.aload_n 0, 1) := by decide +kernel
theorem dX5_kindsOf_76 : decode cX5_kindsOf 76 = .ok (.getfield 57, 3) := by decide +kernel
theorem dX5_kindsOf_79 : decode cX5_kindsOf 79 = .ok (.iload_n 2, 1) := by decide +kernel
theorem dX5_kindsOf_80 : decode cX5_kindsOf 80 = .ok (.iaload, 1) := by decide +kernel
theorem dX5_kindsOf_81 : decode cX5_kindsOf 81 = .ok (.if_icmp .gt 28, 3) := by decide +kernel
theorem dX5_kindsOf_84 : decode cX5_kindsOf 84 = .ok (.aload_n 0, 1) := by decide +kernel
theorem dX5_kindsOf_85 : decode cX5_kindsOf 85 = .ok (.getfield 57, 3) := by decide +kernel
theorem dX5_kindsOf_88 : decode cX5_kindsOf 88 = .ok (.iload_n 2, 1) := by decide +kernel
theorem dX5_kindsOf_89 : decode cX5_kindsOf 89 = .ok (.iaload, 1) := by decide +kernel
theorem dX5_kindsOf_90 : decode cX5_kindsOf 90 = .ok (.aload_n 0, 1) := by decide +kernel
theorem dX5_kindsOf_91 : decode cX5_kindsOf 91 = .ok (.getfield 57, 3) := by decide +kernel
theorem dX5_kindsOf_94 : decode cX5_kindsOf 94 = .ok (.aload_n 0, 1) := by decide +kernel
theorem dX5_kindsOf_95 : decode cX5_kindsOf 95 = .ok (.getfield 32, 3) := by decide +kernel
theorem dX5_kindsOf_98 : decode cX5_kindsOf 98 = .ok (.iload 6, 2) := by decide +kernel
theorem dX5_kindsOf_100 : decode cX5_kindsOf 100 = .ok (.iaload, 1) := by decide +kernel
theorem dX5_kindsOf_101 : decode cX5_kindsOf 101 = .ok (.iaload, 1) := by decide +kernel
theorem dX5_kindsOf_102 : decode cX5_kindsOf 102 = .ok (.if_icmp .gt 7, 3) := by decide +kernel
theorem dX5_kindsOf_105 : decode cX5_kindsOf 105 = .ok (.iconst 1, 1) := by decide +kernel
theorem dX5_kindsOf_106 : decode cX5_kindsOf 106 = .ok (.goto 4, 3) := by decide +kernel
theorem dX5_kindsOf_109 : decode cX5_kindsOf 109 = .ok (.iconst 0, 1) := by decide +kernel
theorem dX5_kindsOf_110 : decode cX5_kindsOf 110 = .ok (.istore 7, 2) := by decide +kernel
theorem dX5_kindsOf_112 : decode cX5_kindsOf 112 = .ok (.iload 7, 2) := by decide +kernel
theorem dX5_kindsOf_114 : decode cX5_kindsOf 114 = .ok (.ifCond .eq 19, 3) := by decide +kernel
theorem dX5_kindsOf_117 : decode cX5_kindsOf 117 = .ok (.aload_n 0, 1) := by decide +kernel
theorem dX5_kindsOf_118 : decode cX5_kindsOf 118 = .ok (.iload 6, 2) := by decide +kernel
theorem dX5_kindsOf_120 : decode cX5_kindsOf 120 = .ok (.iload 5, 2) := by decide +kernel
theorem dX5_kindsOf_122 : decode cX5_kindsOf 122 = .ok (.invokevirtual 132, 3) := by decide +kernel
theorem dX5_kindsOf_125 : decode cX5_kindsOf 125 = .ok (.ifCond .eq 8, 3) := by decide +kernel
theorem dX5_kindsOf_128 : decode cX5_kindsOf 128 = .ok (.iload 6, 2) := by decide +kernel
theorem dX5_kindsOf_130 : decode cX5_kindsOf 130 = .ok (.goto 5, 3) := by decide +kernel
theorem dX5_kindsOf_133 : decode cX5_kindsOf 133 = .ok (.iload 5, 2) := by decide +kernel
theorem dX5_kindsOf_135 : decode cX5_kindsOf 135 = .ok (.istore 5, 2) := by decide +kernel
theorem dX5_kindsOf_137 : decode cX5_kindsOf 137 = .ok (.iinc 6 1, 3) := by decide +kernel
theorem dX5_kindsOf_140 : decode cX5_kindsOf 140 = .ok (.goto (-122), 3) := by decide +kernel
theorem dX5_kindsOf_143 : decode cX5_kindsOf 143 = .ok (.iload_n 3, 1) := by decide +kernel
theorem dX5_kindsOf_144 : decode cX5_kindsOf 144 = .ok (.iload 5, 2) := by decide +kernel
theorem dX5_kindsOf_146 : decode cX5_kindsOf 146 = .ok (.iconst (-1), 1) := by decide +kernel
theorem dX5_kindsOf_147 : decode cX5_kindsOf 147 = .ok (.if_icmp .eq 22, 3) := by decide +kernel
theorem dX5_kindsOf_150 : decode cX5_kindsOf 150 = .ok (.aload_n 0, 1) := by decide +kernel
theorem dX5_kindsOf_151 : decode cX5_kindsOf 151 = .ok (.getfield 26, 3) := by decide +kernel
theorem dX5_kindsOf_154 : decode cX5_kindsOf 154 = .ok (.iload 5, 2) := by decide +kernel
theorem dX5_kindsOf_156 : decode cX5_kindsOf 156 = .ok (.iaload, 1) := by decide +kernel
theorem dX5_kindsOf_157 : decode cX5_kindsOf 157 = .ok (.bipush 7, 2) := by decide +kernel
theorem dX5_kindsOf_159 : decode cX5_kindsOf 159 = .ok (.if_icmp .le 10, 3) := by decide +kernel
theorem dX5_kindsOf_162 : decode cX5_kindsOf 162 = .ok (.iconst 1, 1) := by decide +kernel
theorem dX5_kindsOf_163 : decode cX5_kindsOf 163 = .ok (.iload 4, 2) := by decide +kernel
theorem dX5_kindsOf_165 : decode cX5_kindsOf 165 = .ok (.ishl, 1) := by decide +kernel
theorem dX5_kindsOf_166 : decode cX5_kindsOf 166 = .ok (.goto 4, 3) := by decide +kernel
theorem dX5_kindsOf_169 : decode cX5_kindsOf 169 = .ok (.iconst 0, 1) := by decide +kernel
theorem dX5_kindsOf_170 : decode cX5_kindsOf 170 = .ok (.ior, 1) := by decide +kernel
theorem dX5_kindsOf_171 : decode cX5_kindsOf 171 = .ok (.istore_n 3, 1) := by decide +kernel
theorem dX5_kindsOf_172 : decode cX5_kindsOf 172 = .ok (.iinc 4 1, 3) := by decide +kernel
theorem dX5_kindsOf_175 : decode cX5_kindsOf 175 = .ok (.goto (-170), 3) := by decide +kernel
theorem dX5_kindsOf_178 : decode cX5_kindsOf 178 = .ok (.iload_n 3, 1) := by decide +kernel
theorem dX5_kindsOf_179 : decode cX5_kindsOf 179 = .ok (.ireturn, 1) := by decide +kernel
theorem dX5_kinds_0 : decode cX5_kinds 0 = .ok (.aload_n 0, 1) := by decide +kernel
theorem dX5_kinds_1 : decode cX5_kinds 1 = .ok (.iload_n 1, 1) := by decide +kernel
theorem dX5_kinds_2 : decode cX5_kinds 2 = .ok (.iload_n 2, 1) := by decide +kernel
theorem dX5_kinds_3 : decode cX5_kinds 3 = .ok (.invokevirtual 198, 3) := by decide +kernel
theorem dX5_kinds_6 : decode cX5_kinds 6 = .ok (.istore_n 3, 1) := by decide +kernel
theorem dX5_kinds_7 : decode cX5_kinds 7 = .ok (.iload_n 3, 1) := by decide +kernel
theorem dX5_kinds_8 : decode cX5_kinds 8 = .ok (.iconst (-1), 1) := by decide +kernel
theorem dX5_kinds_9 : decode cX5_kinds 9 = .ok (.if_icmp .ne 7, 3) := by decide +kernel
theorem dX5_kinds_12 : decode cX5_kinds 12 = .ok (.iconst 0, 1) := by decide +kernel
theorem dX5_kinds_13 : decode cX5_kinds 13 = .ok (.goto 9, 3) := by decide +kernel
theorem dX5_kinds_16 : decode cX5_kinds 16 = .ok (.aload_n 0, 1) := by decide +kernel
theorem dX5_kinds_17 : decode cX5_kinds 17 = .ok (.iload_n 1, 1) := by decide +kernel
theorem dX5_kinds_18 : decode cX5_kinds 18 = .ok (.iload_n 3, 1) := by decide +kernel
theorem dX5_kinds_19 : decode cX5_kinds 19 = .ok (.invokevirtual 203, 3) := by decide +kernel
theorem dX5_kinds_22 : decode cX5_kinds 22 = .ok (.ireturn, 1) := by decide +kernel
theorem dX5_placeOf_0 : decode cX5_placeOf 0 = .ok (.aload_n 0, 1) := by decide +kernel
theorem dX5_placeOf_1 : decode cX5_placeOf 1 = .ok (.getfield 78, 3) := by decide +kernel
theorem dX5_placeOf_4 : decode cX5_placeOf 4 = .ok (.iconst 4, 1) := by decide +kernel
theorem dX5_placeOf_5 : decode cX5_placeOf 5 = .ok (.iload_n 1, 1) := by decide +kernel
theorem dX5_placeOf_6 : decode cX5_placeOf 6 = .ok (.imul, 1) := by decide +kernel
theorem dX5_placeOf_7 : decode cX5_placeOf 7 = .ok (.iload_n 2, 1) := by decide +kernel
theorem dX5_placeOf_8 : decode cX5_placeOf 8 = .ok (.iadd, 1) := by decide +kernel
theorem dX5_placeOf_9 : decode cX5_placeOf 9 = .ok (.iaload, 1) := by decide +kernel
theorem dX5_placeOf_10 : decode cX5_placeOf 10 = .ok (.istore_n 3, 1) := by decide +kernel
theorem dX5_placeOf_11 : decode cX5_placeOf 11 = .ok (.iconst 0, 1) := by decide +kernel
theorem dX5_placeOf_12 : decode cX5_placeOf 12 = .ok (.istore 4, 2) := by decide +kernel
theorem dX5_placeOf_14 : decode cX5_placeOf 14 = .ok (.iconst 0, 1) := by decide +kernel
theorem dX5_placeOf_15 : decode cX5_placeOf 15 = .ok (.istore 5, 2) := by decide +kernel
theorem dX5_placeOf_17 : decode cX5_placeOf 17 = .ok (.iload_n 3, 1) := by decide +kernel
theorem dX5_placeOf_18 : decode cX5_placeOf 18 = .ok (.iconst (-1), 1) := by decide +kernel
theorem dX5_placeOf_19 : decode cX5_placeOf 19 = .ok (.if_icmp .eq 45, 3) := by decide +kernel
theorem dX5_placeOf_22 : decode cX5_placeOf 22 = .ok (.iload 5, 2) := by decide +kernel
theorem dX5_placeOf_24 : decode cX5_placeOf 24 = .ok (.aload_n 0, 1) := by decide +kernel
theorem dX5_placeOf_25 : decode cX5_placeOf 25 = .ok (.getfield 57, 3) := by decide +kernel
theorem dX5_placeOf_28 : decode cX5_placeOf 28 = .ok (.iload_n 3, 1) := by decide +kernel
theorem dX5_placeOf_29 : decode cX5_placeOf 29 = .ok (.iaload, 1) := by decide +kernel
theorem dX5_placeOf_30 : decode cX5_placeOf 30 = .ok (.if_icmp .gt 34, 3) := by decide +kernel
theorem dX5_placeOf_33 : decode cX5_placeOf 33 = .ok (.iload 4, 2) := by decide +kernel
theorem dX5_placeOf_35 : decode cX5_placeOf 35 = .ok (.aload_n 0, 1) := by decide +kernel
theorem dX5_placeOf_36 : decode cX5_placeOf 36 = .ok (.iload_n 1, 1) := by decide +kernel
theorem dX5_placeOf_37 : decode cX5_placeOf 37 = .ok (.aload_n 0, 1) := by decide +kernel
theorem dX5_placeOf_38 : decode cX5_placeOf 38 = .ok (.getfield 54, 3) := by decide +kernel
theorem dX5_placeOf_41 : decode cX5_placeOf 41 = .ok (.iload 5, 2) := by decide +kernel
theorem dX5_placeOf_43 : decode cX5_placeOf 43 = .ok (.iaload, 1) := by decide +kernel
theorem dX5_placeOf_44 : decode cX5_placeOf 44 = .ok (.invokevirtual 113, 3) := by decide +kernel
theorem dX5_placeOf_47 : decode cX5_placeOf 47 = .ok (.ifCond .eq 7, 3) := by decide +kernel
theorem dX5_placeOf_50 : decode cX5_placeOf 50 = .ok (.iconst 1, 1) := by decide +kernel
theorem dX5_placeOf_51 : decode cX5_placeOf 51 = .ok (.goto 4, 3) := by decide +kernel
theorem dX5_placeOf_54 : decode cX5_placeOf 54 = .ok (.iconst 0, 1) := by decide +kernel
theorem dX5_placeOf_55 : decode cX5_placeOf 55 = .ok (.iadd, 1) := by decide +kernel
theorem dX5_placeOf_56 : decode cX5_placeOf 56 = .ok (.istore 4, 2) := by decide +kernel
theorem dX5_placeOf_58 : decode cX5_placeOf 58 = .ok (.iinc 5 1, 3) := by decide +kernel
theorem dX5_placeOf_61 : decode cX5_placeOf 61 = .ok (.goto (-44), 3) := by decide +kernel
theorem dX5_placeOf_64 : decode cX5_placeOf 64 = .ok (.iload 4, 2) := by decide +kernel
theorem dX5_placeOf_66 : decode cX5_placeOf 66 = .ok (.ireturn, 1) := by decide +kernel
theorem dX5_cursor_0 : decode cX5_cursor 0 = .ok (.iload_n 1, 1) := by decide +kernel
theorem dX5_cursor_1 : decode cX5_cursor 1 = .ok (.invokestatic 102, 3) := by decide +kernel
theorem dX5_cursor_4 : decode cX5_cursor 4 = .ok (.ifCond .ne 6, 3) := by decide +kernel
theorem dX5_cursor_7 : decode cX5_cursor 7 = .ok (.bipush (-101), 2) := by decide +kernel
theorem dX5_cursor_9 : decode cX5_cursor 9 = .ok (.ireturn, 1) := by decide +kernel
theorem dX5_cursor_10 : decode cX5_cursor 10 = .ok (.iload_n 2, 1) := by decide +kernel
theorem dX5_cursor_11 : decode cX5_cursor 11 = .ok (.i2l, 1) := by decide +kernel
theorem dX5_cursor_12 : decode cX5_cursor 12 = .ok (.lconst 0, 1) := by decide +kernel
theorem dX5_cursor_13 : decode cX5_cursor 13 = .ok (.ldc2_w 201, 3) := by decide +kernel
theorem dX5_cursor_16 : decode cX5_cursor 16 = .ok (.invokestatic 98, 3) := by decide +kernel
theorem dX5_cursor_19 : decode cX5_cursor 19 = .ok (.ifCond .eq 18, 3) := by decide +kernel
theorem dX5_cursor_22 : decode cX5_cursor 22 = .ok (.iload_n 3, 1) := by decide +kernel
theorem dX5_cursor_23 : decode cX5_cursor 23 = .ok (.i2l, 1) := by decide +kernel
theorem dX5_cursor_24 : decode cX5_cursor 24 = .ok (.lconst 0, 1) := by decide +kernel
theorem dX5_cursor_25 : decode cX5_cursor 25 = .ok (.aload_n 0, 1) := by decide +kernel
theorem dX5_cursor_26 : decode cX5_cursor 26 = .ok (.iload_n 1, 1) := by decide +kernel
theorem dX5_cursor_27 : decode cX5_cursor 27 = .ok (.invokevirtual 177, 3) := by decide +kernel
theorem dX5_cursor_30 : decode cX5_cursor 30 = .ok (.i2l, 1) := by decide +kernel
theorem dX5_cursor_31 : decode cX5_cursor 31 = .ok (.invokestatic 98, 3) := by decide +kernel
theorem dX5_cursor_34 : decode cX5_cursor 34 = .ok (.ifCond .ne 6, 3) := by decide +kernel
theorem dX5_cursor_37 : decode cX5_cursor 37 = .ok (.bipush (-102), 2) := by decide +kernel
theorem dX5_cursor_39 : decode cX5_cursor 39 = .ok (.ireturn, 1) := by decide +kernel
theorem dX5_cursor_40 : decode cX5_cursor 40 = .ok (.aload_n 0, 1) := by decide +kernel
theorem dX5_cursor_41 : decode cX5_cursor 41 = .ok (.iload_n 1, 1) := by decide +kernel
theorem dX5_cursor_42 : decode cX5_cursor 42 = .ok (.iload_n 2, 1) := by decide +kernel
theorem dX5_cursor_43 : decode cX5_cursor 43 = .ok (.invokevirtual 206, 3) := by decide +kernel
theorem dX5_cursor_46 : decode cX5_cursor 46 = .ok (.istore 4, 2) := by decide +kernel
theorem dX5_cursor_48 : decode cX5_cursor 48 = .ok (.aload_n 0, 1) := by decide +kernel
theorem dX5_cursor_49 : decode cX5_cursor 49 = .ok (.getfield 78, 3) := by decide +kernel
theorem dX5_cursor_52 : decode cX5_cursor 52 = .ok (.iconst 4, 1) := by decide +kernel
theorem dX5_cursor_53 : decode cX5_cursor 53 = .ok (.iload_n 1, 1) := by decide +kernel
theorem dX5_cursor_54 : decode cX5_cursor 54 = .ok (.imul, 1) := by decide +kernel
theorem dX5_cursor_55 : decode cX5_cursor 55 = .ok (.iload_n 2, 1) := by decide +kernel
theorem dX5_cursor_56 : decode cX5_cursor 56 = .ok (.iadd, 1) := by decide +kernel
theorem dX5_cursor_57 : decode cX5_cursor 57 = .ok (.iload_n 3, 1) := by decide +kernel
theorem dX5_cursor_58 : decode cX5_cursor 58 = .ok (.ifCond .ne 7, 3) := by decide +kernel
theorem dX5_cursor_61 : decode cX5_cursor 61 = .ok (.iconst (-1), 1) := by decide +kernel
theorem dX5_cursor_62 : decode cX5_cursor 62 = .ok (.goto 11, 3) := by decide +kernel
theorem dX5_cursor_65 : decode cX5_cursor 65 = .ok (.aload_n 0, 1) := by decide +kernel
theorem dX5_cursor_66 : decode cX5_cursor 66 = .ok (.iload_n 1, 1) := by decide +kernel
theorem dX5_cursor_67 : decode cX5_cursor 67 = .ok (.iload_n 3, 1) := by decide +kernel
theorem dX5_cursor_68 : decode cX5_cursor 68 = .ok (.iconst 1, 1) := by decide +kernel
theorem dX5_cursor_69 : decode cX5_cursor 69 = .ok (.isub, 1) := by decide +kernel
theorem dX5_cursor_70 : decode cX5_cursor 70 = .ok (.invokevirtual 162, 3) := by decide +kernel
theorem dX5_cursor_73 : decode cX5_cursor 73 = .ok (.iastore, 1) := by decide +kernel
theorem dX5_cursor_74 : decode cX5_cursor 74 = .ok (.iload 4, 2) := by decide +kernel
theorem dX5_cursor_76 : decode cX5_cursor 76 = .ok (.ireturn, 1) := by decide +kernel
theorem dX5_at_0 : decode cX5_at 0 = .ok (.iload_n 1, 1) := by decide +kernel
theorem dX5_at_1 : decode cX5_at 1 = .ok (.invokestatic 102, 3) := by decide +kernel
theorem dX5_at_4 : decode cX5_at 4 = .ok (.ifCond .ne 8, 3) := by decide +kernel
theorem dX5_at_7 : decode cX5_at 7 = .ok (.bipush (-101), 2) := by decide +kernel
theorem dX5_at_9 : decode cX5_at 9 = .ok (.goto 26, 3) := by decide +kernel
theorem dX5_at_12 : decode cX5_at 12 = .ok (.iload_n 2, 1) := by decide +kernel
theorem dX5_at_13 : decode cX5_at 13 = .ok (.i2l, 1) := by decide +kernel
theorem dX5_at_14 : decode cX5_at 14 = .ok (.lconst 0, 1) := by decide +kernel
theorem dX5_at_15 : decode cX5_at 15 = .ok (.ldc2_w 201, 3) := by decide +kernel
theorem dX5_at_18 : decode cX5_at 18 = .ok (.invokestatic 98, 3) := by decide +kernel
theorem dX5_at_21 : decode cX5_at 21 = .ok (.ifCond .eq 12, 3) := by decide +kernel
theorem dX5_at_24 : decode cX5_at 24 = .ok (.aload_n 0, 1) := by decide +kernel
theorem dX5_at_25 : decode cX5_at 25 = .ok (.iload_n 1, 1) := by decide +kernel
theorem dX5_at_26 : decode cX5_at 26 = .ok (.iload_n 2, 1) := by decide +kernel
theorem dX5_at_27 : decode cX5_at 27 = .ok (.invokevirtual 206, 3) := by decide +kernel
theorem dX5_at_30 : decode cX5_at 30 = .ok (.goto 5, 3) := by decide +kernel
theorem dX5_at_33 : decode cX5_at 33 = .ok (.bipush (-102), 2) := by decide +kernel
theorem dX5_at_35 : decode cX5_at 35 = .ok (.ireturn, 1) := by decide +kernel
theorem dX5_about_0 : decode cX5_about 0 = .ok (.iload_n 1, 1) := by decide +kernel
theorem dX5_about_1 : decode cX5_about 1 = .ok (.invokestatic 102, 3) := by decide +kernel
theorem dX5_about_4 : decode cX5_about 4 = .ok (.ifCond .eq 14, 3) := by decide +kernel
theorem dX5_about_7 : decode cX5_about 7 = .ok (.iload_n 3, 1) := by decide +kernel
theorem dX5_about_8 : decode cX5_about 8 = .ok (.ifCond .ne 13, 3) := by decide +kernel
theorem dX5_about_11 : decode cX5_about 11 = .ok (.iload_n 2, 1) := by decide +kernel
theorem dX5_about_12 : decode cX5_about 12 = .ok (.invokestatic 102, 3) := by decide +kernel
theorem dX5_about_15 : decode cX5_about 15 = .ok (.ifCond .ne 6, 3) := by decide +kernel
theorem dX5_about_18 : decode cX5_about 18 = .ok (.bipush (-101), 2) := by decide +kernel
theorem dX5_about_20 : decode cX5_about 20 = .ok (.ireturn, 1) := by decide +kernel
theorem dX5_about_21 : decode cX5_about 21 = .ok (.iload_n 3, 1) := by decide +kernel
theorem dX5_about_22 : decode cX5_about 22 = .ok (.ifCond .ne 15, 3) := by decide +kernel
theorem dX5_about_25 : decode cX5_about 25 = .ok (.aload_n 0, 1) := by decide +kernel
theorem dX5_about_26 : decode cX5_about 26 = .ok (.getfield 69, 3) := by decide +kernel
theorem dX5_about_29 : decode cX5_about 29 = .ok (.bipush 6, 2) := by decide +kernel
theorem dX5_about_31 : decode cX5_about 31 = .ok (.iload_n 1, 1) := by decide +kernel
theorem dX5_about_32 : decode cX5_about 32 = .ok (.imul, 1) := by decide +kernel
theorem dX5_about_33 : decode cX5_about 33 = .ok (.iload_n 2, 1) := by decide +kernel
theorem dX5_about_34 : decode cX5_about 34 = .ok (.iadd, 1) := by decide +kernel
theorem dX5_about_35 : decode cX5_about 35 = .ok (.iaload, 1) := by decide +kernel
theorem dX5_about_36 : decode cX5_about 36 = .ok (.ireturn, 1) := by decide +kernel
theorem dX5_about_37 : decode cX5_about 37 = .ok (.iload_n 3, 1) := by decide +kernel
theorem dX5_about_38 : decode cX5_about 38 = .ok (.iconst 2, 1) := by decide +kernel
theorem dX5_about_39 : decode cX5_about 39 = .ok (.if_icmp .ne 10, 3) := by decide +kernel
theorem dX5_about_42 : decode cX5_about 42 = .ok (.aload_n 0, 1) := by decide +kernel
theorem dX5_about_43 : decode cX5_about 43 = .ok (.getfield 72, 3) := by decide +kernel
theorem dX5_about_46 : decode cX5_about 46 = .ok (.iload_n 1, 1) := by decide +kernel
theorem dX5_about_47 : decode cX5_about 47 = .ok (.iaload, 1) := by decide +kernel
theorem dX5_about_48 : decode cX5_about 48 = .ok (.ireturn, 1) := by decide +kernel
theorem dX5_about_49 : decode cX5_about 49 = .ok (.iload_n 3, 1) := by decide +kernel
theorem dX5_about_50 : decode cX5_about 50 = .ok (.i2l, 1) := by decide +kernel
theorem dX5_about_51 : decode cX5_about 51 = .ok (.lconst 1, 1) := by decide +kernel
theorem dX5_about_52 : decode cX5_about 52 = .ok (.ldc2_w 201, 3) := by decide +kernel
theorem dX5_about_55 : decode cX5_about 55 = .ok (.invokestatic 98, 3) := by decide +kernel
theorem dX5_about_58 : decode cX5_about 58 = .ok (.ifCond .ne 6, 3) := by decide +kernel
theorem dX5_about_61 : decode cX5_about 61 = .ok (.bipush (-102), 2) := by decide +kernel
theorem dX5_about_63 : decode cX5_about 63 = .ok (.ireturn, 1) := by decide +kernel
theorem dX5_about_64 : decode cX5_about 64 = .ok (.iconst 0, 1) := by decide +kernel
theorem dX5_about_65 : decode cX5_about 65 = .ok (.istore 4, 2) := by decide +kernel
theorem dX5_about_67 : decode cX5_about 67 = .ok (.iconst 0, 1) := by decide +kernel
theorem dX5_about_68 : decode cX5_about 68 = .ok (.istore 5, 2) := by decide +kernel
theorem dX5_about_70 : decode cX5_about 70 = .ok (.iload 5, 2) := by decide +kernel
theorem dX5_about_72 : decode cX5_about 72 = .ok (.aload_n 0, 1) := by decide +kernel
theorem dX5_about_73 : decode cX5_about 73 = .ok (.getfield 135, 3) := by decide +kernel
theorem dX5_about_76 : decode cX5_about 76 = .ok (.if_icmp .ge 68, 3) := by decide +kernel
theorem dX5_about_79 : decode cX5_about 79 = .ok (.iload 4, 2) := by decide +kernel
theorem dX5_about_81 : decode cX5_about 81 = .ok (.iload_n 3, 1) := by decide +kernel
theorem dX5_about_82 : decode cX5_about 82 = .ok (.iconst 1, 1) := by decide +kernel
theorem dX5_about_83 : decode cX5_about 83 = .ok (.if_icmp .ne 27, 3) := by decide +kernel
theorem dX5_about_86 : decode cX5_about 86 = .ok (.aload_n 0, 1) := by decide +kernel
theorem dX5_about_87 : decode cX5_about 87 = .ok (.getfield 63, 3) := by decide +kernel
theorem dX5_about_90 : decode cX5_about 90 = .ok (.sipush 400, 3) := by decide +kernel
theorem dX5_about_93 : decode cX5_about 93 = .ok (.iload_n 1, 1) := by decide +kernel
theorem dX5_about_94 : decode cX5_about 94 = .ok (.imul, 1) := by decide +kernel
theorem dX5_about_95 : decode cX5_about 95 = .ok (.iload 5, 2) := by decide +kernel
theorem dX5_about_97 : decode cX5_about 97 = .ok (.iadd, 1) := by decide +kernel
theorem dX5_about_98 : decode cX5_about 98 = .ok (.baload, 1) := by decide +kernel
theorem dX5_about_99 : decode cX5_about 99 = .ok (.ifCond .eq 7, 3) := by decide +kernel
theorem dX5_about_102 : decode cX5_about 102 = .ok (.iconst 1, 1) := by decide +kernel
theorem dX5_about_103 : decode cX5_about 103 = .ok (.goto 32, 3) := by decide +kernel
theorem dX5_about_106 : decode cX5_about 106 = .ok (.iconst 0, 1) := by decide +kernel
theorem dX5_about_107 : decode cX5_about 107 = .ok (.goto 28, 3) := by decide +kernel
theorem dX5_about_110 : decode cX5_about 110 = .ok (.aload_n 0, 1) := by decide +kernel
theorem dX5_about_111 : decode cX5_about 111 = .ok (.getfield 23, 3) := by decide +kernel
theorem dX5_about_114 : decode cX5_about 114 = .ok (.iload 5, 2) := by decide +kernel
theorem dX5_about_116 : decode cX5_about 116 = .ok (.iaload, 1) := by decide +kernel
theorem dX5_about_117 : decode cX5_about 117 = .ok (.ifCond .ne 17, 3) := by decide +kernel
theorem dX5_about_120 : decode cX5_about 120 = .ok (.aload_n 0, 1) := by decide +kernel
theorem dX5_about_121 : decode cX5_about 121 = .ok (.iload_n 1, 1) := by decide +kernel
theorem dX5_about_122 : decode cX5_about 122 = .ok (.iload 5, 2) := by decide +kernel
theorem dX5_about_124 : decode cX5_about 124 = .ok (.invokevirtual 106, 3) := by decide +kernel
theorem dX5_about_127 : decode cX5_about 127 = .ok (.ifCond .eq 7, 3) := by decide +kernel
theorem dX5_about_130 : decode cX5_about 130 = .ok (.iconst 1, 1) := by decide +kernel
theorem dX5_about_131 : decode cX5_about 131 = .ok (.goto 4, 3) := by decide +kernel
theorem dX5_about_134 : decode cX5_about 134 = .ok (.iconst 0, 1) := by decide +kernel
theorem dX5_about_135 : decode cX5_about 135 = .ok (.iadd, 1) := by decide +kernel
theorem dX5_about_136 : decode cX5_about 136 = .ok (.istore 4, 2) := by decide +kernel
theorem dX5_about_138 : decode cX5_about 138 = .ok (.iinc 5 1, 3) := by decide +kernel
theorem dX5_about_141 : decode cX5_about 141 = .ok (.goto (-71), 3) := by decide +kernel
theorem dX5_about_144 : decode cX5_about 144 = .ok (.iload 4, 2) := by decide +kernel
theorem dX5_about_146 : decode cX5_about 146 = .ok (.ireturn, 1) := by decide +kernel
theorem dX5_same_0 : decode cX5_same 0 = .ok (.iload_n 1, 1) := by decide +kernel
theorem dX5_same_1 : decode cX5_same 1 = .ok (.invokestatic 102, 3) := by decide +kernel
theorem dX5_same_4 : decode cX5_same 4 = .ok (.ifCond .eq 10, 3) := by decide +kernel
theorem dX5_same_7 : decode cX5_same 7 = .ok (.iload_n 2, 1) := by decide +kernel
theorem dX5_same_8 : decode cX5_same 8 = .ok (.invokestatic 102, 3) := by decide +kernel
theorem dX5_same_11 : decode cX5_same 11 = .ok (.ifCond .ne 6, 3) := by decide +kernel
theorem dX5_same_14 : decode cX5_same 14 = .ok (.bipush (-101), 2) := by decide +kernel
theorem dX5_same_16 : decode cX5_same 16 = .ok (.ireturn, 1) := by decide +kernel
theorem dX5_same_17 : decode cX5_same 17 = .ok (.iconst 0, 1) := by decide +kernel
theorem dX5_same_18 : decode cX5_same 18 = .ok (.istore_n 3, 1) := by decide +kernel
theorem dX5_same_19 : decode cX5_same 19 = .ok (.iload_n 3, 1) := by decide +kernel
theorem dX5_same_20 : decode cX5_same 20 = .ok (.aload_n 0, 1) := by decide +kernel
theorem dX5_same_21 : decode cX5_same 21 = .ok (.getfield 110, 3) := by decide +kernel
theorem dX5_same_24 : decode cX5_same 24 = .ok (.if_icmp .ge 63, 3) := by decide +kernel
theorem dX5_same_27 : decode cX5_same 27 = .ok (.aload_n 0, 1) := by decide +kernel
theorem dX5_same_28 : decode cX5_same 28 = .ok (.getfield 54, 3) := by decide +kernel
theorem dX5_same_31 : decode cX5_same 31 = .ok (.iload_n 3, 1) := by decide +kernel
theorem dX5_same_32 : decode cX5_same 32 = .ok (.iaload, 1) := by decide +kernel
theorem dX5_same_33 : decode cX5_same 33 = .ok (.istore 4, 2) := by decide +kernel
theorem dX5_same_35 : decode cX5_same 35 = .ok (.aload_n 0, 1) := by decide +kernel
theorem dX5_same_36 : decode cX5_same 36 = .ok (.iload_n 1, 1) := by decide +kernel
theorem dX5_same_37 : decode cX5_same 37 = .ok (.iload 4, 2) := by decide +kernel
theorem dX5_same_39 : decode cX5_same 39 = .ok (.invokevirtual 113, 3) := by decide +kernel
theorem dX5_same_42 : decode cX5_same 42 = .ok (.aload_n 0, 1) := by decide +kernel
theorem dX5_same_43 : decode cX5_same 43 = .ok (.iload_n 2, 1) := by decide +kernel
theorem dX5_same_44 : decode cX5_same 44 = .ok (.iload 4, 2) := by decide +kernel
theorem dX5_same_46 : decode cX5_same 46 = .ok (.invokevirtual 113, 3) := by decide +kernel
theorem dX5_same_49 : decode cX5_same 49 = .ok (.if_icmp .ne 30, 3) := by decide +kernel
theorem dX5_same_52 : decode cX5_same 52 = .ok (.aload_n 0, 1) := by decide +kernel
theorem dX5_same_53 : decode cX5_same 53 = .ok (.iload_n 1, 1) := by decide +kernel
theorem dX5_same_54 : decode cX5_same 54 = .ok (.iload 4, 2) := by decide +kernel
theorem dX5_same_56 : decode cX5_same 56 = .ok (.invokevirtual 113, 3) := by decide +kernel
theorem dX5_same_59 : decode cX5_same 59 = .ok (.ifCond .eq 22, 3) := by decide +kernel
theorem dX5_same_62 : decode cX5_same 62 = .ok (.aload_n 0, 1) := by decide +kernel
theorem dX5_same_63 : decode cX5_same 63 = .ok (.iload_n 1, 1) := by decide +kernel
theorem dX5_same_64 : decode cX5_same 64 = .ok (.iload 4, 2) := by decide +kernel
theorem dX5_same_66 : decode cX5_same 66 = .ok (.invokevirtual 203, 3) := by decide +kernel
theorem dX5_same_69 : decode cX5_same 69 = .ok (.aload_n 0, 1) := by decide +kernel
theorem dX5_same_70 : decode cX5_same 70 = .ok (.iload_n 2, 1) := by decide +kernel
theorem dX5_same_71 : decode cX5_same 71 = .ok (.iload 4, 2) := by decide +kernel
theorem dX5_same_73 : decode cX5_same 73 = .ok (.invokevirtual 203, 3) := by decide +kernel
theorem dX5_same_76 : decode cX5_same 76 = .ok (.if_icmp .eq 5, 3) := by decide +kernel
theorem dX5_same_79 : decode cX5_same 79 = .ok (.iconst 0, 1) := by decide +kernel
theorem dX5_same_80 : decode cX5_same 80 = .ok (.ireturn, 1) := by decide +kernel
theorem dX5_same_81 : decode cX5_same 81 = .ok (.iinc 3 1, 3) := by decide +kernel
theorem dX5_same_84 : decode cX5_same 84 = .ok (.goto (-65), 3) := by decide +kernel
theorem dX5_same_87 : decode cX5_same 87 = .ok (.iconst 1, 1) := by decide +kernel
theorem dX5_same_88 : decode cX5_same 88 = .ok (.ireturn, 1) := by decide +kernel
theorem dX5_deed_0 : decode cX5_deed 0 = .ok (.iload_n 1, 1) := by decide +kernel
theorem dX5_deed_1 : decode cX5_deed 1 = .ok (.i2l, 1) := by decide +kernel
theorem dX5_deed_2 : decode cX5_deed 2 = .ok (.lconst 0, 1) := by decide +kernel
theorem dX5_deed_3 : decode cX5_deed 3 = .ok (.aload_n 0, 1) := by decide +kernel
theorem dX5_deed_4 : decode cX5_deed 4 = .ok (.getfield 135, 3) := by decide +kernel
theorem dX5_deed_7 : decode cX5_deed 7 = .ok (.iconst 1, 1) := by decide +kernel
theorem dX5_deed_8 : decode cX5_deed 8 = .ok (.isub, 1) := by decide +kernel
theorem dX5_deed_9 : decode cX5_deed 9 = .ok (.i2l, 1) := by decide +kernel
theorem dX5_deed_10 : decode cX5_deed 10 = .ok (.invokestatic 98, 3) := by decide +kernel
theorem dX5_deed_13 : decode cX5_deed 13 = .ok (.ifCond .ne 6, 3) := by decide +kernel
theorem dX5_deed_16 : decode cX5_deed 16 = .ok (.bipush (-101), 2) := by decide +kernel
theorem dX5_deed_18 : decode cX5_deed 18 = .ok (.ireturn, 1) := by decide +kernel
theorem dX5_deed_19 : decode cX5_deed 19 = .ok (.iload_n 2, 1) := by decide +kernel
theorem dX5_deed_20 : decode cX5_deed 20 = .ok (.ifCond .ne 12, 3) := by decide +kernel
theorem dX5_deed_23 : decode cX5_deed 23 = .ok (.aload_n 0, 1) := by decide +kernel
theorem dX5_deed_24 : decode cX5_deed 24 = .ok (.getfield 13, 3) := by decide +kernel
theorem dX5_deed_27 : decode cX5_deed 27 = .ok (.iload_n 1, 1) := by decide +kernel
theorem dX5_deed_28 : decode cX5_deed 28 = .ok (.iaload, 1) := by decide +kernel
theorem dX5_deed_29 : decode cX5_deed 29 = .ok (.goto 75, 3) := by decide +kernel
theorem dX5_deed_32 : decode cX5_deed 32 = .ok (.iload_n 2, 1) := by decide +kernel
theorem dX5_deed_33 : decode cX5_deed 33 = .ok (.iconst 1, 1) := by decide +kernel
theorem dX5_deed_34 : decode cX5_deed 34 = .ok (.if_icmp .ne 12, 3) := by decide +kernel
theorem dX5_deed_37 : decode cX5_deed 37 = .ok (.aload_n 0, 1) := by decide +kernel
theorem dX5_deed_38 : decode cX5_deed 38 = .ok (.getfield 17, 3) := by decide +kernel
theorem dX5_deed_41 : decode cX5_deed 41 = .ok (.iload_n 1, 1) := by decide +kernel
theorem dX5_deed_42 : decode cX5_deed 42 = .ok (.iaload, 1) := by decide +kernel
theorem dX5_deed_43 : decode cX5_deed 43 = .ok (.goto 61, 3) := by decide +kernel
theorem dX5_deed_46 : decode cX5_deed 46 = .ok (.iload_n 2, 1) := by decide +kernel
theorem dX5_deed_47 : decode cX5_deed 47 = .ok (.iconst 2, 1) := by decide +kernel
theorem dX5_deed_48 : decode cX5_deed 48 = .ok (.if_icmp .ne 12, 3) := by decide +kernel
theorem dX5_deed_51 : decode cX5_deed 51 = .ok (.aload_n 0, 1) := by decide +kernel
theorem dX5_deed_52 : decode cX5_deed 52 = .ok (.getfield 20, 3) := by decide +kernel
theorem dX5_deed_55 : decode cX5_deed 55 = .ok (.iload_n 1, 1) := by decide +kernel
theorem dX5_deed_56 : decode cX5_deed 56 = .ok (.iaload, 1) := by decide +kernel
theorem dX5_deed_57 : decode cX5_deed 57 = .ok (.goto 47, 3) := by decide +kernel
theorem dX5_deed_60 : decode cX5_deed 60 = .ok (.iload_n 2, 1) := by decide +kernel
theorem dX5_deed_61 : decode cX5_deed 61 = .ok (.iconst 3, 1) := by decide +kernel
theorem dX5_deed_62 : decode cX5_deed 62 = .ok (.if_icmp .ne 12, 3) := by decide +kernel
theorem dX5_deed_65 : decode cX5_deed 65 = .ok (.aload_n 0, 1) := by decide +kernel
theorem dX5_deed_66 : decode cX5_deed 66 = .ok (.getfield 23, 3) := by decide +kernel
theorem dX5_deed_69 : decode cX5_deed 69 = .ok (.iload_n 1, 1) := by decide +kernel
theorem dX5_deed_70 : decode cX5_deed 70 = .ok (.iaload, 1) := by decide +kernel
theorem dX5_deed_71 : decode cX5_deed 71 = .ok (.goto 33, 3) := by decide +kernel
theorem dX5_deed_74 : decode cX5_deed 74 = .ok (.iload_n 2, 1) := by decide +kernel
theorem dX5_deed_75 : decode cX5_deed 75 = .ok (.iconst 4, 1) := by decide +kernel
theorem dX5_deed_76 : decode cX5_deed 76 = .ok (.if_icmp .ne 12, 3) := by decide +kernel
theorem dX5_deed_79 : decode cX5_deed 79 = .ok (.aload_n 0, 1) := by decide +kernel
theorem dX5_deed_80 : decode cX5_deed 80 = .ok (.getfield 26, 3) := by decide +kernel
theorem dX5_deed_83 : decode cX5_deed 83 = .ok (.iload_n 1, 1) := by decide +kernel
theorem dX5_deed_84 : decode cX5_deed 84 = .ok (.iaload, 1) := by decide +kernel
theorem dX5_deed_85 : decode cX5_deed 85 = .ok (.goto 19, 3) := by decide +kernel
theorem dX5_deed_88 : decode cX5_deed 88 = .ok (.iload_n 2, 1) := by decide +kernel
theorem dX5_deed_89 : decode cX5_deed 89 = .ok (.iconst 5, 1) := by decide +kernel
theorem dX5_deed_90 : decode cX5_deed 90 = .ok (.if_icmp .ne 12, 3) := by decide +kernel
theorem dX5_deed_93 : decode cX5_deed 93 = .ok (.aload_n 0, 1) := by decide +kernel
theorem dX5_deed_94 : decode cX5_deed 94 = .ok (.getfield 29, 3) := by decide +kernel
theorem dX5_deed_97 : decode cX5_deed 97 = .ok (.iload_n 1, 1) := by decide +kernel
theorem dX5_deed_98 : decode cX5_deed 98 = .ok (.iaload, 1) := by decide +kernel
theorem dX5_deed_99 : decode cX5_deed 99 = .ok (.goto 5, 3) := by decide +kernel
theorem dX5_deed_102 : decode cX5_deed 102 = .ok (.bipush (-102), 2) := by decide +kernel
theorem dX5_deed_104 : decode cX5_deed 104 = .ok (.ireturn, 1) := by decide +kernel
theorem dX5_message_0 : decode cX5_message 0 = .ok (.iload_n 1, 1) := by decide +kernel
theorem dX5_message_1 : decode cX5_message 1 = .ok (.i2l, 1) := by decide +kernel
theorem dX5_message_2 : decode cX5_message 2 = .ok (.lconst 0, 1) := by decide +kernel
theorem dX5_message_3 : decode cX5_message 3 = .ok (.aload_n 0, 1) := by decide +kernel
theorem dX5_message_4 : decode cX5_message 4 = .ok (.getfield 145, 3) := by decide +kernel
theorem dX5_message_7 : decode cX5_message 7 = .ok (.iconst 1, 1) := by decide +kernel
theorem dX5_message_8 : decode cX5_message 8 = .ok (.isub, 1) := by decide +kernel
theorem dX5_message_9 : decode cX5_message 9 = .ok (.i2l, 1) := by decide +kernel
theorem dX5_message_10 : decode cX5_message 10 = .ok (.invokestatic 98, 3) := by decide +kernel
theorem dX5_message_13 : decode cX5_message 13 = .ok (.ifCond .ne 8, 3) := by decide +kernel
theorem dX5_message_16 : decode cX5_message 16 = .ok (.bipush (-101), 2) := by decide +kernel
theorem dX5_message_18 : decode cX5_message 18 = .ok (.goto 32, 3) := by decide +kernel
theorem dX5_message_21 : decode cX5_message 21 = .ok (.iload_n 2, 1) := by decide +kernel
theorem dX5_message_22 : decode cX5_message 22 = .ok (.ifCond .ne 12, 3) := by decide +kernel
theorem dX5_message_25 : decode cX5_message 25 = .ok (.aload_n 0, 1) := by decide +kernel
theorem dX5_message_26 : decode cX5_message 26 = .ok (.getfield 81, 3) := by decide +kernel
theorem dX5_message_29 : decode cX5_message 29 = .ok (.iload_n 1, 1) := by decide +kernel
theorem dX5_message_30 : decode cX5_message 30 = .ok (.iaload, 1) := by decide +kernel
theorem dX5_message_31 : decode cX5_message 31 = .ok (.goto 19, 3) := by decide +kernel
theorem dX5_message_34 : decode cX5_message 34 = .ok (.iload_n 2, 1) := by decide +kernel
theorem dX5_message_35 : decode cX5_message 35 = .ok (.iconst 1, 1) := by decide +kernel
theorem dX5_message_36 : decode cX5_message 36 = .ok (.if_icmp .ne 12, 3) := by decide +kernel
theorem dX5_message_39 : decode cX5_message 39 = .ok (.aload_n 0, 1) := by decide +kernel
theorem dX5_message_40 : decode cX5_message 40 = .ok (.getfield 84, 3) := by decide +kernel
theorem dX5_message_43 : decode cX5_message 43 = .ok (.iload_n 1, 1) := by decide +kernel
theorem dX5_message_44 : decode cX5_message 44 = .ok (.iaload, 1) := by decide +kernel
theorem dX5_message_45 : decode cX5_message 45 = .ok (.goto 5, 3) := by decide +kernel
theorem dX5_message_48 : decode cX5_message 48 = .ok (.bipush (-102), 2) := by decide +kernel
theorem dX5_message_50 : decode cX5_message 50 = .ok (.ireturn, 1) := by decide +kernel
theorem dX5_count_0 : decode cX5_count 0 = .ok (.iload_n 1, 1) := by decide +kernel
theorem dX5_count_1 : decode cX5_count 1 = .ok (.ifCond .ne 10, 3) := by decide +kernel
theorem dX5_count_4 : decode cX5_count 4 = .ok (.aload_n 0, 1) := by decide +kernel
theorem dX5_count_5 : decode cX5_count 5 = .ok (.getfield 135, 3) := by decide +kernel
theorem dX5_count_8 : decode cX5_count 8 = .ok (.goto 29, 3) := by decide +kernel
theorem dX5_count_11 : decode cX5_count 11 = .ok (.iload_n 1, 1) := by decide +kernel
theorem dX5_count_12 : decode cX5_count 12 = .ok (.iconst 1, 1) := by decide +kernel
theorem dX5_count_13 : decode cX5_count 13 = .ok (.if_icmp .ne 10, 3) := by decide +kernel
theorem dX5_count_16 : decode cX5_count 16 = .ok (.aload_n 0, 1) := by decide +kernel
theorem dX5_count_17 : decode cX5_count 17 = .ok (.getfield 145, 3) := by decide +kernel
theorem dX5_count_20 : decode cX5_count 20 = .ok (.goto 17, 3) := by decide +kernel
theorem dX5_count_23 : decode cX5_count 23 = .ok (.iload_n 1, 1) := by decide +kernel
theorem dX5_count_24 : decode cX5_count 24 = .ok (.iconst 2, 1) := by decide +kernel
theorem dX5_count_25 : decode cX5_count 25 = .ok (.if_icmp .ne 10, 3) := by decide +kernel
theorem dX5_count_28 : decode cX5_count 28 = .ok (.aload_n 0, 1) := by decide +kernel
theorem dX5_count_29 : decode cX5_count 29 = .ok (.getfield 148, 3) := by decide +kernel
theorem dX5_count_32 : decode cX5_count 32 = .ok (.goto 5, 3) := by decide +kernel
theorem dX5_count_35 : decode cX5_count 35 = .ok (.bipush (-102), 2) := by decide +kernel
theorem dX5_count_37 : decode cX5_count 37 = .ok (.ireturn, 1) := by decide +kernel
