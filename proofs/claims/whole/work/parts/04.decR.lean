theorem dX5_init_0 : decode cX5_init 0 = .ok (.aload_n 0, 1) := by decide +kernel
theorem dX5_init_1 : decode cX5_init 1 = .ok (.invokespecial 1, 3) := by decide +kernel
theorem dX5_init_4 : decode cX5_init 4 = .ok (.aload_n 0, 1) := by decide +kernel
theorem dX5_init_5 : decode cX5_init 5 = .ok (.bipush 86, 2) := by decide +kernel
theorem dX5_init_7 : decode cX5_init 7 = .ok (.newarray .int, 2) := by decide +kernel
theorem dX5_init_9 : decode cX5_init 9 = .ok (.putfield 9, 3) := by decide +kernel
theorem dX5_init_12 : decode cX5_init 12 = .ok (.aload_n 0, 1) := by decide +kernel
theorem dX5_init_13 : decode cX5_init 13 = .ok (.bipush 86, 2) := by decide +kernel
theorem dX5_init_15 : decode cX5_init 15 = .ok (.newarray .int, 2) := by decide +kernel
theorem dX5_init_17 : decode cX5_init 17 = .ok (.putfield 13, 3) := by decide +kernel
theorem dX5_init_20 : decode cX5_init 20 = .ok (.aload_n 0, 1) := by decide +kernel
theorem dX5_init_21 : decode cX5_init 21 = .ok (.bipush 86, 2) := by decide +kernel
theorem dX5_init_23 : decode cX5_init 23 = .ok (.newarray .int, 2) := by decide +kernel
theorem dX5_init_25 : decode cX5_init 25 = .ok (.putfield 16, 3) := by decide +kernel
theorem dX5_init_28 : decode cX5_init 28 = .ok (.aload_n 0, 1) := by decide +kernel
theorem dX5_init_29 : decode cX5_init 29 = .ok (.bipush 8, 2) := by decide +kernel
theorem dX5_init_31 : decode cX5_init 31 = .ok (.newarray .int, 2) := by decide +kernel
theorem dX5_init_33 : decode cX5_init 33 = .ok (.putfield 19, 3) := by decide +kernel
theorem dX5_init_36 : decode cX5_init 36 = .ok (.aload_n 0, 1) := by decide +kernel
theorem dX5_init_37 : decode cX5_init 37 = .ok (.bipush 9, 2) := by decide +kernel
theorem dX5_init_39 : decode cX5_init 39 = .ok (.newarray .int, 2) := by decide +kernel
theorem dX5_init_41 : decode cX5_init 41 = .ok (.dup, 1) := by decide +kernel
theorem dX5_init_42 : decode cX5_init 42 = .ok (.iconst 0, 1) := by decide +kernel
theorem dX5_init_43 : decode cX5_init 43 = .ok (.iconst 0, 1) := by decide +kernel
theorem dX5_init_44 : decode cX5_init 44 = .ok (.iastore, 1) := by decide +kernel
theorem dX5_init_45 : decode cX5_init 45 = .ok (.dup, 1) := by decide +kernel
theorem dX5_init_46 : decode cX5_init 46 = .ok (.iconst 1, 1) := by decide +kernel
theorem dX5_init_47 : decode cX5_init 47 = .ok (.iconst 0, 1) := by decide +kernel
theorem dX5_init_48 : decode cX5_init 48 = .ok (.iastore, 1) := by decide +kernel
theorem dX5_init_49 : decode cX5_init 49 = .ok (.dup, 1) := by decide +kernel
theorem dX5_init_50 : decode cX5_init 50 = .ok (.iconst 2, 1) := by decide +kernel
theorem dX5_init_51 : decode cX5_init 51 = .ok (.iconst 0, 1) := by decide +kernel
theorem dX5_init_52 : decode cX5_init 52 = .ok (.iastore, 1) := by decide +kernel
theorem dX5_init_53 : decode cX5_init 53 = .ok (.dup, 1) := by decide +kernel
theorem dX5_init_54 : decode cX5_init 54 = .ok (.iconst 3, 1) := by decide +kernel
theorem dX5_init_55 : decode cX5_init 55 = .ok (.iconst 1, 1) := by decide +kernel
theorem dX5_init_56 : decode cX5_init 56 = .ok (.iastore, 1) := by decide +kernel
theorem dX5_init_57 : decode cX5_init 57 = .ok (.dup, 1) := by decide +kernel
theorem dX5_init_58 : decode cX5_init 58 = .ok (.iconst 4, 1) := by decide +kernel
theorem dX5_init_59 : decode cX5_init 59 = .ok (.iconst 0, 1) := by decide +kernel
theorem dX5_init_60 : decode cX5_init 60 = .ok (.iastore, 1) := by decide +kernel
theorem dX5_init_61 : decode cX5_init 61 = .ok (.dup, 1) := by decide +kernel
theorem dX5_init_62 : decode cX5_init 62 = .ok (.iconst 5, 1) := by decide +kernel
theorem dX5_init_63 : decode cX5_init 63 = .ok (.iconst 0, 1) := by decide +kernel
theorem dX5_init_64 : decode cX5_init 64 = .ok (.iastore, 1) := by decide +kernel
theorem dX5_init_65 : decode cX5_init 65 = .ok (.dup, 1) := by decide +kernel
theorem dX5_init_66 : decode cX5_init 66 = .ok (.bipush 6, 2) := by decide +kernel
theorem dX5_init_68 : decode cX5_init 68 = .ok (.iconst 0, 1) := by decide +kernel
theorem dX5_init_69 : decode cX5_init 69 = .ok (.iastore, 1) := by decide +kernel
theorem dX5_init_70 : decode cX5_init 70 = .ok (.dup, 1) := by decide +kernel
theorem dX5_init_71 : decode cX5_init 71 = .ok (.bipush 7, 2) := by decide +kernel
theorem dX5_init_73 : decode cX5_init 73 = .ok (.iconst 0, 1) := by decide +kernel
theorem dX5_init_74 : decode cX5_init 74 = .ok (.iastore, 1) := by decide +kernel
theorem dX5_init_75 : decode cX5_init 75 = .ok (.dup, 1) := by decide +kernel
theorem dX5_init_76 : decode cX5_init 76 = .ok (.bipush 8, 2) := by decide +kernel
theorem dX5_init_78 : decode cX5_init 78 = .ok (.iconst 0, 1) := by decide +kernel
theorem dX5_init_79 : decode cX5_init 79 = .ok (.iastore, 1) := by decide +kernel
theorem dX5_init_80 : decode cX5_init 80 = .ok (.putfield 22, 3) := by decide +kernel
theorem dX5_init_83 : decode cX5_init 83 = .ok (.aload_n 0, 1) := by decide +kernel
theorem dX5_init_84 : decode cX5_init 84 = .ok (.bipush 9, 2) := by decide +kernel
theorem dX5_init_86 : decode cX5_init 86 = .ok (.newarray .int, 2) := by decide +kernel
theorem dX5_init_88 : decode cX5_init 88 = .ok (.dup, 1) := by decide +kernel
theorem dX5_init_89 : decode cX5_init 89 = .ok (.iconst 0, 1) := by decide +kernel
theorem dX5_init_90 : decode cX5_init 90 = .ok (.bipush 6, 2) := by decide +kernel
theorem dX5_init_92 : decode cX5_init 92 = .ok (.iastore, 1) := by decide +kernel
theorem dX5_init_93 : decode cX5_init 93 = .ok (.dup, 1) := by decide +kernel
theorem dX5_init_94 : decode cX5_init 94 = .ok (.iconst 1, 1) := by decide +kernel
theorem dX5_init_95 : decode cX5_init 95 = .ok (.sipush 300, 3) := by decide +kernel
theorem dX5_init_98 : decode cX5_init 98 = .ok (.iastore, 1) := by decide +kernel
theorem dX5_init_99 : decode cX5_init 99 = .ok (.dup, 1) := by decide +kernel
theorem dX5_init_100 : decode cX5_init 100 = .ok (.iconst 2, 1) := by decide +kernel
theorem dX5_init_101 : decode cX5_init 101 = .ok (.sipush 999, 3) := by decide +kernel
theorem dX5_init_104 : decode cX5_init 104 = .ok (.iastore, 1) := by decide +kernel
theorem dX5_init_105 : decode cX5_init 105 = .ok (.dup, 1) := by decide +kernel
theorem dX5_init_106 : decode cX5_init 106 = .ok (.iconst 3, 1) := by decide +kernel
theorem dX5_init_107 : decode cX5_init 107 = .ok (.bipush 20, 2) := by decide +kernel
theorem dX5_init_109 : decode cX5_init 109 = .ok (.iastore, 1) := by decide +kernel
theorem dX5_init_110 : decode cX5_init 110 = .ok (.dup, 1) := by decide +kernel
theorem dX5_init_111 : decode cX5_init 111 = .ok (.iconst 4, 1) := by decide +kernel
theorem dX5_init_112 : decode cX5_init 112 = .ok (.bipush 7, 2) := by decide +kernel
theorem dX5_init_114 : decode cX5_init 114 = .ok (.iastore, 1) := by decide +kernel
theorem dX5_init_115 : decode cX5_init 115 = .ok (.dup, 1) := by decide +kernel
theorem dX5_init_116 : decode cX5_init 116 = .ok (.iconst 5, 1) := by decide +kernel
theorem dX5_init_117 : decode cX5_init 117 = .ok (.iconst 1, 1) := by decide +kernel
theorem dX5_init_118 : decode cX5_init 118 = .ok (.iastore, 1) := by decide +kernel
theorem dX5_init_119 : decode cX5_init 119 = .ok (.dup, 1) := by decide +kernel
theorem dX5_init_120 : decode cX5_init 120 = .ok (.bipush 6, 2) := by decide +kernel
theorem dX5_init_122 : decode cX5_init 122 = .ok (.iconst 3, 1) := by decide +kernel
theorem dX5_init_123 : decode cX5_init 123 = .ok (.iastore, 1) := by decide +kernel
theorem dX5_init_124 : decode cX5_init 124 = .ok (.dup, 1) := by decide +kernel
theorem dX5_init_125 : decode cX5_init 125 = .ok (.bipush 7, 2) := by decide +kernel
theorem dX5_init_127 : decode cX5_init 127 = .ok (.bipush 24, 2) := by decide +kernel
theorem dX5_init_129 : decode cX5_init 129 = .ok (.iastore, 1) := by decide +kernel
theorem dX5_init_130 : decode cX5_init 130 = .ok (.dup, 1) := by decide +kernel
theorem dX5_init_131 : decode cX5_init 131 = .ok (.bipush 8, 2) := by decide +kernel
theorem dX5_init_133 : decode cX5_init 133 = .ok (.iconst 3, 1) := by decide +kernel
theorem dX5_init_134 : decode cX5_init 134 = .ok (.iastore, 1) := by decide +kernel
theorem dX5_init_135 : decode cX5_init 135 = .ok (.putfield 25, 3) := by decide +kernel
theorem dX5_init_138 : decode cX5_init 138 = .ok (.aload_n 0, 1) := by decide +kernel
theorem dX5_init_139 : decode cX5_init 139 = .ok (.bipush 8, 2) := by decide +kernel
theorem dX5_init_141 : decode cX5_init 141 = .ok (.newarray .int, 2) := by decide +kernel
theorem dX5_init_143 : decode cX5_init 143 = .ok (.putfield 28, 3) := by decide +kernel
theorem dX5_init_146 : decode cX5_init 146 = .ok (.aload_n 0, 1) := by decide +kernel
theorem dX5_init_147 : decode cX5_init 147 = .ok (.bipush 8, 2) := by decide +kernel
theorem dX5_init_149 : decode cX5_init 149 = .ok (.newarray .int, 2) := by decide +kernel
theorem dX5_init_151 : decode cX5_init 151 = .ok (.putfield 31, 3) := by decide +kernel
theorem dX5_init_154 : decode cX5_init 154 = .ok (.aload_n 0, 1) := by decide +kernel
theorem dX5_init_155 : decode cX5_init 155 = .ok (.bipush 8, 2) := by decide +kernel
theorem dX5_init_157 : decode cX5_init 157 = .ok (.newarray .int, 2) := by decide +kernel
theorem dX5_init_159 : decode cX5_init 159 = .ok (.putfield 34, 3) := by decide +kernel
theorem dX5_init_162 : decode cX5_init 162 = .ok (.aload_n 0, 1) := by decide +kernel
theorem dX5_init_163 : decode cX5_init 163 = .ok (.bipush 8, 2) := by decide +kernel
theorem dX5_init_165 : decode cX5_init 165 = .ok (.newarray .int, 2) := by decide +kernel
theorem dX5_init_167 : decode cX5_init 167 = .ok (.putfield 37, 3) := by decide +kernel
theorem dX5_init_170 : decode cX5_init 170 = .ok (.aload_n 0, 1) := by decide +kernel
theorem dX5_init_171 : decode cX5_init 171 = .ok (.bipush 86, 2) := by decide +kernel
theorem dX5_init_173 : decode cX5_init 173 = .ok (.newarray .int, 2) := by decide +kernel
theorem dX5_init_175 : decode cX5_init 175 = .ok (.putfield 40, 3) := by decide +kernel
theorem dX5_init_178 : decode cX5_init 178 = .ok (.aload_n 0, 1) := by decide +kernel
theorem dX5_init_179 : decode cX5_init 179 = .ok (.bipush 120, 2) := by decide +kernel
theorem dX5_init_181 : decode cX5_init 181 = .ok (.newarray .int, 2) := by decide +kernel
theorem dX5_init_183 : decode cX5_init 183 = .ok (.putfield 43, 3) := by decide +kernel
theorem dX5_init_186 : decode cX5_init 186 = .ok (.aload_n 0, 1) := by decide +kernel
theorem dX5_init_187 : decode cX5_init 187 = .ok (.bipush 7, 2) := by decide +kernel
theorem dX5_init_189 : decode cX5_init 189 = .ok (.anewarray 46, 3) := by decide +kernel
theorem dX5_init_192 : decode cX5_init 192 = .ok (.dup, 1) := by decide +kernel
theorem dX5_init_193 : decode cX5_init 193 = .ok (.iconst 0, 1) := by decide +kernel
theorem dX5_init_194 : decode cX5_init 194 = .ok (.ldc 48, 2) := by decide +kernel
theorem dX5_init_196 : decode cX5_init 196 = .ok (.aastore, 1) := by decide +kernel
theorem dX5_init_197 : decode cX5_init 197 = .ok (.dup, 1) := by decide +kernel
theorem dX5_init_198 : decode cX5_init 198 = .ok (.iconst 1, 1) := by decide +kernel
theorem dX5_init_199 : decode cX5_init 199 = .ok (.ldc 50, 2) := by decide +kernel
theorem dX5_init_201 : decode cX5_init 201 = .ok (.aastore, 1) := by decide +kernel
theorem dX5_init_202 : decode cX5_init 202 = .ok (.dup, 1) := by decide +kernel
theorem dX5_init_203 : decode cX5_init 203 = .ok (.iconst 2, 1) := by decide +kernel
theorem dX5_init_204 : decode cX5_init 204 = .ok (.ldc 52, 2) := by decide +kernel
theorem dX5_init_206 : decode cX5_init 206 = .ok (.aastore, 1) := by decide +kernel
theorem dX5_init_207 : decode cX5_init 207 = .ok (.dup, 1) := by decide +kernel
theorem dX5_init_208 : decode cX5_init 208 = .ok (.iconst 3, 1) := by decide +kernel
theorem dX5_init_209 : decode cX5_init 209 = .ok (.ldc 54, 2) := by decide +kernel
theorem dX5_init_211 : decode cX5_init 211 = .ok (.aastore, 1) := by decide +kernel
theorem dX5_init_212 : decode cX5_init 212 = .ok (.dup, 1) := by decide +kernel
theorem dX5_init_213 : decode cX5_init 213 = .ok (.iconst 4, 1) := by decide +kernel
theorem dX5_init_214 : decode cX5_init 214 = .ok (.ldc 56, 2) := by decide +kernel
theorem dX5_init_216 : decode cX5_init 216 = .ok (.aastore, 1) := by decide +kernel
theorem dX5_init_217 : decode cX5_init 217 = .ok (.dup, 1) := by decide +kernel
theorem dX5_init_218 : decode cX5_init 218 = .ok (.iconst 5, 1) := by decide +kernel
theorem dX5_init_219 : decode cX5_init 219 = .ok (.ldc 58, 2) := by decide +kernel
theorem dX5_init_221 : decode cX5_init 221 = .ok (.aastore, 1) := by decide +kernel
theorem dX5_init_222 : decode cX5_init 222 = .ok (.dup, 1) := by decide +kernel
theorem dX5_init_223 : decode cX5_init 223 = .ok (.bipush 6, 2) := by decide +kernel
theorem dX5_init_225 : decode cX5_init 225 = .ok (.ldc 60, 2) := by decide +kernel
theorem dX5_init_227 : decode cX5_init 227 = .ok (.aastore, 1) := by decide +kernel
theorem dX5_init_228 : decode cX5_init 228 = .ok (.putfield 62, 3) := by decide +kernel
theorem dX5_init_231 : decode cX5_init 231 = .ok (.aload_n 0, 1) := by decide +kernel
theorem dX5_init_232 : decode cX5_init 232 = .ok (.iconst 4, 1) := by decide +kernel
theorem dX5_init_233 : decode cX5_init 233 = .ok (.anewarray 46, 3) := by decide +kernel
theorem dX5_init_236 : decode cX5_init 236 = .ok (.dup, 1) := by decide +kernel
theorem dX5_init_237 : decode cX5_init 237 = .ok (.iconst 0, 1) := by decide +kernel
theorem dX5_init_238 : decode cX5_init 238 = .ok (.ldc 66, 2) := by decide +kernel
theorem dX5_init_240 : decode cX5_init 240 = .ok (.aastore, 1) := by decide +kernel
theorem dX5_init_241 : decode cX5_init 241 = .ok (.dup, 1) := by decide +kernel
theorem dX5_init_242 : decode cX5_init 242 = .ok (.iconst 1, 1) := by decide +kernel
theorem dX5_init_243 : decode cX5_init 243 = .ok (.ldc 68, 2) := by decide +kernel
theorem dX5_init_245 : decode cX5_init 245 = .ok (.aastore, 1) := by decide +kernel
theorem dX5_init_246 : decode cX5_init 246 = .ok (.dup, 1) := by decide +kernel
theorem dX5_init_247 : decode cX5_init 247 = .ok (.iconst 2, 1) := by decide +kernel
theorem dX5_init_248 : decode cX5_init 248 = .ok (.ldc 70, 2) := by decide +kernel
theorem dX5_init_250 : decode cX5_init 250 = .ok (.aastore, 1) := by decide +kernel
theorem dX5_init_251 : decode cX5_init 251 = .ok (.dup, 1) := by decide +kernel
theorem dX5_init_252 : decode cX5_init 252 = .ok (.iconst 3, 1) := by decide +kernel
theorem dX5_init_253 : decode cX5_init 253 = .ok (.ldc 72, 2) := by decide +kernel
theorem dX5_init_255 : decode cX5_init 255 = .ok (.aastore, 1) := by decide +kernel
theorem dX5_init_256 : decode cX5_init 256 = .ok (.putfield 74, 3) := by decide +kernel
theorem dX5_init_259 : decode cX5_init 259 = .ok (.aload_n 0, 1) := by decide +kernel
theorem dX5_init_260 : decode cX5_init 260 = .ok (.sipush 2160, 3) := by decide +kernel
theorem dX5_init_263 : decode cX5_init 263 = .ok (.newarray .int, 2) := by decide +kernel
theorem dX5_init_265 : decode cX5_init 265 = .ok (.putfield 77, 3) := by decide +kernel
theorem dX5_init_268 : decode cX5_init 268 = .ok (.aload_n 0, 1) := by decide +kernel
theorem dX5_init_269 : decode cX5_init 269 = .ok (.iconst 4, 1) := by decide +kernel
theorem dX5_init_270 : decode cX5_init 270 = .ok (.newarray .int, 2) := by decide +kernel
theorem dX5_init_272 : decode cX5_init 272 = .ok (.putfield 80, 3) := by decide +kernel
theorem dX5_init_275 : decode cX5_init 275 = .ok (.aload_n 0, 1) := by decide +kernel
theorem dX5_init_276 : decode cX5_init 276 = .ok (.iconst 4, 1) := by decide +kernel
theorem dX5_init_277 : decode cX5_init 277 = .ok (.newarray .int, 2) := by decide +kernel
theorem dX5_init_279 : decode cX5_init 279 = .ok (.putfield 83, 3) := by decide +kernel
theorem dX5_init_282 : decode cX5_init 282 = .ok (.aload_n 0, 1) := by decide +kernel
theorem dX5_init_283 : decode cX5_init 283 = .ok (.sipush 160, 3) := by decide +kernel
theorem dX5_init_286 : decode cX5_init 286 = .ok (.newarray .int, 2) := by decide +kernel
theorem dX5_init_288 : decode cX5_init 288 = .ok (.putfield 86, 3) := by decide +kernel
theorem dX5_init_291 : decode cX5_init 291 = .ok (.aload_n 0, 1) := by decide +kernel
theorem dX5_init_292 : decode cX5_init 292 = .ok (.bipush 40, 2) := by decide +kernel
theorem dX5_init_294 : decode cX5_init 294 = .ok (.newarray .int, 2) := by decide +kernel
theorem dX5_init_296 : decode cX5_init 296 = .ok (.putfield 89, 3) := by decide +kernel
theorem dX5_init_299 : decode cX5_init 299 = .ok (.aload_n 0, 1) := by decide +kernel
theorem dX5_init_300 : decode cX5_init 300 = .ok (.getfield 9, 3) := by decide +kernel
theorem dX5_init_303 : decode cX5_init 303 = .ok (.iconst 1, 1) := by decide +kernel
theorem dX5_init_304 : decode cX5_init 304 = .ok (.bipush 20, 2) := by decide +kernel
theorem dX5_init_306 : decode cX5_init 306 = .ok (.iastore, 1) := by decide +kernel
theorem dX5_init_307 : decode cX5_init 307 = .ok (.aload_n 0, 1) := by decide +kernel
theorem dX5_init_308 : decode cX5_init 308 = .ok (.getfield 9, 3) := by decide +kernel
theorem dX5_init_311 : decode cX5_init 311 = .ok (.iconst 3, 1) := by decide +kernel
theorem dX5_init_312 : decode cX5_init 312 = .ok (.iconst 1, 1) := by decide +kernel
theorem dX5_init_313 : decode cX5_init 313 = .ok (.iastore, 1) := by decide +kernel
theorem dX5_init_314 : decode cX5_init 314 = .ok (.iconst 0, 1) := by decide +kernel
theorem dX5_init_315 : decode cX5_init 315 = .ok (.istore_n 1, 1) := by decide +kernel
theorem dX5_init_316 : decode cX5_init 316 = .ok (.iload_n 1, 1) := by decide +kernel
theorem dX5_init_317 : decode cX5_init 317 = .ok (.bipush 10, 2) := by decide +kernel
theorem dX5_init_319 : decode cX5_init 319 = .ok (.if_icmp .ge 18, 3) := by decide +kernel
theorem dX5_init_322 : decode cX5_init 322 = .ok (.aload_n 0, 1) := by decide +kernel
theorem dX5_init_323 : decode cX5_init 323 = .ok (.getfield 9, 3) := by decide +kernel
theorem dX5_init_326 : decode cX5_init 326 = .ok (.iconst 4, 1) := by decide +kernel
theorem dX5_init_327 : decode cX5_init 327 = .ok (.iload_n 1, 1) := by decide +kernel
theorem dX5_init_328 : decode cX5_init 328 = .ok (.iadd, 1) := by decide +kernel
theorem dX5_init_329 : decode cX5_init 329 = .ok (.iconst (-1), 1) := by decide +kernel
theorem dX5_init_330 : decode cX5_init 330 = .ok (.iastore, 1) := by decide +kernel
theorem dX5_init_331 : decode cX5_init 331 = .ok (.iinc 1 1, 3) := by decide +kernel
theorem dX5_init_334 : decode cX5_init 334 = .ok (.goto (-18), 3) := by decide +kernel
theorem dX5_init_337 : decode cX5_init 337 = .ok (.return_, 1) := by decide +kernel
theorem dX5_finding_0 : decode cX5_finding 0 = .ok (.aload_n 0, 1) := by decide +kernel
theorem dX5_finding_1 : decode cX5_finding 1 = .ok (.getfield 19, 3) := by decide +kernel
theorem dX5_finding_4 : decode cX5_finding 4 = .ok (.ldc 92, 2) := by decide +kernel
theorem dX5_finding_6 : decode cX5_finding 6 = .ok (.iload_n 1, 1) := by decide +kernel
theorem dX5_finding_7 : decode cX5_finding 7 = .ok (.isub, 1) := by decide +kernel
theorem dX5_finding_8 : decode cX5_finding 8 = .ok (.iconst 1, 1) := by decide +kernel
theorem dX5_finding_9 : decode cX5_finding 9 = .ok (.iadd, 1) := by decide +kernel
theorem dX5_finding_10 : decode cX5_finding 10 = .ok (.dup2, 1) := by decide +kernel
theorem dX5_finding_11 : decode cX5_finding 11 = .ok (.iaload, 1) := by decide +kernel
theorem dX5_finding_12 : decode cX5_finding 12 = .ok (.iconst 1, 1) := by decide +kernel
theorem dX5_finding_13 : decode cX5_finding 13 = .ok (.iadd, 1) := by decide +kernel
theorem dX5_finding_14 : decode cX5_finding 14 = .ok (.iastore, 1) := by decide +kernel
theorem dX5_finding_15 : decode cX5_finding 15 = .ok (.aload_n 0, 1) := by decide +kernel
theorem dX5_finding_16 : decode cX5_finding 16 = .ok (.getfield 19, 3) := by decide +kernel
theorem dX5_finding_19 : decode cX5_finding 19 = .ok (.iconst 0, 1) := by decide +kernel
theorem dX5_finding_20 : decode cX5_finding 20 = .ok (.dup2, 1) := by decide +kernel
theorem dX5_finding_21 : decode cX5_finding 21 = .ok (.iaload, 1) := by decide +kernel
theorem dX5_finding_22 : decode cX5_finding 22 = .ok (.iconst 1, 1) := by decide +kernel
theorem dX5_finding_23 : decode cX5_finding 23 = .ok (.iadd, 1) := by decide +kernel
theorem dX5_finding_24 : decode cX5_finding 24 = .ok (.iastore, 1) := by decide +kernel
theorem dX5_finding_25 : decode cX5_finding 25 = .ok (.iload_n 1, 1) := by decide +kernel
theorem dX5_finding_26 : decode cX5_finding 26 = .ok (.ireturn, 1) := by decide +kernel
theorem dX5_within_0 : decode cX5_within 0 = .ok (.iload_n 0, 1) := by decide +kernel
theorem dX5_within_1 : decode cX5_within 1 = .ok (.iload_n 1, 1) := by decide +kernel
theorem dX5_within_2 : decode cX5_within 2 = .ok (.if_icmp .lt 12, 3) := by decide +kernel
theorem dX5_within_5 : decode cX5_within 5 = .ok (.iload_n 0, 1) := by decide +kernel
theorem dX5_within_6 : decode cX5_within 6 = .ok (.iload_n 2, 1) := by decide +kernel
theorem dX5_within_7 : decode cX5_within 7 = .ok (.if_icmp .gt 7, 3) := by decide +kernel
theorem dX5_within_10 : decode cX5_within 10 = .ok (.iconst 1, 1) := by decide +kernel
theorem dX5_within_11 : decode cX5_within 11 = .ok (.goto 4, 3) := by decide +kernel
theorem dX5_within_14 : decode cX5_within 14 = .ok (.iconst 0, 1) := by decide +kernel
theorem dX5_within_15 : decode cX5_within 15 = .ok (.ireturn, 1) := by decide +kernel
theorem dX5_become_0 : decode cX5_become 0 = .ok (.aload_n 0, 1) := by decide +kernel
theorem dX5_become_1 : decode cX5_become 1 = .ok (.getfield 9, 3) := by decide +kernel
theorem dX5_become_4 : decode cX5_become 4 = .ok (.iload_n 1, 1) := by decide +kernel
theorem dX5_become_5 : decode cX5_become 5 = .ok (.iaload, 1) := by decide +kernel
theorem dX5_become_6 : decode cX5_become 6 = .ok (.istore_n 3, 1) := by decide +kernel
theorem dX5_become_7 : decode cX5_become 7 = .ok (.aload_n 0, 1) := by decide +kernel
theorem dX5_become_8 : decode cX5_become 8 = .ok (.getfield 9, 3) := by decide +kernel
theorem dX5_become_11 : decode cX5_become 11 = .ok (.iload_n 1, 1) := by decide +kernel
theorem dX5_become_12 : decode cX5_become 12 = .ok (.iload_n 2, 1) := by decide +kernel
theorem dX5_become_13 : decode cX5_become 13 = .ok (.iastore, 1) := by decide +kernel
theorem dX5_become_14 : decode cX5_become 14 = .ok (.iload_n 3, 1) := by decide +kernel
theorem dX5_become_15 : decode cX5_become 15 = .ok (.ireturn, 1) := by decide +kernel
theorem dX5_copyRow_0 : decode cX5_copyRow 0 = .ok (.iconst 0, 1) := by decide +kernel
theorem dX5_copyRow_1 : decode cX5_copyRow 1 = .ok (.istore_n 2, 1) := by decide +kernel
theorem dX5_copyRow_2 : decode cX5_copyRow 2 = .ok (.iload_n 2, 1) := by decide +kernel
theorem dX5_copyRow_3 : decode cX5_copyRow 3 = .ok (.bipush 86, 2) := by decide +kernel
theorem dX5_copyRow_5 : decode cX5_copyRow 5 = .ok (.if_icmp .ge 15, 3) := by decide +kernel
theorem dX5_copyRow_8 : decode cX5_copyRow 8 = .ok (.aload_n 1, 1) := by decide +kernel
theorem dX5_copyRow_9 : decode cX5_copyRow 9 = .ok (.iload_n 2, 1) := by decide +kernel
theorem dX5_copyRow_10 : decode cX5_copyRow 10 = .ok (.aload_n 0, 1) := by decide +kernel
theorem dX5_copyRow_11 : decode cX5_copyRow 11 = .ok (.iload_n 2, 1) := by decide +kernel
theorem dX5_copyRow_12 : decode cX5_copyRow 12 = .ok (.iaload, 1) := by decide +kernel
theorem dX5_copyRow_13 : decode cX5_copyRow 13 = .ok (.iastore, 1) := by decide +kernel
theorem dX5_copyRow_14 : decode cX5_copyRow 14 = .ok (.iinc 2 1, 3) := by decide +kernel
theorem dX5_copyRow_17 : decode cX5_copyRow 17 = .ok (.goto (-15), 3) := by decide +kernel
theorem dX5_copyRow_20 : decode cX5_copyRow 20 = .ok (.return_, 1) := by decide +kernel
theorem dX5_putBack_0 : decode cX5_putBack 0 = .ok (.aload_n 0, 1) := by decide +kernel
theorem dX5_putBack_1 : decode cX5_putBack 1 = .ok (.getfield 16, 3) := by decide +kernel
theorem dX5_putBack_4 : decode cX5_putBack 4 = .ok (.aload_n 0, 1) := by decide +kernel
theorem dX5_putBack_5 : decode cX5_putBack 5 = .ok (.getfield 9, 3) := by decide +kernel
theorem dX5_putBack_8 : decode cX5_putBack 8 = .ok (.invokestatic 93, 3) := by decide +kernel
theorem dX5_putBack_11 : decode cX5_putBack 11 = .ok (.iload_n 1, 1) := by decide +kernel
theorem dX5_putBack_12 : decode cX5_putBack 12 = .ok (.ireturn, 1) := by decide +kernel
theorem dX5_has_0 : decode cX5_has 0 = .ok (.iload_n 0, 1) := by decide +kernel
theorem dX5_has_1 : decode cX5_has 1 = .ok (.iload_n 1, 1) := by decide +kernel
theorem dX5_has_2 : decode cX5_has 2 = .ok (.ishr, 1) := by decide +kernel
theorem dX5_has_3 : decode cX5_has 3 = .ok (.iconst 1, 1) := by decide +kernel
theorem dX5_has_4 : decode cX5_has 4 = .ok (.iand, 1) := by decide +kernel
theorem dX5_has_5 : decode cX5_has 5 = .ok (.iconst 1, 1) := by decide +kernel
theorem dX5_has_6 : decode cX5_has 6 = .ok (.if_icmp .ne 7, 3) := by decide +kernel
theorem dX5_has_9 : decode cX5_has 9 = .ok (.iconst 1, 1) := by decide +kernel
theorem dX5_has_10 : decode cX5_has 10 = .ok (.goto 4, 3) := by decide +kernel
theorem dX5_has_13 : decode cX5_has 13 = .ok (.iconst 0, 1) := by decide +kernel
theorem dX5_has_14 : decode cX5_has 14 = .ok (.ireturn, 1) := by decide +kernel
theorem dX5_isRoom_0 : decode cX5_isRoom 0 = .ok (.iload_n 1, 1) := by decide +kernel
theorem dX5_isRoom_1 : decode cX5_isRoom 1 = .ok (.iconst 0, 1) := by decide +kernel
theorem dX5_isRoom_2 : decode cX5_isRoom 2 = .ok (.aload_n 0, 1) := by decide +kernel
theorem dX5_isRoom_3 : decode cX5_isRoom 3 = .ok (.getfield 9, 3) := by decide +kernel
theorem dX5_isRoom_6 : decode cX5_isRoom 6 = .ok (.iconst 2, 1) := by decide +kernel
theorem dX5_isRoom_7 : decode cX5_isRoom 7 = .ok (.iaload, 1) := by decide +kernel
theorem dX5_isRoom_8 : decode cX5_isRoom 8 = .ok (.iconst 1, 1) := by decide +kernel
theorem dX5_isRoom_9 : decode cX5_isRoom 9 = .ok (.isub, 1) := by decide +kernel
theorem dX5_isRoom_10 : decode cX5_isRoom 10 = .ok (.invokestatic 97, 3) := by decide +kernel
theorem dX5_isRoom_13 : decode cX5_isRoom 13 = .ok (.ireturn, 1) := by decide +kernel
theorem dX5_isKind_0 : decode cX5_isKind 0 = .ok (.iload_n 0, 1) := by decide +kernel
theorem dX5_isKind_1 : decode cX5_isKind 1 = .ok (.iconst 0, 1) := by decide +kernel
theorem dX5_isKind_2 : decode cX5_isKind 2 = .ok (.bipush 6, 2) := by decide +kernel
theorem dX5_isKind_4 : decode cX5_isKind 4 = .ok (.invokestatic 97, 3) := by decide +kernel
theorem dX5_isKind_7 : decode cX5_isKind 7 = .ok (.ireturn, 1) := by decide +kernel
theorem dX5_at_0 : decode cX5_at 0 = .ok (.bipush 14, 2) := by decide +kernel
theorem dX5_at_2 : decode cX5_at 2 = .ok (.bipush 9, 2) := by decide +kernel
theorem dX5_at_4 : decode cX5_at 4 = .ok (.iload_n 0, 1) := by decide +kernel
theorem dX5_at_5 : decode cX5_at 5 = .ok (.imul, 1) := by decide +kernel
theorem dX5_at_6 : decode cX5_at 6 = .ok (.iadd, 1) := by decide +kernel
theorem dX5_at_7 : decode cX5_at 7 = .ok (.iload_n 1, 1) := by decide +kernel
theorem dX5_at_8 : decode cX5_at 8 = .ok (.iadd, 1) := by decide +kernel
theorem dX5_at_9 : decode cX5_at 9 = .ok (.ireturn, 1) := by decide +kernel
theorem dX5_roomIs_0 : decode cX5_roomIs 0 = .ok (.aload_n 0, 1) := by decide +kernel
theorem dX5_roomIs_1 : decode cX5_roomIs 1 = .ok (.getfield 9, 3) := by decide +kernel
theorem dX5_roomIs_4 : decode cX5_roomIs 4 = .ok (.iload_n 1, 1) := by decide +kernel
theorem dX5_roomIs_5 : decode cX5_roomIs 5 = .ok (.iload_n 2, 1) := by decide +kernel
theorem dX5_roomIs_6 : decode cX5_roomIs 6 = .ok (.invokestatic 101, 3) := by decide +kernel
theorem dX5_roomIs_9 : decode cX5_roomIs 9 = .ok (.iaload, 1) := by decide +kernel
theorem dX5_roomIs_10 : decode cX5_roomIs 10 = .ok (.ireturn, 1) := by decide +kernel
theorem dX5_comes_0 : decode cX5_comes 0 = .ok (.aload_n 0, 1) := by decide +kernel
theorem dX5_comes_1 : decode cX5_comes 1 = .ok (.getfield 9, 3) := by decide +kernel
theorem dX5_comes_4 : decode cX5_comes 4 = .ok (.iconst 2, 1) := by decide +kernel
theorem dX5_comes_5 : decode cX5_comes 5 = .ok (.iaload, 1) := by decide +kernel
theorem dX5_comes_6 : decode cX5_comes 6 = .ok (.istore_n 2, 1) := by decide +kernel
theorem dX5_comes_7 : decode cX5_comes 7 = .ok (.aload_n 0, 1) := by decide +kernel
theorem dX5_comes_8 : decode cX5_comes 8 = .ok (.getfield 9, 3) := by decide +kernel
theorem dX5_comes_11 : decode cX5_comes 11 = .ok (.iload_n 2, 1) := by decide +kernel
theorem dX5_comes_12 : decode cX5_comes 12 = .ok (.iconst 0, 1) := by decide +kernel
theorem dX5_comes_13 : decode cX5_comes 13 = .ok (.invokestatic 101, 3) := by decide +kernel
theorem dX5_comes_16 : decode cX5_comes 16 = .ok (.iload_n 1, 1) := by decide +kernel
theorem dX5_comes_17 : decode cX5_comes 17 = .ok (.iastore, 1) := by decide +kernel
theorem dX5_comes_18 : decode cX5_comes 18 = .ok (.aload_n 0, 1) := by decide +kernel
theorem dX5_comes_19 : decode cX5_comes 19 = .ok (.getfield 9, 3) := by decide +kernel
theorem dX5_comes_22 : decode cX5_comes 22 = .ok (.iload_n 2, 1) := by decide +kernel
theorem dX5_comes_23 : decode cX5_comes 23 = .ok (.iconst 1, 1) := by decide +kernel
theorem dX5_comes_24 : decode cX5_comes 24 = .ok (.invokestatic 101, 3) := by decide +kernel
theorem dX5_comes_27 : decode cX5_comes 27 = .ok (.bipush 100, 2) := by decide +kernel
theorem dX5_comes_29 : decode cX5_comes 29 = .ok (.iastore, 1) := by decide +kernel
theorem dX5_comes_30 : decode cX5_comes 30 = .ok (.aload_n 0, 1) := by decide +kernel
theorem dX5_comes_31 : decode cX5_comes 31 = .ok (.getfield 9, 3) := by decide +kernel
theorem dX5_comes_34 : decode cX5_comes 34 = .ok (.iload_n 2, 1) := by decide +kernel
theorem dX5_comes_35 : decode cX5_comes 35 = .ok (.iconst 2, 1) := by decide +kernel
theorem dX5_comes_36 : decode cX5_comes 36 = .ok (.invokestatic 101, 3) := by decide +kernel
theorem dX5_comes_39 : decode cX5_comes 39 = .ok (.bipush 50, 2) := by decide +kernel
theorem dX5_comes_41 : decode cX5_comes 41 = .ok (.iastore, 1) := by decide +kernel
theorem dX5_comes_42 : decode cX5_comes 42 = .ok (.aload_n 0, 1) := by decide +kernel
theorem dX5_comes_43 : decode cX5_comes 43 = .ok (.getfield 9, 3) := by decide +kernel
theorem dX5_comes_46 : decode cX5_comes 46 = .ok (.iload_n 2, 1) := by decide +kernel
theorem dX5_comes_47 : decode cX5_comes 47 = .ok (.iconst 3, 1) := by decide +kernel
theorem dX5_comes_48 : decode cX5_comes 48 = .ok (.invokestatic 101, 3) := by decide +kernel
theorem dX5_comes_51 : decode cX5_comes 51 = .ok (.bipush 10, 2) := by decide +kernel
theorem dX5_comes_53 : decode cX5_comes 53 = .ok (.iastore, 1) := by decide +kernel
theorem dX5_comes_54 : decode cX5_comes 54 = .ok (.aload_n 0, 1) := by decide +kernel
theorem dX5_comes_55 : decode cX5_comes 55 = .ok (.getfield 9, 3) := by decide +kernel
theorem dX5_comes_58 : decode cX5_comes 58 = .ok (.iload_n 2, 1) := by decide +kernel
theorem dX5_comes_59 : decode cX5_comes 59 = .ok (.iconst 4, 1) := by decide +kernel
theorem dX5_comes_60 : decode cX5_comes 60 = .ok (.invokestatic 101, 3) := by decide +kernel
theorem dX5_comes_63 : decode cX5_comes 63 = .ok (.iload_n 2, 1) := by decide +kernel
theorem dX5_comes_64 : decode cX5_comes 64 = .ok (.iconst 1, 1) := by decide +kernel
theorem dX5_comes_65 : decode cX5_comes 65 = .ok (.iadd, 1) := by decide +kernel
theorem dX5_comes_66 : decode cX5_comes 66 = .ok (.bipush 8, 2) := by decide +kernel
theorem dX5_comes_68 : decode cX5_comes 68 = .ok (.irem, 1) := by decide +kernel
theorem dX5_comes_69 : decode cX5_comes 69 = .ok (.iastore, 1) := by decide +kernel
theorem dX5_comes_70 : decode cX5_comes 70 = .ok (.aload_n 0, 1) := by decide +kernel
theorem dX5_comes_71 : decode cX5_comes 71 = .ok (.getfield 9, 3) := by decide +kernel
theorem dX5_comes_74 : decode cX5_comes 74 = .ok (.iload_n 2, 1) := by decide +kernel
theorem dX5_comes_75 : decode cX5_comes 75 = .ok (.iconst 5, 1) := by decide +kernel
theorem dX5_comes_76 : decode cX5_comes 76 = .ok (.invokestatic 101, 3) := by decide +kernel
theorem dX5_comes_79 : decode cX5_comes 79 = .ok (.iconst 0, 1) := by decide +kernel
theorem dX5_comes_80 : decode cX5_comes 80 = .ok (.iastore, 1) := by decide +kernel
theorem dX5_comes_81 : decode cX5_comes 81 = .ok (.aload_n 0, 1) := by decide +kernel
theorem dX5_comes_82 : decode cX5_comes 82 = .ok (.getfield 9, 3) := by decide +kernel
theorem dX5_comes_85 : decode cX5_comes 85 = .ok (.iload_n 2, 1) := by decide +kernel
theorem dX5_comes_86 : decode cX5_comes 86 = .ok (.bipush 6, 2) := by decide +kernel
theorem dX5_comes_88 : decode cX5_comes 88 = .ok (.invokestatic 101, 3) := by decide +kernel
theorem dX5_comes_91 : decode cX5_comes 91 = .ok (.iconst 0, 1) := by decide +kernel
theorem dX5_comes_92 : decode cX5_comes 92 = .ok (.iastore, 1) := by decide +kernel
theorem dX5_comes_93 : decode cX5_comes 93 = .ok (.aload_n 0, 1) := by decide +kernel
theorem dX5_comes_94 : decode cX5_comes 94 = .ok (.getfield 9, 3) := by decide +kernel
theorem dX5_comes_97 : decode cX5_comes 97 = .ok (.iload_n 2, 1) := by decide +kernel
theorem dX5_comes_98 : decode cX5_comes 98 = .ok (.bipush 7, 2) := by decide +kernel
theorem dX5_comes_100 : decode cX5_comes 100 = .ok (.invokestatic 101, 3) := by decide +kernel
theorem dX5_comes_103 : decode cX5_comes 103 = .ok (.iconst 1, 1) := by decide +kernel
theorem dX5_comes_104 : decode cX5_comes 104 = .ok (.iastore, 1) := by decide +kernel
theorem dX5_comes_105 : decode cX5_comes 105 = .ok (.aload_n 0, 1) := by decide +kernel
theorem dX5_comes_106 : decode cX5_comes 106 = .ok (.getfield 9, 3) := by decide +kernel
theorem dX5_comes_109 : decode cX5_comes 109 = .ok (.iload_n 2, 1) := by decide +kernel
theorem dX5_comes_110 : decode cX5_comes 110 = .ok (.bipush 8, 2) := by decide +kernel
theorem dX5_comes_112 : decode cX5_comes 112 = .ok (.invokestatic 101, 3) := by decide +kernel
theorem dX5_comes_115 : decode cX5_comes 115 = .ok (.iconst 1, 1) := by decide +kernel
theorem dX5_comes_116 : decode cX5_comes 116 = .ok (.iastore, 1) := by decide +kernel
theorem dX5_comes_117 : decode cX5_comes 117 = .ok (.aload_n 0, 1) := by decide +kernel
theorem dX5_comes_118 : decode cX5_comes 118 = .ok (.getfield 9, 3) := by decide +kernel
theorem dX5_comes_121 : decode cX5_comes 121 = .ok (.iconst 2, 1) := by decide +kernel
theorem dX5_comes_122 : decode cX5_comes 122 = .ok (.dup2, 1) := by decide +kernel
theorem dX5_comes_123 : decode cX5_comes 123 = .ok (.iaload, 1) := by decide +kernel
theorem dX5_comes_124 : decode cX5_comes 124 = .ok (.iconst 1, 1) := by decide +kernel
theorem dX5_comes_125 : decode cX5_comes 125 = .ok (.iadd, 1) := by decide +kernel
theorem dX5_comes_126 : decode cX5_comes 126 = .ok (.iastore, 1) := by decide +kernel
theorem dX5_comes_127 : decode cX5_comes 127 = .ok (.iload_n 2, 1) := by decide +kernel
theorem dX5_comes_128 : decode cX5_comes 128 = .ok (.ireturn, 1) := by decide +kernel
theorem dX5_room_0 : decode cX5_room 0 = .ok (.iload_n 1, 1) := by decide +kernel
theorem dX5_room_1 : decode cX5_room 1 = .ok (.invokestatic 105, 3) := by decide +kernel
theorem dX5_room_4 : decode cX5_room 4 = .ok (.ifCond .ne 10, 3) := by decide +kernel
theorem dX5_room_7 : decode cX5_room 7 = .ok (.aload_n 0, 1) := by decide +kernel
theorem dX5_room_8 : decode cX5_room 8 = .ok (.ldc 92, 2) := by decide +kernel
theorem dX5_room_10 : decode cX5_room 10 = .ok (.invokevirtual 109, 3) := by decide +kernel
theorem dX5_room_13 : decode cX5_room 13 = .ok (.ireturn, 1) := by decide +kernel
theorem dX5_room_14 : decode cX5_room 14 = .ok (.aload_n 0, 1) := by decide +kernel
theorem dX5_room_15 : decode cX5_room 15 = .ok (.getfield 9, 3) := by decide +kernel
theorem dX5_room_18 : decode cX5_room 18 = .ok (.iconst 2, 1) := by decide +kernel
theorem dX5_room_19 : decode cX5_room 19 = .ok (.iaload, 1) := by decide +kernel
theorem dX5_room_20 : decode cX5_room 20 = .ok (.bipush 8, 2) := by decide +kernel
theorem dX5_room_22 : decode cX5_room 22 = .ok (.if_icmp .ne 12, 3) := by decide +kernel
theorem dX5_room_25 : decode cX5_room 25 = .ok (.aload_n 0, 1) := by decide +kernel
theorem dX5_room_26 : decode cX5_room 26 = .ok (.ldc 113, 2) := by decide +kernel
theorem dX5_room_28 : decode cX5_room 28 = .ok (.invokevirtual 109, 3) := by decide +kernel
theorem dX5_room_31 : decode cX5_room 31 = .ok (.goto 8, 3) := by decide +kernel
theorem dX5_room_34 : decode cX5_room 34 = .ok (.aload_n 0, 1) := by decide +kernel
theorem dX5_room_35 : decode cX5_room 35 = .ok (.iload_n 1, 1) := by decide +kernel
theorem dX5_room_36 : decode cX5_room 36 = .ok (.invokevirtual 114, 3) := by decide +kernel
theorem dX5_room_39 : decode cX5_room 39 = .ok (.ireturn, 1) := by decide +kernel
theorem dX5_above_0 : decode cX5_above 0 = .ok (.iload_n 0, 1) := by decide +kernel
theorem dX5_above_1 : decode cX5_above 1 = .ok (.ifCond .ne 7, 3) := by decide +kernel
theorem dX5_above_4 : decode cX5_above 4 = .ok (.iconst (-1), 1) := by decide +kernel
theorem dX5_above_5 : decode cX5_above 5 = .ok (.goto 28, 3) := by decide +kernel
theorem dX5_above_8 : decode cX5_above 8 = .ok (.iload_n 0, 1) := by decide +kernel
theorem dX5_above_9 : decode cX5_above 9 = .ok (.iconst 3, 1) := by decide +kernel
theorem dX5_above_10 : decode cX5_above 10 = .ok (.if_icmp .eq 9, 3) := by decide +kernel
theorem dX5_above_13 : decode cX5_above 13 = .ok (.iload_n 0, 1) := by decide +kernel
theorem dX5_above_14 : decode cX5_above 14 = .ok (.bipush 6, 2) := by decide +kernel
theorem dX5_above_16 : decode cX5_above 16 = .ok (.if_icmp .ne 7, 3) := by decide +kernel
theorem dX5_above_19 : decode cX5_above 19 = .ok (.iconst 2, 1) := by decide +kernel
theorem dX5_above_20 : decode cX5_above 20 = .ok (.goto 13, 3) := by decide +kernel
theorem dX5_above_23 : decode cX5_above 23 = .ok (.iload_n 0, 1) := by decide +kernel
theorem dX5_above_24 : decode cX5_above 24 = .ok (.iconst 4, 1) := by decide +kernel
theorem dX5_above_25 : decode cX5_above 25 = .ok (.if_icmp .ne 7, 3) := by decide +kernel
theorem dX5_above_28 : decode cX5_above 28 = .ok (.iconst 1, 1) := by decide +kernel
theorem dX5_above_29 : decode cX5_above 29 = .ok (.goto 4, 3) := by decide +kernel
theorem dX5_above_32 : decode cX5_above 32 = .ok (.iconst 0, 1) := by decide +kernel
theorem dX5_above_33 : decode cX5_above 33 = .ok (.ireturn, 1) := by decide +kernel
theorem dX5_isUnder_0 : decode cX5_isUnder 0 = .ok (.iload_n 0, 1) := by decide +kernel
theorem dX5_isUnder_1 : decode cX5_isUnder 1 = .ok (.istore_n 2, 1) := by decide +kernel
theorem dX5_isUnder_2 : decode cX5_isUnder 2 = .ok (.iload_n 2, 1) := by decide +kernel
theorem dX5_isUnder_3 : decode cX5_isUnder 3 = .ok (.ifCond .lt 16, 3) := by decide +kernel
theorem dX5_isUnder_6 : decode cX5_isUnder 6 = .ok (.iload_n 2, 1) := by decide +kernel
theorem dX5_isUnder_7 : decode cX5_isUnder 7 = .ok (.iload_n 1, 1) := by decide +kernel
theorem dX5_isUnder_8 : decode cX5_isUnder 8 = .ok (.if_icmp .eq 11, 3) := by decide +kernel
theorem dX5_isUnder_11 : decode cX5_isUnder 11 = .ok (.iload_n 2, 1) := by decide +kernel
theorem dX5_isUnder_12 : decode cX5_isUnder 12 = .ok (.invokestatic 117, 3) := by decide +kernel
theorem dX5_isUnder_15 : decode cX5_isUnder 15 = .ok (.istore_n 2, 1) := by decide +kernel
theorem dX5_isUnder_16 : decode cX5_isUnder 16 = .ok (.goto (-14), 3) := by decide +kernel
theorem dX5_isUnder_19 : decode cX5_isUnder 19 = .ok (.iload_n 2, 1) := by decide +kernel
theorem dX5_isUnder_20 : decode cX5_isUnder 20 = .ok (.ifCond .lt 7, 3) := by decide +kernel
theorem dX5_isUnder_23 : decode cX5_isUnder 23 = .ok (.iconst 1, 1) := by decide +kernel
theorem dX5_isUnder_24 : decode cX5_isUnder 24 = .ok (.goto 4, 3) := by decide +kernel
theorem dX5_isUnder_27 : decode cX5_isUnder 27 = .ok (.iconst 0, 1) := by decide +kernel
theorem dX5_isUnder_28 : decode cX5_isUnder 28 = .ok (.ireturn, 1) := by decide +kernel
theorem dX5_wants_0 : decode cX5_wants 0 = .ok (.iconst 3, 1) := by decide +kernel
theorem dX5_wants_1 : decode cX5_wants 1 = .ok (.aload_n 0, 1) := by decide +kernel
theorem dX5_wants_2 : decode cX5_wants 2 = .ok (.iload_n 1, 1) := by decide +kernel
theorem dX5_wants_3 : decode cX5_wants 3 = .ok (.bipush 7, 2) := by decide +kernel
theorem dX5_wants_5 : decode cX5_wants 5 = .ok (.invokevirtual 120, 3) := by decide +kernel
theorem dX5_wants_8 : decode cX5_wants 8 = .ok (.invokestatic 123, 3) := by decide +kernel
theorem dX5_wants_11 : decode cX5_wants 11 = .ok (.istore_n 2, 1) := by decide +kernel
theorem dX5_wants_12 : decode cX5_wants 12 = .ok (.aload_n 0, 1) := by decide +kernel
theorem dX5_wants_13 : decode cX5_wants 13 = .ok (.iload_n 1, 1) := by decide +kernel
theorem dX5_wants_14 : decode cX5_wants 14 = .ok (.iconst 1, 1) := by decide +kernel
theorem dX5_wants_15 : decode cX5_wants 15 = .ok (.invokevirtual 120, 3) := by decide +kernel
theorem dX5_wants_18 : decode cX5_wants 18 = .ok (.bipush 120, 2) := by decide +kernel
theorem dX5_wants_20 : decode cX5_wants 20 = .ok (.if_icmp .lt 7, 3) := by decide +kernel
theorem dX5_wants_23 : decode cX5_wants 23 = .ok (.iconst 2, 1) := by decide +kernel
theorem dX5_wants_24 : decode cX5_wants 24 = .ok (.goto 4, 3) := by decide +kernel
theorem dX5_wants_27 : decode cX5_wants 27 = .ok (.iconst 1, 1) := by decide +kernel
theorem dX5_wants_28 : decode cX5_wants 28 = .ok (.istore_n 3, 1) := by decide +kernel
theorem dX5_wants_29 : decode cX5_wants 29 = .ok (.aload_n 0, 1) := by decide +kernel
theorem dX5_wants_30 : decode cX5_wants 30 = .ok (.iload_n 1, 1) := by decide +kernel
theorem dX5_wants_31 : decode cX5_wants 31 = .ok (.iconst 0, 1) := by decide +kernel
theorem dX5_wants_32 : decode cX5_wants 32 = .ok (.invokevirtual 120, 3) := by decide +kernel
theorem dX5_wants_35 : decode cX5_wants 35 = .ok (.tableswitch 90 1 6 #[37, 43, 45, 39, 66, 49], 37) := by decide +kernel
theorem dX5_wants_72 : decode cX5_wants 72 = .ok (.iload_n 3, 1) := by decide +kernel
theorem dX5_wants_73 : decode cX5_wants 73 = .ok (.ireturn, 1) := by decide +kernel
theorem dX5_wants_74 : decode cX5_wants 74 = .ok (.iload_n 3, 1) := by decide +kernel
theorem dX5_wants_75 : decode cX5_wants 75 = .ok (.iconst 1, 1) := by decide +kernel
theorem dX5_wants_76 : decode cX5_wants 76 = .ok (.iadd, 1) := by decide +kernel
theorem dX5_wants_77 : decode cX5_wants 77 = .ok (.ireturn, 1) := by decide +kernel
theorem dX5_wants_78 : decode cX5_wants 78 = .ok (.iload_n 2, 1) := by decide +kernel
theorem dX5_wants_79 : decode cX5_wants 79 = .ok (.ireturn, 1) := by decide +kernel
theorem dX5_wants_80 : decode cX5_wants 80 = .ok (.iload_n 2, 1) := by decide +kernel
theorem dX5_wants_81 : decode cX5_wants 81 = .ok (.iconst 2, 1) := by decide +kernel
theorem dX5_wants_82 : decode cX5_wants 82 = .ok (.idiv, 1) := by decide +kernel
theorem dX5_wants_83 : decode cX5_wants 83 = .ok (.ireturn, 1) := by decide +kernel
theorem dX5_wants_84 : decode cX5_wants 84 = .ok (.aload_n 0, 1) := by decide +kernel
theorem dX5_wants_85 : decode cX5_wants 85 = .ok (.iload_n 1, 1) := by decide +kernel
theorem dX5_wants_86 : decode cX5_wants 86 = .ok (.bipush 7, 2) := by decide +kernel
theorem dX5_wants_88 : decode cX5_wants 88 = .ok (.invokevirtual 120, 3) := by decide +kernel
theorem dX5_wants_91 : decode cX5_wants 91 = .ok (.iconst 2, 1) := by decide +kernel
theorem dX5_wants_92 : decode cX5_wants 92 = .ok (.if_icmp .ge 7, 3) := by decide +kernel
theorem dX5_wants_95 : decode cX5_wants 95 = .ok (.iconst 0, 1) := by decide +kernel
theorem dX5_wants_96 : decode cX5_wants 96 = .ok (.goto 4, 3) := by decide +kernel
theorem dX5_wants_99 : decode cX5_wants 99 = .ok (.iload_n 2, 1) := by decide +kernel
theorem dX5_wants_100 : decode cX5_wants 100 = .ok (.ireturn, 1) := by decide +kernel
theorem dX5_wants_101 : decode cX5_wants 101 = .ok (.aload_n 0, 1) := by decide +kernel
theorem dX5_wants_102 : decode cX5_wants 102 = .ok (.getfield 9, 3) := by decide +kernel
theorem dX5_wants_105 : decode cX5_wants 105 = .ok (.iconst 0, 1) := by decide +kernel
theorem dX5_wants_106 : decode cX5_wants 106 = .ok (.iaload, 1) := by decide +kernel
theorem dX5_wants_107 : decode cX5_wants 107 = .ok (.iconst 2, 1) := by decide +kernel
theorem dX5_wants_108 : decode cX5_wants 108 = .ok (.irem, 1) := by decide +kernel
theorem dX5_wants_109 : decode cX5_wants 109 = .ok (.iconst 1, 1) := by decide +kernel
theorem dX5_wants_110 : decode cX5_wants 110 = .ok (.if_icmp .ne 13, 3) := by decide +kernel
theorem dX5_wants_113 : decode cX5_wants 113 = .ok (.aload_n 0, 1) := by decide +kernel
theorem dX5_wants_114 : decode cX5_wants 114 = .ok (.iload_n 1, 1) := by decide +kernel
theorem dX5_wants_115 : decode cX5_wants 115 = .ok (.bipush 8, 2) := by decide +kernel
theorem dX5_wants_117 : decode cX5_wants 117 = .ok (.invokevirtual 120, 3) := by decide +kernel
theorem dX5_wants_120 : decode cX5_wants 120 = .ok (.goto 4, 3) := by decide +kernel
theorem dX5_wants_123 : decode cX5_wants 123 = .ok (.iconst 1, 1) := by decide +kernel
theorem dX5_wants_124 : decode cX5_wants 124 = .ok (.ireturn, 1) := by decide +kernel
theorem dX5_wants_125 : decode cX5_wants 125 = .ok (.iconst 1, 1) := by decide +kernel
theorem dX5_wants_126 : decode cX5_wants 126 = .ok (.ireturn, 1) := by decide +kernel
theorem dX5_of_0 : decode cX5_of 0 = .ok (.aload_n 0, 1) := by decide +kernel
theorem dX5_of_1 : decode cX5_of 1 = .ok (.iload_n 1, 1) := by decide +kernel
theorem dX5_of_2 : decode cX5_of 2 = .ok (.invokevirtual 128, 3) := by decide +kernel
theorem dX5_of_5 : decode cX5_of 5 = .ok (.ifCond .eq 13, 3) := by decide +kernel
theorem dX5_of_8 : decode cX5_of 8 = .ok (.iload_n 2, 1) := by decide +kernel
theorem dX5_of_9 : decode cX5_of 9 = .ok (.iconst 0, 1) := by decide +kernel
theorem dX5_of_10 : decode cX5_of 10 = .ok (.bipush 9, 2) := by decide +kernel
theorem dX5_of_12 : decode cX5_of 12 = .ok (.invokestatic 97, 3) := by decide +kernel
theorem dX5_of_15 : decode cX5_of 15 = .ok (.ifCond .ne 10, 3) := by decide +kernel
theorem dX5_of_18 : decode cX5_of 18 = .ok (.aload_n 0, 1) := by decide +kernel
theorem dX5_of_19 : decode cX5_of 19 = .ok (.ldc 92, 2) := by decide +kernel
theorem dX5_of_21 : decode cX5_of 21 = .ok (.invokevirtual 109, 3) := by decide +kernel
theorem dX5_of_24 : decode cX5_of 24 = .ok (.ireturn, 1) := by decide +kernel
theorem dX5_of_25 : decode cX5_of 25 = .ok (.iload_n 2, 1) := by decide +kernel
theorem dX5_of_26 : decode cX5_of 26 = .ok (.bipush 9, 2) := by decide +kernel
theorem dX5_of_28 : decode cX5_of 28 = .ok (.if_icmp .ne 11, 3) := by decide +kernel
theorem dX5_of_31 : decode cX5_of 31 = .ok (.aload_n 0, 1) := by decide +kernel
theorem dX5_of_32 : decode cX5_of 32 = .ok (.iload_n 1, 1) := by decide +kernel
theorem dX5_of_33 : decode cX5_of 33 = .ok (.invokevirtual 131, 3) := by decide +kernel
theorem dX5_of_36 : decode cX5_of 36 = .ok (.goto 9, 3) := by decide +kernel
theorem dX5_of_39 : decode cX5_of 39 = .ok (.aload_n 0, 1) := by decide +kernel
theorem dX5_of_40 : decode cX5_of 40 = .ok (.iload_n 1, 1) := by decide +kernel
theorem dX5_of_41 : decode cX5_of 41 = .ok (.iload_n 2, 1) := by decide +kernel
theorem dX5_of_42 : decode cX5_of 42 = .ok (.invokevirtual 120, 3) := by decide +kernel
theorem dX5_of_45 : decode cX5_of 45 = .ok (.ireturn, 1) := by decide +kernel
theorem dX5_change_0 : decode cX5_change 0 = .ok (.aload_n 0, 1) := by decide +kernel
theorem dX5_change_1 : decode cX5_change 1 = .ok (.iload_n 1, 1) := by decide +kernel
theorem dX5_change_2 : decode cX5_change 2 = .ok (.invokevirtual 128, 3) := by decide +kernel
theorem dX5_change_5 : decode cX5_change 5 = .ok (.ifCond .eq 46, 3) := by decide +kernel
theorem dX5_change_8 : decode cX5_change 8 = .ok (.iload_n 2, 1) := by decide +kernel
theorem dX5_change_9 : decode cX5_change 9 = .ok (.iconst 0, 1) := by decide +kernel
theorem dX5_change_10 : decode cX5_change 10 = .ok (.bipush 8, 2) := by decide +kernel
theorem dX5_change_12 : decode cX5_change 12 = .ok (.invokestatic 97, 3) := by decide +kernel
theorem dX5_change_15 : decode cX5_change 15 = .ok (.ifCond .eq 36, 3) := by decide +kernel
theorem dX5_change_18 : decode cX5_change 18 = .ok (.iload_n 3, 1) := by decide +kernel
theorem dX5_change_19 : decode cX5_change 19 = .ok (.aload_n 0, 1) := by decide +kernel
theorem dX5_change_20 : decode cX5_change 20 = .ok (.getfield 22, 3) := by decide +kernel
theorem dX5_change_23 : decode cX5_change 23 = .ok (.iload_n 2, 1) := by decide +kernel
theorem dX5_change_24 : decode cX5_change 24 = .ok (.iaload, 1) := by decide +kernel
theorem dX5_change_25 : decode cX5_change 25 = .ok (.aload_n 0, 1) := by decide +kernel
theorem dX5_change_26 : decode cX5_change 26 = .ok (.getfield 25, 3) := by decide +kernel
theorem dX5_change_29 : decode cX5_change 29 = .ok (.iload_n 2, 1) := by decide +kernel
theorem dX5_change_30 : decode cX5_change 30 = .ok (.iaload, 1) := by decide +kernel
theorem dX5_change_31 : decode cX5_change 31 = .ok (.invokestatic 97, 3) := by decide +kernel
theorem dX5_change_34 : decode cX5_change 34 = .ok (.ifCond .eq 17, 3) := by decide +kernel
theorem dX5_change_37 : decode cX5_change 37 = .ok (.iload_n 2, 1) := by decide +kernel
theorem dX5_change_38 : decode cX5_change 38 = .ok (.iconst 4, 1) := by decide +kernel
theorem dX5_change_39 : decode cX5_change 39 = .ok (.if_icmp .ne 8, 3) := by decide +kernel
theorem dX5_change_42 : decode cX5_change 42 = .ok (.iload_n 3, 1) := by decide +kernel
theorem dX5_change_43 : decode cX5_change 43 = .ok (.iload_n 1, 1) := by decide +kernel
theorem dX5_change_44 : decode cX5_change 44 = .ok (.if_icmp .eq 7, 3) := by decide +kernel
theorem dX5_change_47 : decode cX5_change 47 = .ok (.iconst 1, 1) := by decide +kernel
theorem dX5_change_48 : decode cX5_change 48 = .ok (.goto 4, 3) := by decide +kernel
theorem dX5_change_51 : decode cX5_change 51 = .ok (.iconst 0, 1) := by decide +kernel
theorem dX5_change_52 : decode cX5_change 52 = .ok (.istore 4, 2) := by decide +kernel
theorem dX5_change_54 : decode cX5_change 54 = .ok (.iload 4, 2) := by decide +kernel
theorem dX5_change_56 : decode cX5_change 56 = .ok (.ifCond .eq 16, 3) := by decide +kernel
theorem dX5_change_59 : decode cX5_change 59 = .ok (.aload_n 0, 1) := by decide +kernel
theorem dX5_change_60 : decode cX5_change 60 = .ok (.iload_n 1, 1) := by decide +kernel
theorem dX5_change_61 : decode cX5_change 61 = .ok (.iload_n 2, 1) := by decide +kernel
theorem dX5_change_62 : decode cX5_change 62 = .ok (.invokestatic 101, 3) := by decide +kernel
theorem dX5_change_65 : decode cX5_change 65 = .ok (.iload_n 3, 1) := by decide +kernel
theorem dX5_change_66 : decode cX5_change 66 = .ok (.invokevirtual 134, 3) := by decide +kernel
theorem dX5_change_69 : decode cX5_change 69 = .ok (.goto 9, 3) := by decide +kernel
theorem dX5_change_72 : decode cX5_change 72 = .ok (.aload_n 0, 1) := by decide +kernel
theorem dX5_change_73 : decode cX5_change 73 = .ok (.ldc 92, 2) := by decide +kernel
theorem dX5_change_75 : decode cX5_change 75 = .ok (.invokevirtual 109, 3) := by decide +kernel
theorem dX5_change_78 : decode cX5_change 78 = .ok (.ireturn, 1) := by decide +kernel
theorem dX5_out_0 : decode cX5_out 0 = .ok (.iload_n 1, 1) := by decide +kernel
theorem dX5_out_1 : decode cX5_out 1 = .ok (.iconst 0, 1) := by decide +kernel
theorem dX5_out_2 : decode cX5_out 2 = .ok (.bipush 100, 2) := by decide +kernel
theorem dX5_out_4 : decode cX5_out 4 = .ok (.invokestatic 97, 3) := by decide +kernel
theorem dX5_out_7 : decode cX5_out 7 = .ok (.ifCond .eq 12, 3) := by decide +kernel
theorem dX5_out_10 : decode cX5_out 10 = .ok (.aload_n 0, 1) := by decide +kernel
theorem dX5_out_11 : decode cX5_out 11 = .ok (.iconst 1, 1) := by decide +kernel
theorem dX5_out_12 : decode cX5_out 12 = .ok (.iload_n 1, 1) := by decide +kernel
theorem dX5_out_13 : decode cX5_out 13 = .ok (.invokevirtual 134, 3) := by decide +kernel
theorem dX5_out_16 : decode cX5_out 16 = .ok (.goto 9, 3) := by decide +kernel
theorem dX5_out_19 : decode cX5_out 19 = .ok (.aload_n 0, 1) := by decide +kernel
theorem dX5_out_20 : decode cX5_out 20 = .ok (.ldc 92, 2) := by decide +kernel
theorem dX5_out_22 : decode cX5_out 22 = .ok (.invokevirtual 109, 3) := by decide +kernel
theorem dX5_out_25 : decode cX5_out 25 = .ok (.ireturn, 1) := by decide +kernel
theorem dX5_heatersOf_0 : decode cX5_heatersOf 0 = .ok (.iconst 0, 1) := by decide +kernel
theorem dX5_heatersOf_1 : decode cX5_heatersOf 1 = .ok (.istore_n 2, 1) := by decide +kernel
theorem dX5_heatersOf_2 : decode cX5_heatersOf 2 = .ok (.iconst 0, 1) := by decide +kernel
theorem dX5_heatersOf_3 : decode cX5_heatersOf 3 = .ok (.istore_n 3, 1) := by decide +kernel
theorem dX5_heatersOf_4 : decode cX5_heatersOf 4 = .ok (.iload_n 3, 1) := by decide +kernel
theorem dX5_heatersOf_5 : decode cX5_heatersOf 5 = .ok (.aload_n 0, 1) := by decide +kernel
theorem dX5_heatersOf_6 : decode cX5_heatersOf 6 = .ok (.getfield 9, 3) := by decide +kernel
theorem dX5_heatersOf_9 : decode cX5_heatersOf 9 = .ok (.iconst 2, 1) := by decide +kernel
theorem dX5_heatersOf_10 : decode cX5_heatersOf 10 = .ok (.iaload, 1) := by decide +kernel
theorem dX5_heatersOf_11 : decode cX5_heatersOf 11 = .ok (.if_icmp .ge 29, 3) := by decide +kernel
theorem dX5_heatersOf_14 : decode cX5_heatersOf 14 = .ok (.iload_n 2, 1) := by decide +kernel
theorem dX5_heatersOf_15 : decode cX5_heatersOf 15 = .ok (.aload_n 0, 1) := by decide +kernel
theorem dX5_heatersOf_16 : decode cX5_heatersOf 16 = .ok (.iload_n 3, 1) := by decide +kernel
theorem dX5_heatersOf_17 : decode cX5_heatersOf 17 = .ok (.iconst 4, 1) := by decide +kernel
theorem dX5_heatersOf_18 : decode cX5_heatersOf 18 = .ok (.invokevirtual 120, 3) := by decide +kernel
theorem dX5_heatersOf_21 : decode cX5_heatersOf 21 = .ok (.iload_n 1, 1) := by decide +kernel
theorem dX5_heatersOf_22 : decode cX5_heatersOf 22 = .ok (.if_icmp .ne 9, 3) := by decide +kernel
theorem dX5_heatersOf_25 : decode cX5_heatersOf 25 = .ok (.iconst 1, 1) := by decide +kernel
theorem dX5_heatersOf_26 : decode cX5_heatersOf 26 = .ok (.iload_n 3, 1) := by decide +kernel
theorem dX5_heatersOf_27 : decode cX5_heatersOf 27 = .ok (.ishl, 1) := by decide +kernel
theorem dX5_heatersOf_28 : decode cX5_heatersOf 28 = .ok (.goto 4, 3) := by decide +kernel
theorem dX5_heatersOf_31 : decode cX5_heatersOf 31 = .ok (.iconst 0, 1) := by decide +kernel
theorem dX5_heatersOf_32 : decode cX5_heatersOf 32 = .ok (.ior, 1) := by decide +kernel
theorem dX5_heatersOf_33 : decode cX5_heatersOf 33 = .ok (.istore_n 2, 1) := by decide +kernel
theorem dX5_heatersOf_34 : decode cX5_heatersOf 34 = .ok (.iinc 3 1, 3) := by decide +kernel
theorem dX5_heatersOf_37 : decode cX5_heatersOf 37 = .ok (.goto (-33), 3) := by decide +kernel
theorem dX5_heatersOf_40 : decode cX5_heatersOf 40 = .ok (.iload_n 2, 1) := by decide +kernel
theorem dX5_heatersOf_41 : decode cX5_heatersOf 41 = .ok (.ireturn, 1) := by decide +kernel
theorem dX5_heaters_0 : decode cX5_heaters 0 = .ok (.aload_n 0, 1) := by decide +kernel
theorem dX5_heaters_1 : decode cX5_heaters 1 = .ok (.iload_n 1, 1) := by decide +kernel
theorem dX5_heaters_2 : decode cX5_heaters 2 = .ok (.invokevirtual 128, 3) := by decide +kernel
theorem dX5_heaters_5 : decode cX5_heaters 5 = .ok (.ifCond .eq 11, 3) := by decide +kernel
theorem dX5_heaters_8 : decode cX5_heaters 8 = .ok (.aload_n 0, 1) := by decide +kernel
theorem dX5_heaters_9 : decode cX5_heaters 9 = .ok (.iload_n 1, 1) := by decide +kernel
theorem dX5_heaters_10 : decode cX5_heaters 10 = .ok (.invokevirtual 137, 3) := by decide +kernel
theorem dX5_heaters_13 : decode cX5_heaters 13 = .ok (.goto 9, 3) := by decide +kernel
theorem dX5_heaters_16 : decode cX5_heaters 16 = .ok (.aload_n 0, 1) := by decide +kernel
theorem dX5_heaters_17 : decode cX5_heaters 17 = .ok (.ldc 92, 2) := by decide +kernel
theorem dX5_heaters_19 : decode cX5_heaters 19 = .ok (.invokevirtual 109, 3) := by decide +kernel
theorem dX5_heaters_22 : decode cX5_heaters 22 = .ok (.ireturn, 1) := by decide +kernel
theorem dX5_reach_0 : decode cX5_reach 0 = .ok (.aload_n 0, 1) := by decide +kernel
theorem dX5_reach_1 : decode cX5_reach 1 = .ok (.iload_n 1, 1) := by decide +kernel
theorem dX5_reach_2 : decode cX5_reach 2 = .ok (.invokevirtual 128, 3) := by decide +kernel
theorem dX5_reach_5 : decode cX5_reach 5 = .ok (.ifCond .ne 10, 3) := by decide +kernel
theorem dX5_reach_8 : decode cX5_reach 8 = .ok (.aload_n 0, 1) := by decide +kernel
theorem dX5_reach_9 : decode cX5_reach 9 = .ok (.ldc 92, 2) := by decide +kernel
theorem dX5_reach_11 : decode cX5_reach 11 = .ok (.invokevirtual 109, 3) := by decide +kernel
theorem dX5_reach_14 : decode cX5_reach 14 = .ok (.ireturn, 1) := by decide +kernel
theorem dX5_reach_15 : decode cX5_reach 15 = .ok (.iconst 0, 1) := by decide +kernel
theorem dX5_reach_16 : decode cX5_reach 16 = .ok (.istore_n 2, 1) := by decide +kernel
theorem dX5_reach_17 : decode cX5_reach 17 = .ok (.aload_n 0, 1) := by decide +kernel
theorem dX5_reach_18 : decode cX5_reach 18 = .ok (.iload_n 1, 1) := by decide +kernel
theorem dX5_reach_19 : decode cX5_reach 19 = .ok (.iconst 4, 1) := by decide +kernel
theorem dX5_reach_20 : decode cX5_reach 20 = .ok (.invokevirtual 120, 3) := by decide +kernel
theorem dX5_reach_23 : decode cX5_reach 23 = .ok (.istore_n 3, 1) := by decide +kernel
theorem dX5_reach_24 : decode cX5_reach 24 = .ok (.aload_n 0, 1) := by decide +kernel
theorem dX5_reach_25 : decode cX5_reach 25 = .ok (.iload_n 3, 1) := by decide +kernel
theorem dX5_reach_26 : decode cX5_reach 26 = .ok (.invokevirtual 128, 3) := by decide +kernel
theorem dX5_reach_29 : decode cX5_reach 29 = .ok (.ifCond .eq 27, 3) := by decide +kernel
theorem dX5_reach_32 : decode cX5_reach 32 = .ok (.iload_n 2, 1) := by decide +kernel
theorem dX5_reach_33 : decode cX5_reach 33 = .ok (.iload_n 3, 1) := by decide +kernel
theorem dX5_reach_34 : decode cX5_reach 34 = .ok (.invokestatic 140, 3) := by decide +kernel
theorem dX5_reach_37 : decode cX5_reach 37 = .ok (.ifCond .ne 19, 3) := by decide +kernel
theorem dX5_reach_40 : decode cX5_reach 40 = .ok (.iload_n 2, 1) := by decide +kernel
theorem dX5_reach_41 : decode cX5_reach 41 = .ok (.iconst 1, 1) := by decide +kernel
theorem dX5_reach_42 : decode cX5_reach 42 = .ok (.iload_n 3, 1) := by decide +kernel
theorem dX5_reach_43 : decode cX5_reach 43 = .ok (.ishl, 1) := by decide +kernel
theorem dX5_reach_44 : decode cX5_reach 44 = .ok (.ior, 1) := by decide +kernel
theorem dX5_reach_45 : decode cX5_reach 45 = .ok (.istore_n 2, 1) := by decide +kernel
theorem dX5_reach_46 : decode cX5_reach 46 = .ok (.aload_n 0, 1) := by decide +kernel
theorem dX5_reach_47 : decode cX5_reach 47 = .ok (.iload_n 3, 1) := by decide +kernel
theorem dX5_reach_48 : decode cX5_reach 48 = .ok (.iconst 4, 1) := by decide +kernel
theorem dX5_reach_49 : decode cX5_reach 49 = .ok (.invokevirtual 120, 3) := by decide +kernel
theorem dX5_reach_52 : decode cX5_reach 52 = .ok (.istore_n 3, 1) := by decide +kernel
theorem dX5_reach_53 : decode cX5_reach 53 = .ok (.goto (-29), 3) := by decide +kernel
theorem dX5_reach_56 : decode cX5_reach 56 = .ok (.iload_n 2, 1) := by decide +kernel
theorem dX5_reach_57 : decode cX5_reach 57 = .ok (.ireturn, 1) := by decide +kernel
theorem dX5_swap_0 : decode cX5_swap 0 = .ok (.aload_n 0, 1) := by decide +kernel
theorem dX5_swap_1 : decode cX5_swap 1 = .ok (.getfield 9, 3) := by decide +kernel
theorem dX5_swap_4 : decode cX5_swap 4 = .ok (.iload_n 2, 1) := by decide +kernel
theorem dX5_swap_5 : decode cX5_swap 5 = .ok (.iload_n 3, 1) := by decide +kernel
theorem dX5_swap_6 : decode cX5_swap 6 = .ok (.invokestatic 101, 3) := by decide +kernel
theorem dX5_swap_9 : decode cX5_swap 9 = .ok (.aload_n 0, 1) := by decide +kernel
theorem dX5_swap_10 : decode cX5_swap 10 = .ok (.iload_n 1, 1) := by decide +kernel
theorem dX5_swap_11 : decode cX5_swap 11 = .ok (.iload_n 3, 1) := by decide +kernel
theorem dX5_swap_12 : decode cX5_swap 12 = .ok (.invokestatic 101, 3) := by decide +kernel
theorem dX5_swap_15 : decode cX5_swap 15 = .ok (.aload_n 0, 1) := by decide +kernel
theorem dX5_swap_16 : decode cX5_swap 16 = .ok (.iload_n 2, 1) := by decide +kernel
theorem dX5_swap_17 : decode cX5_swap 17 = .ok (.iload_n 3, 1) := by decide +kernel
theorem dX5_swap_18 : decode cX5_swap 18 = .ok (.invokevirtual 120, 3) := by decide +kernel
theorem dX5_swap_21 : decode cX5_swap 21 = .ok (.invokevirtual 134, 3) := by decide +kernel
theorem dX5_swap_24 : decode cX5_swap 24 = .ok (.iastore, 1) := by decide +kernel
theorem dX5_swap_25 : decode cX5_swap 25 = .ok (.return_, 1) := by decide +kernel
theorem dX5_moved_0 : decode cX5_moved 0 = .ok (.aload_n 0, 1) := by decide +kernel
theorem dX5_moved_1 : decode cX5_moved 1 = .ok (.iload_n 1, 1) := by decide +kernel
theorem dX5_moved_2 : decode cX5_moved 2 = .ok (.iload_n 2, 1) := by decide +kernel
theorem dX5_moved_3 : decode cX5_moved 3 = .ok (.iconst 0, 1) := by decide +kernel
theorem dX5_moved_4 : decode cX5_moved 4 = .ok (.invokevirtual 144, 3) := by decide +kernel
theorem dX5_moved_7 : decode cX5_moved 7 = .ok (.aload_n 0, 1) := by decide +kernel
theorem dX5_moved_8 : decode cX5_moved 8 = .ok (.iload_n 1, 1) := by decide +kernel
theorem dX5_moved_9 : decode cX5_moved 9 = .ok (.iload_n 2, 1) := by decide +kernel
theorem dX5_moved_10 : decode cX5_moved 10 = .ok (.iconst 5, 1) := by decide +kernel
theorem dX5_moved_11 : decode cX5_moved 11 = .ok (.invokevirtual 144, 3) := by decide +kernel
theorem dX5_moved_14 : decode cX5_moved 14 = .ok (.aload_n 0, 1) := by decide +kernel
theorem dX5_moved_15 : decode cX5_moved 15 = .ok (.iload_n 1, 1) := by decide +kernel
theorem dX5_moved_16 : decode cX5_moved 16 = .ok (.iload_n 2, 1) := by decide +kernel
theorem dX5_moved_17 : decode cX5_moved 17 = .ok (.bipush 8, 2) := by decide +kernel
theorem dX5_moved_19 : decode cX5_moved 19 = .ok (.invokevirtual 144, 3) := by decide +kernel
theorem dX5_moved_22 : decode cX5_moved 22 = .ok (.iconst 1, 1) := by decide +kernel
theorem dX5_moved_23 : decode cX5_moved 23 = .ok (.ireturn, 1) := by decide +kernel
theorem dX5_move_0 : decode cX5_move 0 = .ok (.aload_n 0, 1) := by decide +kernel
theorem dX5_move_1 : decode cX5_move 1 = .ok (.iload_n 1, 1) := by decide +kernel
theorem dX5_move_2 : decode cX5_move 2 = .ok (.invokevirtual 128, 3) := by decide +kernel
theorem dX5_move_5 : decode cX5_move 5 = .ok (.ifCond .eq 20, 3) := by decide +kernel
theorem dX5_move_8 : decode cX5_move 8 = .ok (.aload_n 0, 1) := by decide +kernel
theorem dX5_move_9 : decode cX5_move 9 = .ok (.iload_n 2, 1) := by decide +kernel
theorem dX5_move_10 : decode cX5_move 10 = .ok (.invokevirtual 128, 3) := by decide +kernel
theorem dX5_move_13 : decode cX5_move 13 = .ok (.ifCond .eq 12, 3) := by decide +kernel
theorem dX5_move_16 : decode cX5_move 16 = .ok (.aload_n 0, 1) := by decide +kernel
theorem dX5_move_17 : decode cX5_move 17 = .ok (.iload_n 1, 1) := by decide +kernel
theorem dX5_move_18 : decode cX5_move 18 = .ok (.iload_n 2, 1) := by decide +kernel
theorem dX5_move_19 : decode cX5_move 19 = .ok (.invokevirtual 148, 3) := by decide +kernel
theorem dX5_move_22 : decode cX5_move 22 = .ok (.goto 9, 3) := by decide +kernel
theorem dX5_move_25 : decode cX5_move 25 = .ok (.aload_n 0, 1) := by decide +kernel
theorem dX5_move_26 : decode cX5_move 26 = .ok (.ldc 92, 2) := by decide +kernel
theorem dX5_move_28 : decode cX5_move 28 = .ok (.invokevirtual 109, 3) := by decide +kernel
theorem dX5_move_31 : decode cX5_move 31 = .ok (.ireturn, 1) := by decide +kernel
theorem dX5_hour_0 : decode cX5_hour 0 = .ok (.iconst 0, 1) := by decide +kernel
theorem dX5_hour_1 : decode cX5_hour 1 = .ok (.istore_n 1, 1) := by decide +kernel
theorem dX5_hour_2 : decode cX5_hour 2 = .ok (.iconst 0, 1) := by decide +kernel
theorem dX5_hour_3 : decode cX5_hour 3 = .ok (.istore_n 2, 1) := by decide +kernel
theorem dX5_hour_4 : decode cX5_hour 4 = .ok (.iload_n 2, 1) := by decide +kernel
theorem dX5_hour_5 : decode cX5_hour 5 = .ok (.aload_n 0, 1) := by decide +kernel
theorem dX5_hour_6 : decode cX5_hour 6 = .ok (.getfield 9, 3) := by decide +kernel
theorem dX5_hour_9 : decode cX5_hour 9 = .ok (.iconst 2, 1) := by decide +kernel
theorem dX5_hour_10 : decode cX5_hour 10 = .ok (.iaload, 1) := by decide +kernel
theorem dX5_hour_11 : decode cX5_hour 11 = .ok (.if_icmp .ge 52, 3) := by decide +kernel
theorem dX5_hour_14 : decode cX5_hour 14 = .ok (.aload_n 0, 1) := by decide +kernel
theorem dX5_hour_15 : decode cX5_hour 15 = .ok (.getfield 28, 3) := by decide +kernel
theorem dX5_hour_18 : decode cX5_hour 18 = .ok (.iload_n 2, 1) := by decide +kernel
theorem dX5_hour_19 : decode cX5_hour 19 = .ok (.aload_n 0, 1) := by decide +kernel
theorem dX5_hour_20 : decode cX5_hour 20 = .ok (.iload_n 2, 1) := by decide +kernel
theorem dX5_hour_21 : decode cX5_hour 21 = .ok (.iconst 5, 1) := by decide +kernel
theorem dX5_hour_22 : decode cX5_hour 22 = .ok (.invokevirtual 120, 3) := by decide +kernel
theorem dX5_hour_25 : decode cX5_hour 25 = .ok (.iconst 1, 1) := by decide +kernel
theorem dX5_hour_26 : decode cX5_hour 26 = .ok (.if_icmp .ne 7, 3) := by decide +kernel
theorem dX5_hour_29 : decode cX5_hour 29 = .ok (.iconst 0, 1) := by decide +kernel
theorem dX5_hour_30 : decode cX5_hour 30 = .ok (.goto 17, 3) := by decide +kernel
theorem dX5_hour_33 : decode cX5_hour 33 = .ok (.aload_n 0, 1) := by decide +kernel
theorem dX5_hour_34 : decode cX5_hour 34 = .ok (.iload_n 2, 1) := by decide +kernel
theorem dX5_hour_35 : decode cX5_hour 35 = .ok (.invokevirtual 131, 3) := by decide +kernel
theorem dX5_hour_38 : decode cX5_hour 38 = .ok (.aload_n 0, 1) := by decide +kernel
theorem dX5_hour_39 : decode cX5_hour 39 = .ok (.iload_n 2, 1) := by decide +kernel
theorem dX5_hour_40 : decode cX5_hour 40 = .ok (.iconst 2, 1) := by decide +kernel
theorem dX5_hour_41 : decode cX5_hour 41 = .ok (.invokevirtual 120, 3) := by decide +kernel
theorem dX5_hour_44 : decode cX5_hour 44 = .ok (.invokestatic 123, 3) := by decide +kernel
theorem dX5_hour_47 : decode cX5_hour 47 = .ok (.iastore, 1) := by decide +kernel
theorem dX5_hour_48 : decode cX5_hour 48 = .ok (.iload_n 1, 1) := by decide +kernel
theorem dX5_hour_49 : decode cX5_hour 49 = .ok (.aload_n 0, 1) := by decide +kernel
theorem dX5_hour_50 : decode cX5_hour 50 = .ok (.getfield 28, 3) := by decide +kernel
theorem dX5_hour_53 : decode cX5_hour 53 = .ok (.iload_n 2, 1) := by decide +kernel
theorem dX5_hour_54 : decode cX5_hour 54 = .ok (.iaload, 1) := by decide +kernel
theorem dX5_hour_55 : decode cX5_hour 55 = .ok (.iadd, 1) := by decide +kernel
theorem dX5_hour_56 : decode cX5_hour 56 = .ok (.istore_n 1, 1) := by decide +kernel
theorem dX5_hour_57 : decode cX5_hour 57 = .ok (.iinc 2 1, 3) := by decide +kernel
theorem dX5_hour_60 : decode cX5_hour 60 = .ok (.goto (-56), 3) := by decide +kernel
theorem dX5_hour_63 : decode cX5_hour 63 = .ok (.iconst 0, 1) := by decide +kernel
theorem dX5_hour_64 : decode cX5_hour 64 = .ok (.istore_n 2, 1) := by decide +kernel
theorem dX5_hour_65 : decode cX5_hour 65 = .ok (.iload_n 2, 1) := by decide +kernel
theorem dX5_hour_66 : decode cX5_hour 66 = .ok (.aload_n 0, 1) := by decide +kernel
theorem dX5_hour_67 : decode cX5_hour 67 = .ok (.getfield 9, 3) := by decide +kernel
theorem dX5_hour_70 : decode cX5_hour 70 = .ok (.iconst 2, 1) := by decide +kernel
theorem dX5_hour_71 : decode cX5_hour 71 = .ok (.iaload, 1) := by decide +kernel
theorem dX5_hour_72 : decode cX5_hour 72 = .ok (.if_icmp .ge 126, 3) := by decide +kernel
theorem dX5_hour_75 : decode cX5_hour 75 = .ok (.aload_n 0, 1) := by decide +kernel
theorem dX5_hour_76 : decode cX5_hour 76 = .ok (.getfield 9, 3) := by decide +kernel
theorem dX5_hour_79 : decode cX5_hour 79 = .ok (.iload_n 2, 1) := by decide +kernel
theorem dX5_hour_80 : decode cX5_hour 80 = .ok (.iconst 2, 1) := by decide +kernel
theorem dX5_hour_81 : decode cX5_hour 81 = .ok (.invokestatic 101, 3) := by decide +kernel
theorem dX5_hour_84 : decode cX5_hour 84 = .ok (.dup2, 1) := by decide +kernel
theorem dX5_hour_85 : decode cX5_hour 85 = .ok (.iaload, 1) := by decide +kernel
theorem dX5_hour_86 : decode cX5_hour 86 = .ok (.aload_n 0, 1) := by decide +kernel
theorem dX5_hour_87 : decode cX5_hour 87 = .ok (.getfield 28, 3) := by decide +kernel
theorem dX5_hour_90 : decode cX5_hour 90 = .ok (.iload_n 2, 1) := by decide +kernel
theorem dX5_hour_91 : decode cX5_hour 91 = .ok (.iaload, 1) := by decide +kernel
theorem dX5_hour_92 : decode cX5_hour 92 = .ok (.isub, 1) := by decide +kernel
theorem dX5_hour_93 : decode cX5_hour 93 = .ok (.iastore, 1) := by decide +kernel
theorem dX5_hour_94 : decode cX5_hour 94 = .ok (.aload_n 0, 1) := by decide +kernel
theorem dX5_hour_95 : decode cX5_hour 95 = .ok (.getfield 9, 3) := by decide +kernel
theorem dX5_hour_98 : decode cX5_hour 98 = .ok (.iload_n 2, 1) := by decide +kernel
theorem dX5_hour_99 : decode cX5_hour 99 = .ok (.bipush 8, 2) := by decide +kernel
theorem dX5_hour_101 : decode cX5_hour 101 = .ok (.invokestatic 101, 3) := by decide +kernel
theorem dX5_hour_104 : decode cX5_hour 104 = .ok (.aload_n 0, 1) := by decide +kernel
theorem dX5_hour_105 : decode cX5_hour 105 = .ok (.getfield 28, 3) := by decide +kernel
theorem dX5_hour_108 : decode cX5_hour 108 = .ok (.iload_n 2, 1) := by decide +kernel
theorem dX5_hour_109 : decode cX5_hour 109 = .ok (.iaload, 1) := by decide +kernel
theorem dX5_hour_110 : decode cX5_hour 110 = .ok (.iastore, 1) := by decide +kernel
theorem dX5_hour_111 : decode cX5_hour 111 = .ok (.aload_n 0, 1) := by decide +kernel
theorem dX5_hour_112 : decode cX5_hour 112 = .ok (.getfield 9, 3) := by decide +kernel
theorem dX5_hour_115 : decode cX5_hour 115 = .ok (.iload_n 2, 1) := by decide +kernel
theorem dX5_hour_116 : decode cX5_hour 116 = .ok (.bipush 7, 2) := by decide +kernel
theorem dX5_hour_118 : decode cX5_hour 118 = .ok (.invokestatic 101, 3) := by decide +kernel
theorem dX5_hour_121 : decode cX5_hour 121 = .ok (.aload_n 0, 1) := by decide +kernel
theorem dX5_hour_122 : decode cX5_hour 122 = .ok (.iload_n 2, 1) := by decide +kernel
theorem dX5_hour_123 : decode cX5_hour 123 = .ok (.invokevirtual 150, 3) := by decide +kernel
theorem dX5_hour_126 : decode cX5_hour 126 = .ok (.iastore, 1) := by decide +kernel
theorem dX5_hour_127 : decode cX5_hour 127 = .ok (.sipush 300, 3) := by decide +kernel
theorem dX5_hour_130 : decode cX5_hour 130 = .ok (.aload_n 0, 1) := by decide +kernel
theorem dX5_hour_131 : decode cX5_hour 131 = .ok (.iload_n 2, 1) := by decide +kernel
theorem dX5_hour_132 : decode cX5_hour 132 = .ok (.iconst 1, 1) := by decide +kernel
theorem dX5_hour_133 : decode cX5_hour 133 = .ok (.invokevirtual 120, 3) := by decide +kernel
theorem dX5_hour_136 : decode cX5_hour 136 = .ok (.bipush 15, 2) := by decide +kernel
theorem dX5_hour_138 : decode cX5_hour 138 = .ok (.aload_n 0, 1) := by decide +kernel
theorem dX5_hour_139 : decode cX5_hour 139 = .ok (.iload_n 2, 1) := by decide +kernel
theorem dX5_hour_140 : decode cX5_hour 140 = .ok (.bipush 7, 2) := by decide +kernel
theorem dX5_hour_142 : decode cX5_hour 142 = .ok (.invokevirtual 120, 3) := by decide +kernel
theorem dX5_hour_145 : decode cX5_hour 145 = .ok (.imul, 1) := by decide +kernel
theorem dX5_hour_146 : decode cX5_hour 146 = .ok (.iadd, 1) := by decide +kernel
theorem dX5_hour_147 : decode cX5_hour 147 = .ok (.invokestatic 123, 3) := by decide +kernel
theorem dX5_hour_150 : decode cX5_hour 150 = .ok (.istore_n 3, 1) := by decide +kernel
theorem dX5_hour_151 : decode cX5_hour 151 = .ok (.aload_n 0, 1) := by decide +kernel
theorem dX5_hour_152 : decode cX5_hour 152 = .ok (.getfield 9, 3) := by decide +kernel
theorem dX5_hour_155 : decode cX5_hour 155 = .ok (.iload_n 2, 1) := by decide +kernel
theorem dX5_hour_156 : decode cX5_hour 156 = .ok (.iconst 1, 1) := by decide +kernel
theorem dX5_hour_157 : decode cX5_hour 157 = .ok (.invokestatic 101, 3) := by decide +kernel
theorem dX5_hour_160 : decode cX5_hour 160 = .ok (.iload_n 3, 1) := by decide +kernel
theorem dX5_hour_161 : decode cX5_hour 161 = .ok (.aload_n 0, 1) := by decide +kernel
theorem dX5_hour_162 : decode cX5_hour 162 = .ok (.getfield 9, 3) := by decide +kernel
theorem dX5_hour_165 : decode cX5_hour 165 = .ok (.iconst 1, 1) := by decide +kernel
theorem dX5_hour_166 : decode cX5_hour 166 = .ok (.iaload, 1) := by decide +kernel
theorem dX5_hour_167 : decode cX5_hour 167 = .ok (.iload_n 3, 1) := by decide +kernel
theorem dX5_hour_168 : decode cX5_hour 168 = .ok (.if_icmp .ge 21, 3) := by decide +kernel
theorem dX5_hour_171 : decode cX5_hour 171 = .ok (.iload_n 3, 1) := by decide +kernel
theorem dX5_hour_172 : decode cX5_hour 172 = .ok (.aload_n 0, 1) := by decide +kernel
theorem dX5_hour_173 : decode cX5_hour 173 = .ok (.getfield 9, 3) := by decide +kernel
theorem dX5_hour_176 : decode cX5_hour 176 = .ok (.iconst 1, 1) := by decide +kernel
theorem dX5_hour_177 : decode cX5_hour 177 = .ok (.iaload, 1) := by decide +kernel
theorem dX5_hour_178 : decode cX5_hour 178 = .ok (.isub, 1) := by decide +kernel
theorem dX5_hour_179 : decode cX5_hour 179 = .ok (.aload_n 0, 1) := by decide +kernel
theorem dX5_hour_180 : decode cX5_hour 180 = .ok (.iload_n 2, 1) := by decide +kernel
theorem dX5_hour_181 : decode cX5_hour 181 = .ok (.iconst 3, 1) := by decide +kernel
theorem dX5_hour_182 : decode cX5_hour 182 = .ok (.invokevirtual 120, 3) := by decide +kernel
theorem dX5_hour_185 : decode cX5_hour 185 = .ok (.idiv, 1) := by decide +kernel
theorem dX5_hour_186 : decode cX5_hour 186 = .ok (.goto 4, 3) := by decide +kernel
theorem dX5_hour_189 : decode cX5_hour 189 = .ok (.iconst 0, 1) := by decide +kernel
theorem dX5_hour_190 : decode cX5_hour 190 = .ok (.isub, 1) := by decide +kernel
theorem dX5_hour_191 : decode cX5_hour 191 = .ok (.iastore, 1) := by decide +kernel
theorem dX5_hour_192 : decode cX5_hour 192 = .ok (.iinc 2 1, 3) := by decide +kernel
theorem dX5_hour_195 : decode cX5_hour 195 = .ok (.goto (-130), 3) := by decide +kernel
theorem dX5_hour_198 : decode cX5_hour 198 = .ok (.aload_n 0, 1) := by decide +kernel
theorem dX5_hour_199 : decode cX5_hour 199 = .ok (.getfield 9, 3) := by decide +kernel
theorem dX5_hour_202 : decode cX5_hour 202 = .ok (.iconst 0, 1) := by decide +kernel
theorem dX5_hour_203 : decode cX5_hour 203 = .ok (.dup2, 1) := by decide +kernel
theorem dX5_hour_204 : decode cX5_hour 204 = .ok (.iaload, 1) := by decide +kernel
theorem dX5_hour_205 : decode cX5_hour 205 = .ok (.iconst 1, 1) := by decide +kernel
theorem dX5_hour_206 : decode cX5_hour 206 = .ok (.iadd, 1) := by decide +kernel
theorem dX5_hour_207 : decode cX5_hour 207 = .ok (.iastore, 1) := by decide +kernel
theorem dX5_hour_208 : decode cX5_hour 208 = .ok (.iload_n 1, 1) := by decide +kernel
theorem dX5_hour_209 : decode cX5_hour 209 = .ok (.ireturn, 1) := by decide +kernel
theorem dX5_gets_0 : decode cX5_gets 0 = .ok (.iconst 0, 1) := by decide +kernel
theorem dX5_gets_1 : decode cX5_gets 1 = .ok (.istore_n 2, 1) := by decide +kernel
theorem dX5_gets_2 : decode cX5_gets 2 = .ok (.iconst 0, 1) := by decide +kernel
theorem dX5_gets_3 : decode cX5_gets 3 = .ok (.istore_n 3, 1) := by decide +kernel
theorem dX5_gets_4 : decode cX5_gets 4 = .ok (.iload_n 3, 1) := by decide +kernel
theorem dX5_gets_5 : decode cX5_gets 5 = .ok (.aload_n 0, 1) := by decide +kernel
theorem dX5_gets_6 : decode cX5_gets 6 = .ok (.getfield 9, 3) := by decide +kernel
theorem dX5_gets_9 : decode cX5_gets 9 = .ok (.iconst 2, 1) := by decide +kernel
theorem dX5_gets_10 : decode cX5_gets 10 = .ok (.iaload, 1) := by decide +kernel
theorem dX5_gets_11 : decode cX5_gets 11 = .ok (.if_icmp .ge 44, 3) := by decide +kernel
theorem dX5_gets_14 : decode cX5_gets 14 = .ok (.iload_n 2, 1) := by decide +kernel
theorem dX5_gets_15 : decode cX5_gets 15 = .ok (.aload_n 0, 1) := by decide +kernel
theorem dX5_gets_16 : decode cX5_gets 16 = .ok (.iload_n 3, 1) := by decide +kernel
theorem dX5_gets_17 : decode cX5_gets 17 = .ok (.iconst 4, 1) := by decide +kernel
theorem dX5_gets_18 : decode cX5_gets 18 = .ok (.invokevirtual 120, 3) := by decide +kernel
theorem dX5_gets_21 : decode cX5_gets 21 = .ok (.iload_n 1, 1) := by decide +kernel
theorem dX5_gets_22 : decode cX5_gets 22 = .ok (.if_icmp .ne 24, 3) := by decide +kernel
theorem dX5_gets_25 : decode cX5_gets 25 = .ok (.iconst 0, 1) := by decide +kernel
theorem dX5_gets_26 : decode cX5_gets 26 = .ok (.aload_n 0, 1) := by decide +kernel
theorem dX5_gets_27 : decode cX5_gets 27 = .ok (.getfield 28, 3) := by decide +kernel
theorem dX5_gets_30 : decode cX5_gets 30 = .ok (.iload_n 3, 1) := by decide +kernel
theorem dX5_gets_31 : decode cX5_gets 31 = .ok (.iaload, 1) := by decide +kernel
theorem dX5_gets_32 : decode cX5_gets 32 = .ok (.aload_n 0, 1) := by decide +kernel
theorem dX5_gets_33 : decode cX5_gets 33 = .ok (.iload_n 3, 1) := by decide +kernel
theorem dX5_gets_34 : decode cX5_gets 34 = .ok (.bipush 6, 2) := by decide +kernel
theorem dX5_gets_36 : decode cX5_gets 36 = .ok (.invokevirtual 120, 3) := by decide +kernel
theorem dX5_gets_39 : decode cX5_gets 39 = .ok (.isub, 1) := by decide +kernel
theorem dX5_gets_40 : decode cX5_gets 40 = .ok (.invokestatic 153, 3) := by decide +kernel
theorem dX5_gets_43 : decode cX5_gets 43 = .ok (.goto 4, 3) := by decide +kernel
theorem dX5_gets_46 : decode cX5_gets 46 = .ok (.iconst 0, 1) := by decide +kernel
theorem dX5_gets_47 : decode cX5_gets 47 = .ok (.iadd, 1) := by decide +kernel
theorem dX5_gets_48 : decode cX5_gets 48 = .ok (.istore_n 2, 1) := by decide +kernel
theorem dX5_gets_49 : decode cX5_gets 49 = .ok (.iinc 3 1, 3) := by decide +kernel
theorem dX5_gets_52 : decode cX5_gets 52 = .ok (.goto (-48), 3) := by decide +kernel
theorem dX5_gets_55 : decode cX5_gets 55 = .ok (.iload_n 2, 1) := by decide +kernel
theorem dX5_gets_56 : decode cX5_gets 56 = .ok (.ireturn, 1) := by decide +kernel
theorem dX5_hoursGo_0 : decode cX5_hoursGo 0 = .ok (.iconst 0, 1) := by decide +kernel
theorem dX5_hoursGo_1 : decode cX5_hoursGo 1 = .ok (.istore_n 2, 1) := by decide +kernel
theorem dX5_hoursGo_2 : decode cX5_hoursGo 2 = .ok (.iconst 0, 1) := by decide +kernel
theorem dX5_hoursGo_3 : decode cX5_hoursGo 3 = .ok (.istore_n 3, 1) := by decide +kernel
theorem dX5_hoursGo_4 : decode cX5_hoursGo 4 = .ok (.iload_n 3, 1) := by decide +kernel
theorem dX5_hoursGo_5 : decode cX5_hoursGo 5 = .ok (.iload_n 1, 1) := by decide +kernel
theorem dX5_hoursGo_6 : decode cX5_hoursGo 6 = .ok (.if_icmp .ge 16, 3) := by decide +kernel
theorem dX5_hoursGo_9 : decode cX5_hoursGo 9 = .ok (.iload_n 2, 1) := by decide +kernel
theorem dX5_hoursGo_10 : decode cX5_hoursGo 10 = .ok (.aload_n 0, 1) := by decide +kernel
theorem dX5_hoursGo_11 : decode cX5_hoursGo 11 = .ok (.invokevirtual 156, 3) := by decide +kernel
theorem dX5_hoursGo_14 : decode cX5_hoursGo 14 = .ok (.iadd, 1) := by decide +kernel
theorem dX5_hoursGo_15 : decode cX5_hoursGo 15 = .ok (.istore_n 2, 1) := by decide +kernel
theorem dX5_hoursGo_16 : decode cX5_hoursGo 16 = .ok (.iinc 3 1, 3) := by decide +kernel
theorem dX5_hoursGo_19 : decode cX5_hoursGo 19 = .ok (.goto (-15), 3) := by decide +kernel
theorem dX5_hoursGo_22 : decode cX5_hoursGo 22 = .ok (.iload_n 2, 1) := by decide +kernel
theorem dX5_hoursGo_23 : decode cX5_hoursGo 23 = .ok (.ireturn, 1) := by decide +kernel
theorem dX5_isTooLate_0 : decode cX5_isTooLate 0 = .ok (.aload_n 0, 1) := by decide +kernel
theorem dX5_isTooLate_1 : decode cX5_isTooLate 1 = .ok (.getfield 9, 3) := by decide +kernel
theorem dX5_isTooLate_4 : decode cX5_isTooLate 4 = .ok (.iconst 0, 1) := by decide +kernel
theorem dX5_isTooLate_5 : decode cX5_isTooLate 5 = .ok (.iaload, 1) := by decide +kernel
theorem dX5_isTooLate_6 : decode cX5_isTooLate 6 = .ok (.iload_n 1, 1) := by decide +kernel
theorem dX5_isTooLate_7 : decode cX5_isTooLate 7 = .ok (.iadd, 1) := by decide +kernel
theorem dX5_isTooLate_8 : decode cX5_isTooLate 8 = .ok (.sipush 9999, 3) := by decide +kernel
theorem dX5_isTooLate_11 : decode cX5_isTooLate 11 = .ok (.if_icmp .le 7, 3) := by decide +kernel
theorem dX5_isTooLate_14 : decode cX5_isTooLate 14 = .ok (.iconst 1, 1) := by decide +kernel
theorem dX5_isTooLate_15 : decode cX5_isTooLate 15 = .ok (.goto 4, 3) := by decide +kernel
theorem dX5_isTooLate_18 : decode cX5_isTooLate 18 = .ok (.iconst 0, 1) := by decide +kernel
theorem dX5_isTooLate_19 : decode cX5_isTooLate 19 = .ok (.ireturn, 1) := by decide +kernel
theorem dX5_hours_0 : decode cX5_hours 0 = .ok (.iload_n 1, 1) := by decide +kernel
theorem dX5_hours_1 : decode cX5_hours 1 = .ok (.iconst 1, 1) := by decide +kernel
theorem dX5_hours_2 : decode cX5_hours 2 = .ok (.bipush 100, 2) := by decide +kernel
theorem dX5_hours_4 : decode cX5_hours 4 = .ok (.invokestatic 97, 3) := by decide +kernel
theorem dX5_hours_7 : decode cX5_hours 7 = .ok (.ifCond .ne 10, 3) := by decide +kernel
theorem dX5_hours_10 : decode cX5_hours 10 = .ok (.aload_n 0, 1) := by decide +kernel
theorem dX5_hours_11 : decode cX5_hours 11 = .ok (.ldc 92, 2) := by decide +kernel
theorem dX5_hours_13 : decode cX5_hours 13 = .ok (.invokevirtual 109, 3) := by decide +kernel
theorem dX5_hours_16 : decode cX5_hours 16 = .ok (.ireturn, 1) := by decide +kernel
theorem dX5_hours_17 : decode cX5_hours 17 = .ok (.aload_n 0, 1) := by decide +kernel
theorem dX5_hours_18 : decode cX5_hours 18 = .ok (.iload_n 1, 1) := by decide +kernel
theorem dX5_hours_19 : decode cX5_hours 19 = .ok (.invokevirtual 160, 3) := by decide +kernel
theorem dX5_hours_22 : decode cX5_hours 22 = .ok (.ifCond .eq 12, 3) := by decide +kernel
theorem dX5_hours_25 : decode cX5_hours 25 = .ok (.aload_n 0, 1) := by decide +kernel
theorem dX5_hours_26 : decode cX5_hours 26 = .ok (.ldc 163, 2) := by decide +kernel
theorem dX5_hours_28 : decode cX5_hours 28 = .ok (.invokevirtual 109, 3) := by decide +kernel
theorem dX5_hours_31 : decode cX5_hours 31 = .ok (.goto 8, 3) := by decide +kernel
theorem dX5_hours_34 : decode cX5_hours 34 = .ok (.aload_n 0, 1) := by decide +kernel
theorem dX5_hours_35 : decode cX5_hours 35 = .ok (.iload_n 1, 1) := by decide +kernel
theorem dX5_hours_36 : decode cX5_hours 36 = .ok (.invokevirtual 164, 3) := by decide +kernel
theorem dX5_hours_39 : decode cX5_hours 39 = .ok (.ireturn, 1) := by decide +kernel
theorem dX5_colds_0 : decode cX5_colds 0 = .ok (.iconst 0, 1) := by decide +kernel
theorem dX5_colds_1 : decode cX5_colds 1 = .ok (.istore_n 1, 1) := by decide +kernel
theorem dX5_colds_2 : decode cX5_colds 2 = .ok (.iconst 0, 1) := by decide +kernel
theorem dX5_colds_3 : decode cX5_colds 3 = .ok (.istore_n 2, 1) := by decide +kernel
theorem dX5_colds_4 : decode cX5_colds 4 = .ok (.iload_n 2, 1) := by decide +kernel
theorem dX5_colds_5 : decode cX5_colds 5 = .ok (.aload_n 0, 1) := by decide +kernel
theorem dX5_colds_6 : decode cX5_colds 6 = .ok (.getfield 9, 3) := by decide +kernel
theorem dX5_colds_9 : decode cX5_colds 9 = .ok (.iconst 2, 1) := by decide +kernel
theorem dX5_colds_10 : decode cX5_colds 10 = .ok (.iaload, 1) := by decide +kernel
theorem dX5_colds_11 : decode cX5_colds 11 = .ok (.if_icmp .ge 30, 3) := by decide +kernel
theorem dX5_colds_14 : decode cX5_colds 14 = .ok (.iload_n 1, 1) := by decide +kernel
theorem dX5_colds_15 : decode cX5_colds 15 = .ok (.aload_n 0, 1) := by decide +kernel
theorem dX5_colds_16 : decode cX5_colds 16 = .ok (.iload_n 2, 1) := by decide +kernel
theorem dX5_colds_17 : decode cX5_colds 17 = .ok (.iconst 1, 1) := by decide +kernel
theorem dX5_colds_18 : decode cX5_colds 18 = .ok (.invokevirtual 120, 3) := by decide +kernel
theorem dX5_colds_21 : decode cX5_colds 21 = .ok (.bipush 60, 2) := by decide +kernel
theorem dX5_colds_23 : decode cX5_colds 23 = .ok (.if_icmp .ge 9, 3) := by decide +kernel
theorem dX5_colds_26 : decode cX5_colds 26 = .ok (.iconst 1, 1) := by decide +kernel
theorem dX5_colds_27 : decode cX5_colds 27 = .ok (.iload_n 2, 1) := by decide +kernel
theorem dX5_colds_28 : decode cX5_colds 28 = .ok (.ishl, 1) := by decide +kernel
theorem dX5_colds_29 : decode cX5_colds 29 = .ok (.goto 4, 3) := by decide +kernel
theorem dX5_colds_32 : decode cX5_colds 32 = .ok (.iconst 0, 1) := by decide +kernel
theorem dX5_colds_33 : decode cX5_colds 33 = .ok (.ior, 1) := by decide +kernel
theorem dX5_colds_34 : decode cX5_colds 34 = .ok (.istore_n 1, 1) := by decide +kernel
theorem dX5_colds_35 : decode cX5_colds 35 = .ok (.iinc 2 1, 3) := by decide +kernel
theorem dX5_colds_38 : decode cX5_colds 38 = .ok (.goto (-34), 3) := by decide +kernel
theorem dX5_colds_41 : decode cX5_colds 41 = .ok (.iload_n 1, 1) := by decide +kernel
theorem dX5_colds_42 : decode cX5_colds 42 = .ok (.ireturn, 1) := by decide +kernel
theorem dX5_sum_0 : decode cX5_sum 0 = .ok (.iconst 0, 1) := by decide +kernel
theorem dX5_sum_1 : decode cX5_sum 1 = .ok (.istore_n 2, 1) := by decide +kernel
theorem dX5_sum_2 : decode cX5_sum 2 = .ok (.iconst 0, 1) := by decide +kernel
theorem dX5_sum_3 : decode cX5_sum 3 = .ok (.istore_n 3, 1) := by decide +kernel
theorem dX5_sum_4 : decode cX5_sum 4 = .ok (.iload_n 3, 1) := by decide +kernel
theorem dX5_sum_5 : decode cX5_sum 5 = .ok (.aload_n 0, 1) := by decide +kernel
theorem dX5_sum_6 : decode cX5_sum 6 = .ok (.getfield 9, 3) := by decide +kernel
theorem dX5_sum_9 : decode cX5_sum 9 = .ok (.iconst 2, 1) := by decide +kernel
theorem dX5_sum_10 : decode cX5_sum 10 = .ok (.iaload, 1) := by decide +kernel
theorem dX5_sum_11 : decode cX5_sum 11 = .ok (.if_icmp .ge 18, 3) := by decide +kernel
theorem dX5_sum_14 : decode cX5_sum 14 = .ok (.iload_n 2, 1) := by decide +kernel
theorem dX5_sum_15 : decode cX5_sum 15 = .ok (.aload_n 0, 1) := by decide +kernel
theorem dX5_sum_16 : decode cX5_sum 16 = .ok (.iload_n 3, 1) := by decide +kernel
theorem dX5_sum_17 : decode cX5_sum 17 = .ok (.iload_n 1, 1) := by decide +kernel
theorem dX5_sum_18 : decode cX5_sum 18 = .ok (.invokevirtual 120, 3) := by decide +kernel
theorem dX5_sum_21 : decode cX5_sum 21 = .ok (.iadd, 1) := by decide +kernel
theorem dX5_sum_22 : decode cX5_sum 22 = .ok (.istore_n 2, 1) := by decide +kernel
theorem dX5_sum_23 : decode cX5_sum 23 = .ok (.iinc 3 1, 3) := by decide +kernel
theorem dX5_sum_26 : decode cX5_sum 26 = .ok (.goto (-22), 3) := by decide +kernel
theorem dX5_sum_29 : decode cX5_sum 29 = .ok (.iload_n 2, 1) := by decide +kernel
theorem dX5_sum_30 : decode cX5_sum 30 = .ok (.ireturn, 1) := by decide +kernel
theorem dX5_coldest_0 : decode cX5_coldest 0 = .ok (.iconst (-1), 1) := by decide +kernel
theorem dX5_coldest_1 : decode cX5_coldest 1 = .ok (.istore_n 1, 1) := by decide +kernel
theorem dX5_coldest_2 : decode cX5_coldest 2 = .ok (.aload_n 0, 1) := by decide +kernel
theorem dX5_coldest_3 : decode cX5_coldest 3 = .ok (.getfield 9, 3) := by decide +kernel
theorem dX5_coldest_6 : decode cX5_coldest 6 = .ok (.iconst 2, 1) := by decide +kernel
theorem dX5_coldest_7 : decode cX5_coldest 7 = .ok (.iaload, 1) := by decide +kernel
theorem dX5_coldest_8 : decode cX5_coldest 8 = .ok (.iconst 1, 1) := by decide +kernel
theorem dX5_coldest_9 : decode cX5_coldest 9 = .ok (.isub, 1) := by decide +kernel
theorem dX5_coldest_10 : decode cX5_coldest 10 = .ok (.istore_n 2, 1) := by decide +kernel
theorem dX5_coldest_11 : decode cX5_coldest 11 = .ok (.iload_n 2, 1) := by decide +kernel
theorem dX5_coldest_12 : decode cX5_coldest 12 = .ok (.ifCond .lt 34, 3) := by decide +kernel
theorem dX5_coldest_15 : decode cX5_coldest 15 = .ok (.iload_n 1, 1) := by decide +kernel
theorem dX5_coldest_16 : decode cX5_coldest 16 = .ok (.ifCond .lt 18, 3) := by decide +kernel
theorem dX5_coldest_19 : decode cX5_coldest 19 = .ok (.aload_n 0, 1) := by decide +kernel
theorem dX5_coldest_20 : decode cX5_coldest 20 = .ok (.iload_n 2, 1) := by decide +kernel
theorem dX5_coldest_21 : decode cX5_coldest 21 = .ok (.iconst 1, 1) := by decide +kernel
theorem dX5_coldest_22 : decode cX5_coldest 22 = .ok (.invokevirtual 120, 3) := by decide +kernel
theorem dX5_coldest_25 : decode cX5_coldest 25 = .ok (.aload_n 0, 1) := by decide +kernel
theorem dX5_coldest_26 : decode cX5_coldest 26 = .ok (.iload_n 1, 1) := by decide +kernel
theorem dX5_coldest_27 : decode cX5_coldest 27 = .ok (.iconst 1, 1) := by decide +kernel
theorem dX5_coldest_28 : decode cX5_coldest 28 = .ok (.invokevirtual 120, 3) := by decide +kernel
theorem dX5_coldest_31 : decode cX5_coldest 31 = .ok (.if_icmp .gt 7, 3) := by decide +kernel
theorem dX5_coldest_34 : decode cX5_coldest 34 = .ok (.iload_n 2, 1) := by decide +kernel
theorem dX5_coldest_35 : decode cX5_coldest 35 = .ok (.goto 4, 3) := by decide +kernel
theorem dX5_coldest_38 : decode cX5_coldest 38 = .ok (.iload_n 1, 1) := by decide +kernel
theorem dX5_coldest_39 : decode cX5_coldest 39 = .ok (.istore_n 1, 1) := by decide +kernel
theorem dX5_coldest_40 : decode cX5_coldest 40 = .ok (.iinc 2 (-1), 3) := by decide +kernel
theorem dX5_coldest_43 : decode cX5_coldest 43 = .ok (.goto (-32), 3) := by decide +kernel
theorem dX5_coldest_46 : decode cX5_coldest 46 = .ok (.iload_n 1, 1) := by decide +kernel
theorem dX5_coldest_47 : decode cX5_coldest 47 = .ok (.ireturn, 1) := by decide +kernel
theorem dX5_leastWarmth_0 : decode cX5_leastWarmth 0 = .ok (.aload_n 0, 1) := by decide +kernel
theorem dX5_leastWarmth_1 : decode cX5_leastWarmth 1 = .ok (.invokevirtual 167, 3) := by decide +kernel
theorem dX5_leastWarmth_4 : decode cX5_leastWarmth 4 = .ok (.istore_n 1, 1) := by decide +kernel
theorem dX5_leastWarmth_5 : decode cX5_leastWarmth 5 = .ok (.iload_n 1, 1) := by decide +kernel
theorem dX5_leastWarmth_6 : decode cX5_leastWarmth 6 = .ok (.ifCond .ge 9, 3) := by decide +kernel
theorem dX5_leastWarmth_9 : decode cX5_leastWarmth 9 = .ok (.sipush 300, 3) := by decide +kernel
theorem dX5_leastWarmth_12 : decode cX5_leastWarmth 12 = .ok (.goto 9, 3) := by decide +kernel
theorem dX5_leastWarmth_15 : decode cX5_leastWarmth 15 = .ok (.aload_n 0, 1) := by decide +kernel
theorem dX5_leastWarmth_16 : decode cX5_leastWarmth 16 = .ok (.iload_n 1, 1) := by decide +kernel
theorem dX5_leastWarmth_17 : decode cX5_leastWarmth 17 = .ok (.iconst 1, 1) := by decide +kernel
theorem dX5_leastWarmth_18 : decode cX5_leastWarmth 18 = .ok (.invokevirtual 120, 3) := by decide +kernel
theorem dX5_leastWarmth_21 : decode cX5_leastWarmth 21 = .ok (.ireturn, 1) := by decide +kernel
theorem dX5_now_0 : decode cX5_now 0 = .ok (.iload_n 1, 1) := by decide +kernel
theorem dX5_now_1 : decode cX5_now 1 = .ok (.tableswitch 75 0 5 #[39, 46, 51, 57, 63, 70], 39) := by decide +kernel
theorem dX5_now_40 : decode cX5_now 40 = .ok (.aload_n 0, 1) := by decide +kernel
theorem dX5_now_41 : decode cX5_now 41 = .ok (.getfield 9, 3) := by decide +kernel
theorem dX5_now_44 : decode cX5_now 44 = .ok (.iconst 0, 1) := by decide +kernel
theorem dX5_now_45 : decode cX5_now 45 = .ok (.iaload, 1) := by decide +kernel
theorem dX5_now_46 : decode cX5_now 46 = .ok (.ireturn, 1) := by decide +kernel
theorem dX5_now_47 : decode cX5_now 47 = .ok (.aload_n 0, 1) := by decide +kernel
theorem dX5_now_48 : decode cX5_now 48 = .ok (.invokevirtual 170, 3) := by decide +kernel
theorem dX5_now_51 : decode cX5_now 51 = .ok (.ireturn, 1) := by decide +kernel
theorem dX5_now_52 : decode cX5_now 52 = .ok (.aload_n 0, 1) := by decide +kernel
theorem dX5_now_53 : decode cX5_now 53 = .ok (.iconst 2, 1) := by decide +kernel
theorem dX5_now_54 : decode cX5_now 54 = .ok (.invokevirtual 173, 3) := by decide +kernel
theorem dX5_now_57 : decode cX5_now 57 = .ok (.ireturn, 1) := by decide +kernel
theorem dX5_now_58 : decode cX5_now 58 = .ok (.aload_n 0, 1) := by decide +kernel
theorem dX5_now_59 : decode cX5_now 59 = .ok (.iconst 1, 1) := by decide +kernel
theorem dX5_now_60 : decode cX5_now 60 = .ok (.invokevirtual 173, 3) := by decide +kernel
theorem dX5_now_63 : decode cX5_now 63 = .ok (.ireturn, 1) := by decide +kernel
theorem dX5_now_64 : decode cX5_now 64 = .ok (.aload_n 0, 1) := by decide +kernel
theorem dX5_now_65 : decode cX5_now 65 = .ok (.getfield 9, 3) := by decide +kernel
theorem dX5_now_68 : decode cX5_now 68 = .ok (.iconst 1, 1) := by decide +kernel
theorem dX5_now_69 : decode cX5_now 69 = .ok (.iaload, 1) := by decide +kernel
theorem dX5_now_70 : decode cX5_now 70 = .ok (.ireturn, 1) := by decide +kernel
theorem dX5_now_71 : decode cX5_now 71 = .ok (.aload_n 0, 1) := by decide +kernel
theorem dX5_now_72 : decode cX5_now 72 = .ok (.invokevirtual 167, 3) := by decide +kernel
theorem dX5_now_75 : decode cX5_now 75 = .ok (.ireturn, 1) := by decide +kernel
theorem dX5_now_76 : decode cX5_now 76 = .ok (.aload_n 0, 1) := by decide +kernel
theorem dX5_now_77 : decode cX5_now 77 = .ok (.ldc 92, 2) := by decide +kernel
theorem dX5_now_79 : decode cX5_now 79 = .ok (.invokevirtual 109, 3) := by decide +kernel
theorem dX5_now_82 : decode cX5_now 82 = .ok (.ireturn, 1) := by decide +kernel
theorem dX5_ahead_0 : decode cX5_ahead 0 = .ok (.iload_n 1, 1) := by decide +kernel
theorem dX5_ahead_1 : decode cX5_ahead 1 = .ok (.iconst 0, 1) := by decide +kernel
theorem dX5_ahead_2 : decode cX5_ahead 2 = .ok (.bipush 100, 2) := by decide +kernel
theorem dX5_ahead_4 : decode cX5_ahead 4 = .ok (.invokestatic 97, 3) := by decide +kernel
theorem dX5_ahead_7 : decode cX5_ahead 7 = .ok (.ifCond .eq 22, 3) := by decide +kernel
theorem dX5_ahead_10 : decode cX5_ahead 10 = .ok (.iload_n 2, 1) := by decide +kernel
theorem dX5_ahead_11 : decode cX5_ahead 11 = .ok (.iconst 0, 1) := by decide +kernel
theorem dX5_ahead_12 : decode cX5_ahead 12 = .ok (.iconst 3, 1) := by decide +kernel
theorem dX5_ahead_13 : decode cX5_ahead 13 = .ok (.invokestatic 97, 3) := by decide +kernel
theorem dX5_ahead_16 : decode cX5_ahead 16 = .ok (.ifCond .ne 20, 3) := by decide +kernel
theorem dX5_ahead_19 : decode cX5_ahead 19 = .ok (.aload_n 0, 1) := by decide +kernel
theorem dX5_ahead_20 : decode cX5_ahead 20 = .ok (.iload_n 2, 1) := by decide +kernel
theorem dX5_ahead_21 : decode cX5_ahead 21 = .ok (.iconst 4, 1) := by decide +kernel
theorem dX5_ahead_22 : decode cX5_ahead 22 = .ok (.isub, 1) := by decide +kernel
theorem dX5_ahead_23 : decode cX5_ahead 23 = .ok (.invokevirtual 128, 3) := by decide +kernel
theorem dX5_ahead_26 : decode cX5_ahead 26 = .ok (.ifCond .ne 10, 3) := by decide +kernel
theorem dX5_ahead_29 : decode cX5_ahead 29 = .ok (.aload_n 0, 1) := by decide +kernel
theorem dX5_ahead_30 : decode cX5_ahead 30 = .ok (.ldc 92, 2) := by decide +kernel
theorem dX5_ahead_32 : decode cX5_ahead 32 = .ok (.invokevirtual 109, 3) := by decide +kernel
theorem dX5_ahead_35 : decode cX5_ahead 35 = .ok (.ireturn, 1) := by decide +kernel
theorem dX5_ahead_36 : decode cX5_ahead 36 = .ok (.aload_n 0, 1) := by decide +kernel
theorem dX5_ahead_37 : decode cX5_ahead 37 = .ok (.iload_n 1, 1) := by decide +kernel
theorem dX5_ahead_38 : decode cX5_ahead 38 = .ok (.invokevirtual 160, 3) := by decide +kernel
theorem dX5_ahead_41 : decode cX5_ahead 41 = .ok (.ifCond .eq 10, 3) := by decide +kernel
theorem dX5_ahead_44 : decode cX5_ahead 44 = .ok (.aload_n 0, 1) := by decide +kernel
theorem dX5_ahead_45 : decode cX5_ahead 45 = .ok (.ldc 163, 2) := by decide +kernel
theorem dX5_ahead_47 : decode cX5_ahead 47 = .ok (.invokevirtual 109, 3) := by decide +kernel
theorem dX5_ahead_50 : decode cX5_ahead 50 = .ok (.ireturn, 1) := by decide +kernel
theorem dX5_ahead_51 : decode cX5_ahead 51 = .ok (.aload_n 0, 1) := by decide +kernel
theorem dX5_ahead_52 : decode cX5_ahead 52 = .ok (.getfield 9, 3) := by decide +kernel
theorem dX5_ahead_55 : decode cX5_ahead 55 = .ok (.aload_n 0, 1) := by decide +kernel
theorem dX5_ahead_56 : decode cX5_ahead 56 = .ok (.getfield 16, 3) := by decide +kernel
theorem dX5_ahead_59 : decode cX5_ahead 59 = .ok (.invokestatic 93, 3) := by decide +kernel
theorem dX5_ahead_62 : decode cX5_ahead 62 = .ok (.aload_n 0, 1) := by decide +kernel
theorem dX5_ahead_63 : decode cX5_ahead 63 = .ok (.iload_n 1, 1) := by decide +kernel
theorem dX5_ahead_64 : decode cX5_ahead 64 = .ok (.invokevirtual 164, 3) := by decide +kernel
theorem dX5_ahead_67 : decode cX5_ahead 67 = .ok (.istore_n 3, 1) := by decide +kernel
theorem dX5_ahead_68 : decode cX5_ahead 68 = .ok (.aload_n 0, 1) := by decide +kernel
theorem dX5_ahead_69 : decode cX5_ahead 69 = .ok (.iload_n 2, 1) := by decide +kernel
theorem dX5_ahead_70 : decode cX5_ahead 70 = .ok (.ifCond .ne 7, 3) := by decide +kernel
theorem dX5_ahead_73 : decode cX5_ahead 73 = .ok (.iload_n 3, 1) := by decide +kernel
theorem dX5_ahead_74 : decode cX5_ahead 74 = .ok (.goto 48, 3) := by decide +kernel
theorem dX5_ahead_77 : decode cX5_ahead 77 = .ok (.iload_n 2, 1) := by decide +kernel
theorem dX5_ahead_78 : decode cX5_ahead 78 = .ok (.iconst 1, 1) := by decide +kernel
theorem dX5_ahead_79 : decode cX5_ahead 79 = .ok (.if_icmp .ne 10, 3) := by decide +kernel
theorem dX5_ahead_82 : decode cX5_ahead 82 = .ok (.aload_n 0, 1) := by decide +kernel
theorem dX5_ahead_83 : decode cX5_ahead 83 = .ok (.invokevirtual 170, 3) := by decide +kernel
theorem dX5_ahead_86 : decode cX5_ahead 86 = .ok (.goto 36, 3) := by decide +kernel
theorem dX5_ahead_89 : decode cX5_ahead 89 = .ok (.iload_n 2, 1) := by decide +kernel
theorem dX5_ahead_90 : decode cX5_ahead 90 = .ok (.iconst 2, 1) := by decide +kernel
theorem dX5_ahead_91 : decode cX5_ahead 91 = .ok (.if_icmp .ne 11, 3) := by decide +kernel
theorem dX5_ahead_94 : decode cX5_ahead 94 = .ok (.aload_n 0, 1) := by decide +kernel
theorem dX5_ahead_95 : decode cX5_ahead 95 = .ok (.iconst 1, 1) := by decide +kernel
theorem dX5_ahead_96 : decode cX5_ahead 96 = .ok (.invokevirtual 173, 3) := by decide +kernel
theorem dX5_ahead_99 : decode cX5_ahead 99 = .ok (.goto 23, 3) := by decide +kernel
theorem dX5_ahead_102 : decode cX5_ahead 102 = .ok (.iload_n 2, 1) := by decide +kernel
theorem dX5_ahead_103 : decode cX5_ahead 103 = .ok (.iconst 3, 1) := by decide +kernel
theorem dX5_ahead_104 : decode cX5_ahead 104 = .ok (.if_icmp .ne 10, 3) := by decide +kernel
theorem dX5_ahead_107 : decode cX5_ahead 107 = .ok (.aload_n 0, 1) := by decide +kernel
theorem dX5_ahead_108 : decode cX5_ahead 108 = .ok (.invokevirtual 176, 3) := by decide +kernel
theorem dX5_ahead_111 : decode cX5_ahead 111 = .ok (.goto 11, 3) := by decide +kernel
theorem dX5_ahead_114 : decode cX5_ahead 114 = .ok (.aload_n 0, 1) := by decide +kernel
theorem dX5_ahead_115 : decode cX5_ahead 115 = .ok (.iload_n 2, 1) := by decide +kernel
theorem dX5_ahead_116 : decode cX5_ahead 116 = .ok (.iconst 4, 1) := by decide +kernel
theorem dX5_ahead_117 : decode cX5_ahead 117 = .ok (.isub, 1) := by decide +kernel
theorem dX5_ahead_118 : decode cX5_ahead 118 = .ok (.iconst 1, 1) := by decide +kernel
theorem dX5_ahead_119 : decode cX5_ahead 119 = .ok (.invokevirtual 120, 3) := by decide +kernel
theorem dX5_ahead_122 : decode cX5_ahead 122 = .ok (.invokevirtual 179, 3) := by decide +kernel
theorem dX5_ahead_125 : decode cX5_ahead 125 = .ok (.ireturn, 1) := by decide +kernel
theorem dX5_isLate_0 : decode cX5_isLate 0 = .ok (.aload_n 0, 1) := by decide +kernel
theorem dX5_isLate_1 : decode cX5_isLate 1 = .ok (.getfield 9, 3) := by decide +kernel
theorem dX5_isLate_4 : decode cX5_isLate 4 = .ok (.iconst 0, 1) := by decide +kernel
theorem dX5_isLate_5 : decode cX5_isLate 5 = .ok (.iaload, 1) := by decide +kernel
theorem dX5_isLate_6 : decode cX5_isLate 6 = .ok (.sipush 9899, 3) := by decide +kernel
theorem dX5_isLate_9 : decode cX5_isLate 9 = .ok (.if_icmp .le 7, 3) := by decide +kernel
theorem dX5_isLate_12 : decode cX5_isLate 12 = .ok (.iconst 1, 1) := by decide +kernel
theorem dX5_isLate_13 : decode cX5_isLate 13 = .ok (.goto 4, 3) := by decide +kernel
theorem dX5_isLate_16 : decode cX5_isLate 16 = .ok (.iconst 0, 1) := by decide +kernel
theorem dX5_isLate_17 : decode cX5_isLate 17 = .ok (.ireturn, 1) := by decide +kernel
theorem dX5_firstBelow_0 : decode cX5_firstBelow 0 = .ok (.aload_n 0, 1) := by decide +kernel
theorem dX5_firstBelow_1 : decode cX5_firstBelow 1 = .ok (.iload_n 1, 1) := by decide +kernel
theorem dX5_firstBelow_2 : decode cX5_firstBelow 2 = .ok (.invokevirtual 128, 3) := by decide +kernel
theorem dX5_firstBelow_5 : decode cX5_firstBelow 5 = .ok (.ifCond .ne 10, 3) := by decide +kernel
theorem dX5_firstBelow_8 : decode cX5_firstBelow 8 = .ok (.aload_n 0, 1) := by decide +kernel
theorem dX5_firstBelow_9 : decode cX5_firstBelow 9 = .ok (.ldc 92, 2) := by decide +kernel
theorem dX5_firstBelow_11 : decode cX5_firstBelow 11 = .ok (.invokevirtual 109, 3) := by decide +kernel
theorem dX5_firstBelow_14 : decode cX5_firstBelow 14 = .ok (.ireturn, 1) := by decide +kernel
theorem dX5_firstBelow_15 : decode cX5_firstBelow 15 = .ok (.aload_n 0, 1) := by decide +kernel
theorem dX5_firstBelow_16 : decode cX5_firstBelow 16 = .ok (.invokevirtual 182, 3) := by decide +kernel
theorem dX5_firstBelow_19 : decode cX5_firstBelow 19 = .ok (.ifCond .eq 10, 3) := by decide +kernel
theorem dX5_firstBelow_22 : decode cX5_firstBelow 22 = .ok (.aload_n 0, 1) := by decide +kernel
theorem dX5_firstBelow_23 : decode cX5_firstBelow 23 = .ok (.ldc 163, 2) := by decide +kernel
theorem dX5_firstBelow_25 : decode cX5_firstBelow 25 = .ok (.invokevirtual 109, 3) := by decide +kernel
theorem dX5_firstBelow_28 : decode cX5_firstBelow 28 = .ok (.ireturn, 1) := by decide +kernel
theorem dX5_firstBelow_29 : decode cX5_firstBelow 29 = .ok (.aload_n 0, 1) := by decide +kernel
theorem dX5_firstBelow_30 : decode cX5_firstBelow 30 = .ok (.getfield 9, 3) := by decide +kernel
theorem dX5_firstBelow_33 : decode cX5_firstBelow 33 = .ok (.aload_n 0, 1) := by decide +kernel
theorem dX5_firstBelow_34 : decode cX5_firstBelow 34 = .ok (.getfield 16, 3) := by decide +kernel
theorem dX5_firstBelow_37 : decode cX5_firstBelow 37 = .ok (.invokestatic 93, 3) := by decide +kernel
theorem dX5_firstBelow_40 : decode cX5_firstBelow 40 = .ok (.iconst 0, 1) := by decide +kernel
theorem dX5_firstBelow_41 : decode cX5_firstBelow 41 = .ok (.istore 4, 2) := by decide +kernel
theorem dX5_firstBelow_43 : decode cX5_firstBelow 43 = .ok (.iload 4, 2) := by decide +kernel
theorem dX5_firstBelow_45 : decode cX5_firstBelow 45 = .ok (.bipush 100, 2) := by decide +kernel
theorem dX5_firstBelow_47 : decode cX5_firstBelow 47 = .ok (.if_icmp .gt 25, 3) := by decide +kernel
theorem dX5_firstBelow_50 : decode cX5_firstBelow 50 = .ok (.aload_n 0, 1) := by decide +kernel
theorem dX5_firstBelow_51 : decode cX5_firstBelow 51 = .ok (.iload_n 1, 1) := by decide +kernel
theorem dX5_firstBelow_52 : decode cX5_firstBelow 52 = .ok (.iload_n 2, 1) := by decide +kernel
theorem dX5_firstBelow_53 : decode cX5_firstBelow 53 = .ok (.invokevirtual 120, 3) := by decide +kernel
theorem dX5_firstBelow_56 : decode cX5_firstBelow 56 = .ok (.iload_n 3, 1) := by decide +kernel
theorem dX5_firstBelow_57 : decode cX5_firstBelow 57 = .ok (.if_icmp .lt 15, 3) := by decide +kernel
theorem dX5_firstBelow_60 : decode cX5_firstBelow 60 = .ok (.aload_n 0, 1) := by decide +kernel
theorem dX5_firstBelow_61 : decode cX5_firstBelow 61 = .ok (.iconst 1, 1) := by decide +kernel
theorem dX5_firstBelow_62 : decode cX5_firstBelow 62 = .ok (.invokevirtual 164, 3) := by decide +kernel
theorem dX5_firstBelow_65 : decode cX5_firstBelow 65 = .ok (.pop, 1) := by decide +kernel
theorem dX5_firstBelow_66 : decode cX5_firstBelow 66 = .ok (.iinc 4 1, 3) := by decide +kernel
theorem dX5_firstBelow_69 : decode cX5_firstBelow 69 = .ok (.goto (-26), 3) := by decide +kernel
theorem dX5_firstBelow_72 : decode cX5_firstBelow 72 = .ok (.aload_n 0, 1) := by decide +kernel
theorem dX5_firstBelow_73 : decode cX5_firstBelow 73 = .ok (.iload 4, 2) := by decide +kernel
theorem dX5_firstBelow_75 : decode cX5_firstBelow 75 = .ok (.invokevirtual 179, 3) := by decide +kernel
theorem dX5_firstBelow_78 : decode cX5_firstBelow 78 = .ok (.bipush 100, 2) := by decide +kernel
theorem dX5_firstBelow_80 : decode cX5_firstBelow 80 = .ok (.if_icmp .le 12, 3) := by decide +kernel
theorem dX5_firstBelow_83 : decode cX5_firstBelow 83 = .ok (.aload_n 0, 1) := by decide +kernel
theorem dX5_firstBelow_84 : decode cX5_firstBelow 84 = .ok (.ldc 186, 2) := by decide +kernel
theorem dX5_firstBelow_86 : decode cX5_firstBelow 86 = .ok (.invokevirtual 109, 3) := by decide +kernel
theorem dX5_firstBelow_89 : decode cX5_firstBelow 89 = .ok (.goto 5, 3) := by decide +kernel
theorem dX5_firstBelow_92 : decode cX5_firstBelow 92 = .ok (.iload 4, 2) := by decide +kernel
theorem dX5_firstBelow_94 : decode cX5_firstBelow 94 = .ok (.ireturn, 1) := by decide +kernel
theorem dX5_cold_0 : decode cX5_cold 0 = .ok (.aload_n 0, 1) := by decide +kernel
theorem dX5_cold_1 : decode cX5_cold 1 = .ok (.iload_n 1, 1) := by decide +kernel
theorem dX5_cold_2 : decode cX5_cold 2 = .ok (.iconst 1, 1) := by decide +kernel
theorem dX5_cold_3 : decode cX5_cold 3 = .ok (.bipush 60, 2) := by decide +kernel
theorem dX5_cold_5 : decode cX5_cold 5 = .ok (.invokevirtual 187, 3) := by decide +kernel
theorem dX5_cold_8 : decode cX5_cold 8 = .ok (.ireturn, 1) := by decide +kernel
theorem dX5_spent_0 : decode cX5_spent 0 = .ok (.aload_n 0, 1) := by decide +kernel
theorem dX5_spent_1 : decode cX5_spent 1 = .ok (.iload_n 1, 1) := by decide +kernel
theorem dX5_spent_2 : decode cX5_spent 2 = .ok (.iconst 2, 1) := by decide +kernel
theorem dX5_spent_3 : decode cX5_spent 3 = .ok (.iconst 1, 1) := by decide +kernel
theorem dX5_spent_4 : decode cX5_spent 4 = .ok (.invokevirtual 187, 3) := by decide +kernel
theorem dX5_spent_7 : decode cX5_spent 7 = .ok (.ireturn, 1) := by decide +kernel
theorem dX5_gave_0 : decode cX5_gave 0 = .ok (.iconst 0, 1) := by decide +kernel
theorem dX5_gave_1 : decode cX5_gave 1 = .ok (.istore_n 1, 1) := by decide +kernel
theorem dX5_gave_2 : decode cX5_gave 2 = .ok (.iconst 0, 1) := by decide +kernel
theorem dX5_gave_3 : decode cX5_gave 3 = .ok (.istore_n 2, 1) := by decide +kernel
theorem dX5_gave_4 : decode cX5_gave 4 = .ok (.iload_n 2, 1) := by decide +kernel
theorem dX5_gave_5 : decode cX5_gave 5 = .ok (.aload_n 0, 1) := by decide +kernel
theorem dX5_gave_6 : decode cX5_gave 6 = .ok (.getfield 9, 3) := by decide +kernel
theorem dX5_gave_9 : decode cX5_gave 9 = .ok (.iconst 2, 1) := by decide +kernel
theorem dX5_gave_10 : decode cX5_gave 10 = .ok (.iaload, 1) := by decide +kernel
theorem dX5_gave_11 : decode cX5_gave 11 = .ok (.if_icmp .ge 21, 3) := by decide +kernel
theorem dX5_gave_14 : decode cX5_gave 14 = .ok (.iconst 4, 1) := by decide +kernel
theorem dX5_gave_15 : decode cX5_gave 15 = .ok (.iload_n 1, 1) := by decide +kernel
theorem dX5_gave_16 : decode cX5_gave 16 = .ok (.imul, 1) := by decide +kernel
theorem dX5_gave_17 : decode cX5_gave 17 = .ok (.aload_n 0, 1) := by decide +kernel
theorem dX5_gave_18 : decode cX5_gave 18 = .ok (.iload_n 2, 1) := by decide +kernel
theorem dX5_gave_19 : decode cX5_gave 19 = .ok (.bipush 8, 2) := by decide +kernel
theorem dX5_gave_21 : decode cX5_gave 21 = .ok (.invokevirtual 120, 3) := by decide +kernel
theorem dX5_gave_24 : decode cX5_gave 24 = .ok (.iadd, 1) := by decide +kernel
theorem dX5_gave_25 : decode cX5_gave 25 = .ok (.istore_n 1, 1) := by decide +kernel
theorem dX5_gave_26 : decode cX5_gave 26 = .ok (.iinc 2 1, 3) := by decide +kernel
theorem dX5_gave_29 : decode cX5_gave 29 = .ok (.goto (-25), 3) := by decide +kernel
theorem dX5_gave_32 : decode cX5_gave 32 = .ok (.iload_n 1, 1) := by decide +kernel
theorem dX5_gave_33 : decode cX5_gave 33 = .ok (.ireturn, 1) := by decide +kernel
theorem dX5_rest_0 : decode cX5_rest 0 = .ok (.aload_n 0, 1) := by decide +kernel
theorem dX5_rest_1 : decode cX5_rest 1 = .ok (.invokevirtual 182, 3) := by decide +kernel
theorem dX5_rest_4 : decode cX5_rest 4 = .ok (.ifCond .eq 10, 3) := by decide +kernel
theorem dX5_rest_7 : decode cX5_rest 7 = .ok (.aload_n 0, 1) := by decide +kernel
theorem dX5_rest_8 : decode cX5_rest 8 = .ok (.ldc 163, 2) := by decide +kernel
theorem dX5_rest_10 : decode cX5_rest 10 = .ok (.invokevirtual 109, 3) := by decide +kernel
theorem dX5_rest_13 : decode cX5_rest 13 = .ok (.ireturn, 1) := by decide +kernel
theorem dX5_rest_14 : decode cX5_rest 14 = .ok (.aload_n 0, 1) := by decide +kernel
theorem dX5_rest_15 : decode cX5_rest 15 = .ok (.getfield 9, 3) := by decide +kernel
theorem dX5_rest_18 : decode cX5_rest 18 = .ok (.aload_n 0, 1) := by decide +kernel
theorem dX5_rest_19 : decode cX5_rest 19 = .ok (.getfield 16, 3) := by decide +kernel
theorem dX5_rest_22 : decode cX5_rest 22 = .ok (.invokestatic 93, 3) := by decide +kernel
theorem dX5_rest_25 : decode cX5_rest 25 = .ok (.iconst 0, 1) := by decide +kernel
theorem dX5_rest_26 : decode cX5_rest 26 = .ok (.istore_n 1, 1) := by decide +kernel
theorem dX5_rest_27 : decode cX5_rest 27 = .ok (.iconst 0, 1) := by decide +kernel
theorem dX5_rest_28 : decode cX5_rest 28 = .ok (.istore_n 2, 1) := by decide +kernel
theorem dX5_rest_29 : decode cX5_rest 29 = .ok (.iload_n 1, 1) := by decide +kernel
theorem dX5_rest_30 : decode cX5_rest 30 = .ok (.bipush 60, 2) := by decide +kernel
theorem dX5_rest_32 : decode cX5_rest 32 = .ok (.if_icmp .ge 38, 3) := by decide +kernel
theorem dX5_rest_35 : decode cX5_rest 35 = .ok (.iload_n 2, 1) := by decide +kernel
theorem dX5_rest_36 : decode cX5_rest 36 = .ok (.ifCond .ne 34, 3) := by decide +kernel
theorem dX5_rest_39 : decode cX5_rest 39 = .ok (.aload_n 0, 1) := by decide +kernel
theorem dX5_rest_40 : decode cX5_rest 40 = .ok (.invokevirtual 191, 3) := by decide +kernel
theorem dX5_rest_43 : decode cX5_rest 43 = .ok (.istore_n 3, 1) := by decide +kernel
theorem dX5_rest_44 : decode cX5_rest 44 = .ok (.aload_n 0, 1) := by decide +kernel
theorem dX5_rest_45 : decode cX5_rest 45 = .ok (.iconst 1, 1) := by decide +kernel
theorem dX5_rest_46 : decode cX5_rest 46 = .ok (.invokevirtual 164, 3) := by decide +kernel
theorem dX5_rest_49 : decode cX5_rest 49 = .ok (.pop, 1) := by decide +kernel
theorem dX5_rest_50 : decode cX5_rest 50 = .ok (.iinc 1 1, 3) := by decide +kernel
theorem dX5_rest_53 : decode cX5_rest 53 = .ok (.aload_n 0, 1) := by decide +kernel
theorem dX5_rest_54 : decode cX5_rest 54 = .ok (.invokevirtual 191, 3) := by decide +kernel
theorem dX5_rest_57 : decode cX5_rest 57 = .ok (.iload_n 3, 1) := by decide +kernel
theorem dX5_rest_58 : decode cX5_rest 58 = .ok (.if_icmp .ne 7, 3) := by decide +kernel
theorem dX5_rest_61 : decode cX5_rest 61 = .ok (.iconst 1, 1) := by decide +kernel
theorem dX5_rest_62 : decode cX5_rest 62 = .ok (.goto 4, 3) := by decide +kernel
theorem dX5_rest_65 : decode cX5_rest 65 = .ok (.iconst 0, 1) := by decide +kernel
theorem dX5_rest_66 : decode cX5_rest 66 = .ok (.istore_n 2, 1) := by decide +kernel
theorem dX5_rest_67 : decode cX5_rest 67 = .ok (.goto (-38), 3) := by decide +kernel
theorem dX5_rest_70 : decode cX5_rest 70 = .ok (.aload_n 0, 1) := by decide +kernel
theorem dX5_rest_71 : decode cX5_rest 71 = .ok (.iload_n 2, 1) := by decide +kernel
theorem dX5_rest_72 : decode cX5_rest 72 = .ok (.ifCond .eq 7, 3) := by decide +kernel
theorem dX5_rest_75 : decode cX5_rest 75 = .ok (.iload_n 1, 1) := by decide +kernel
theorem dX5_rest_76 : decode cX5_rest 76 = .ok (.goto 4, 3) := by decide +kernel
theorem dX5_rest_79 : decode cX5_rest 79 = .ok (.iconst 0, 1) := by decide +kernel
theorem dX5_rest_80 : decode cX5_rest 80 = .ok (.invokevirtual 179, 3) := by decide +kernel
theorem dX5_rest_83 : decode cX5_rest 83 = .ok (.ifCond .ne 12, 3) := by decide +kernel
theorem dX5_rest_86 : decode cX5_rest 86 = .ok (.aload_n 0, 1) := by decide +kernel
theorem dX5_rest_87 : decode cX5_rest 87 = .ok (.ldc 186, 2) := by decide +kernel
theorem dX5_rest_89 : decode cX5_rest 89 = .ok (.invokevirtual 109, 3) := by decide +kernel
theorem dX5_rest_92 : decode cX5_rest 92 = .ok (.goto 4, 3) := by decide +kernel
theorem dX5_rest_95 : decode cX5_rest 95 = .ok (.iload_n 1, 1) := by decide +kernel
theorem dX5_rest_96 : decode cX5_rest 96 = .ok (.ireturn, 1) := by decide +kernel
theorem dX5_circle_0 : decode cX5_circle 0 = .ok (.aload_n 0, 1) := by decide +kernel
theorem dX5_circle_1 : decode cX5_circle 1 = .ok (.invokevirtual 182, 3) := by decide +kernel
theorem dX5_circle_4 : decode cX5_circle 4 = .ok (.ifCond .eq 10, 3) := by decide +kernel
theorem dX5_circle_7 : decode cX5_circle 7 = .ok (.aload_n 0, 1) := by decide +kernel
theorem dX5_circle_8 : decode cX5_circle 8 = .ok (.ldc 163, 2) := by decide +kernel
theorem dX5_circle_10 : decode cX5_circle 10 = .ok (.invokevirtual 109, 3) := by decide +kernel
theorem dX5_circle_13 : decode cX5_circle 13 = .ok (.ireturn, 1) := by decide +kernel
theorem dX5_circle_14 : decode cX5_circle 14 = .ok (.aload_n 0, 1) := by decide +kernel
theorem dX5_circle_15 : decode cX5_circle 15 = .ok (.getfield 9, 3) := by decide +kernel
theorem dX5_circle_18 : decode cX5_circle 18 = .ok (.aload_n 0, 1) := by decide +kernel
theorem dX5_circle_19 : decode cX5_circle 19 = .ok (.getfield 16, 3) := by decide +kernel
theorem dX5_circle_22 : decode cX5_circle 22 = .ok (.invokestatic 93, 3) := by decide +kernel
theorem dX5_circle_25 : decode cX5_circle 25 = .ok (.aload_n 0, 1) := by decide +kernel
theorem dX5_circle_26 : decode cX5_circle 26 = .ok (.bipush 24, 2) := by decide +kernel
theorem dX5_circle_28 : decode cX5_circle 28 = .ok (.invokevirtual 164, 3) := by decide +kernel
theorem dX5_circle_31 : decode cX5_circle 31 = .ok (.istore_n 1, 1) := by decide +kernel
theorem dX5_circle_32 : decode cX5_circle 32 = .ok (.aload_n 0, 1) := by decide +kernel
theorem dX5_circle_33 : decode cX5_circle 33 = .ok (.invokevirtual 191, 3) := by decide +kernel
theorem dX5_circle_36 : decode cX5_circle 36 = .ok (.istore_n 2, 1) := by decide +kernel
theorem dX5_circle_37 : decode cX5_circle 37 = .ok (.aload_n 0, 1) := by decide +kernel
theorem dX5_circle_38 : decode cX5_circle 38 = .ok (.getfield 31, 3) := by decide +kernel
theorem dX5_circle_41 : decode cX5_circle 41 = .ok (.astore_n 3, 1) := by decide +kernel
theorem dX5_circle_42 : decode cX5_circle 42 = .ok (.iconst 0, 1) := by decide +kernel
theorem dX5_circle_43 : decode cX5_circle 43 = .ok (.istore 4, 2) := by decide +kernel
theorem dX5_circle_45 : decode cX5_circle 45 = .ok (.iload 4, 2) := by decide +kernel
theorem dX5_circle_47 : decode cX5_circle 47 = .ok (.aload_n 0, 1) := by decide +kernel
theorem dX5_circle_48 : decode cX5_circle 48 = .ok (.getfield 9, 3) := by decide +kernel
theorem dX5_circle_51 : decode cX5_circle 51 = .ok (.iconst 2, 1) := by decide +kernel
theorem dX5_circle_52 : decode cX5_circle 52 = .ok (.iaload, 1) := by decide +kernel
theorem dX5_circle_53 : decode cX5_circle 53 = .ok (.if_icmp .ge 21, 3) := by decide +kernel
theorem dX5_circle_56 : decode cX5_circle 56 = .ok (.aload_n 3, 1) := by decide +kernel
theorem dX5_circle_57 : decode cX5_circle 57 = .ok (.iload 4, 2) := by decide +kernel
theorem dX5_circle_59 : decode cX5_circle 59 = .ok (.aload_n 0, 1) := by decide +kernel
theorem dX5_circle_60 : decode cX5_circle 60 = .ok (.iload 4, 2) := by decide +kernel
theorem dX5_circle_62 : decode cX5_circle 62 = .ok (.bipush 7, 2) := by decide +kernel
theorem dX5_circle_64 : decode cX5_circle 64 = .ok (.invokevirtual 120, 3) := by decide +kernel
theorem dX5_circle_67 : decode cX5_circle 67 = .ok (.iastore, 1) := by decide +kernel
theorem dX5_circle_68 : decode cX5_circle 68 = .ok (.iinc 4 1, 3) := by decide +kernel
theorem dX5_circle_71 : decode cX5_circle 71 = .ok (.goto (-26), 3) := by decide +kernel
theorem dX5_circle_74 : decode cX5_circle 74 = .ok (.iconst (-1), 1) := by decide +kernel
theorem dX5_circle_75 : decode cX5_circle 75 = .ok (.istore 4, 2) := by decide +kernel
theorem dX5_circle_77 : decode cX5_circle 77 = .ok (.iconst 1, 1) := by decide +kernel
theorem dX5_circle_78 : decode cX5_circle 78 = .ok (.istore 5, 2) := by decide +kernel
theorem dX5_circle_80 : decode cX5_circle 80 = .ok (.iload 5, 2) := by decide +kernel
theorem dX5_circle_82 : decode cX5_circle 82 = .ok (.bipush 12, 2) := by decide +kernel
theorem dX5_circle_84 : decode cX5_circle 84 = .ok (.if_icmp .gt 105, 3) := by decide +kernel
theorem dX5_circle_87 : decode cX5_circle 87 = .ok (.iload 4, 2) := by decide +kernel
theorem dX5_circle_89 : decode cX5_circle 89 = .ok (.ifCond .ge 100, 3) := by decide +kernel
theorem dX5_circle_92 : decode cX5_circle 92 = .ok (.iload_n 1, 1) := by decide +kernel
theorem dX5_circle_93 : decode cX5_circle 93 = .ok (.aload_n 0, 1) := by decide +kernel
theorem dX5_circle_94 : decode cX5_circle 94 = .ok (.iconst 1, 1) := by decide +kernel
theorem dX5_circle_95 : decode cX5_circle 95 = .ok (.invokevirtual 164, 3) := by decide +kernel
theorem dX5_circle_98 : decode cX5_circle 98 = .ok (.iadd, 1) := by decide +kernel
theorem dX5_circle_99 : decode cX5_circle 99 = .ok (.istore_n 1, 1) := by decide +kernel
theorem dX5_circle_100 : decode cX5_circle 100 = .ok (.iload 5, 2) := by decide +kernel
theorem dX5_circle_102 : decode cX5_circle 102 = .ok (.iconst 2, 1) := by decide +kernel
theorem dX5_circle_103 : decode cX5_circle 103 = .ok (.irem, 1) := by decide +kernel
theorem dX5_circle_104 : decode cX5_circle 104 = .ok (.ifCond .ne 15, 3) := by decide +kernel
theorem dX5_circle_107 : decode cX5_circle 107 = .ok (.aload_n 0, 1) := by decide +kernel
theorem dX5_circle_108 : decode cX5_circle 108 = .ok (.invokevirtual 191, 3) := by decide +kernel
theorem dX5_circle_111 : decode cX5_circle 111 = .ok (.iload_n 2, 1) := by decide +kernel
theorem dX5_circle_112 : decode cX5_circle 112 = .ok (.if_icmp .ne 7, 3) := by decide +kernel
theorem dX5_circle_115 : decode cX5_circle 115 = .ok (.iconst 1, 1) := by decide +kernel
theorem dX5_circle_116 : decode cX5_circle 116 = .ok (.goto 4, 3) := by decide +kernel
theorem dX5_circle_119 : decode cX5_circle 119 = .ok (.iconst 0, 1) := by decide +kernel
theorem dX5_circle_120 : decode cX5_circle 120 = .ok (.istore 6, 2) := by decide +kernel
theorem dX5_circle_122 : decode cX5_circle 122 = .ok (.iconst 0, 1) := by decide +kernel
theorem dX5_circle_123 : decode cX5_circle 123 = .ok (.istore 7, 2) := by decide +kernel
theorem dX5_circle_125 : decode cX5_circle 125 = .ok (.iload 7, 2) := by decide +kernel
theorem dX5_circle_127 : decode cX5_circle 127 = .ok (.aload_n 0, 1) := by decide +kernel
theorem dX5_circle_128 : decode cX5_circle 128 = .ok (.getfield 9, 3) := by decide +kernel
theorem dX5_circle_131 : decode cX5_circle 131 = .ok (.iconst 2, 1) := by decide +kernel
theorem dX5_circle_132 : decode cX5_circle 132 = .ok (.iaload, 1) := by decide +kernel
theorem dX5_circle_133 : decode cX5_circle 133 = .ok (.if_icmp .ge 36, 3) := by decide +kernel
theorem dX5_circle_136 : decode cX5_circle 136 = .ok (.iload 6, 2) := by decide +kernel
theorem dX5_circle_138 : decode cX5_circle 138 = .ok (.ifCond .eq 22, 3) := by decide +kernel
theorem dX5_circle_141 : decode cX5_circle 141 = .ok (.aload_n 3, 1) := by decide +kernel
theorem dX5_circle_142 : decode cX5_circle 142 = .ok (.iload 7, 2) := by decide +kernel
theorem dX5_circle_144 : decode cX5_circle 144 = .ok (.iaload, 1) := by decide +kernel
theorem dX5_circle_145 : decode cX5_circle 145 = .ok (.aload_n 0, 1) := by decide +kernel
theorem dX5_circle_146 : decode cX5_circle 146 = .ok (.iload 7, 2) := by decide +kernel
theorem dX5_circle_148 : decode cX5_circle 148 = .ok (.bipush 7, 2) := by decide +kernel
theorem dX5_circle_150 : decode cX5_circle 150 = .ok (.invokevirtual 120, 3) := by decide +kernel
theorem dX5_circle_153 : decode cX5_circle 153 = .ok (.if_icmp .ne 7, 3) := by decide +kernel
theorem dX5_circle_156 : decode cX5_circle 156 = .ok (.iconst 1, 1) := by decide +kernel
theorem dX5_circle_157 : decode cX5_circle 157 = .ok (.goto 4, 3) := by decide +kernel
theorem dX5_circle_160 : decode cX5_circle 160 = .ok (.iconst 0, 1) := by decide +kernel
theorem dX5_circle_161 : decode cX5_circle 161 = .ok (.istore 6, 2) := by decide +kernel
theorem dX5_circle_163 : decode cX5_circle 163 = .ok (.iinc 7 1, 3) := by decide +kernel
theorem dX5_circle_166 : decode cX5_circle 166 = .ok (.goto (-41), 3) := by decide +kernel
theorem dX5_circle_169 : decode cX5_circle 169 = .ok (.iload 6, 2) := by decide +kernel
theorem dX5_circle_171 : decode cX5_circle 171 = .ok (.ifCond .eq 8, 3) := by decide +kernel
theorem dX5_circle_174 : decode cX5_circle 174 = .ok (.iload 5, 2) := by decide +kernel
theorem dX5_circle_176 : decode cX5_circle 176 = .ok (.goto 5, 3) := by decide +kernel
theorem dX5_circle_179 : decode cX5_circle 179 = .ok (.iload 4, 2) := by decide +kernel
theorem dX5_circle_181 : decode cX5_circle 181 = .ok (.istore 4, 2) := by decide +kernel
theorem dX5_circle_183 : decode cX5_circle 183 = .ok (.iinc 5 1, 3) := by decide +kernel
theorem dX5_circle_186 : decode cX5_circle 186 = .ok (.goto (-106), 3) := by decide +kernel
theorem dX5_circle_189 : decode cX5_circle 189 = .ok (.aload_n 0, 1) := by decide +kernel
theorem dX5_circle_190 : decode cX5_circle 190 = .ok (.iload_n 1, 1) := by decide +kernel
theorem dX5_circle_191 : decode cX5_circle 191 = .ok (.ifCond .ge 7, 3) := by decide +kernel
theorem dX5_circle_194 : decode cX5_circle 194 = .ok (.iconst (-1), 1) := by decide +kernel
theorem dX5_circle_195 : decode cX5_circle 195 = .ok (.goto 5, 3) := by decide +kernel
theorem dX5_circle_198 : decode cX5_circle 198 = .ok (.iload 4, 2) := by decide +kernel
theorem dX5_circle_200 : decode cX5_circle 200 = .ok (.invokevirtual 179, 3) := by decide +kernel
theorem dX5_circle_203 : decode cX5_circle 203 = .ok (.ifCond .ge 12, 3) := by decide +kernel
theorem dX5_circle_206 : decode cX5_circle 206 = .ok (.aload_n 0, 1) := by decide +kernel
theorem dX5_circle_207 : decode cX5_circle 207 = .ok (.ldc 186, 2) := by decide +kernel
theorem dX5_circle_209 : decode cX5_circle 209 = .ok (.invokevirtual 109, 3) := by decide +kernel
theorem dX5_circle_212 : decode cX5_circle 212 = .ok (.goto 5, 3) := by decide +kernel
theorem dX5_circle_215 : decode cX5_circle 215 = .ok (.iload 4, 2) := by decide +kernel
theorem dX5_circle_217 : decode cX5_circle 217 = .ok (.ireturn, 1) := by decide +kernel
theorem dX5_live_0 : decode cX5_live 0 = .ok (.aload_n 0, 1) := by decide +kernel
theorem dX5_live_1 : decode cX5_live 1 = .ok (.iload_n 1, 1) := by decide +kernel
theorem dX5_live_2 : decode cX5_live 2 = .ok (.invokevirtual 164, 3) := by decide +kernel
theorem dX5_live_5 : decode cX5_live 5 = .ok (.istore_n 2, 1) := by decide +kernel
theorem dX5_live_6 : decode cX5_live 6 = .ok (.iconst 0, 1) := by decide +kernel
theorem dX5_live_7 : decode cX5_live 7 = .ok (.istore_n 3, 1) := by decide +kernel
theorem dX5_live_8 : decode cX5_live 8 = .ok (.iload_n 3, 1) := by decide +kernel
theorem dX5_live_9 : decode cX5_live 9 = .ok (.aload_n 0, 1) := by decide +kernel
theorem dX5_live_10 : decode cX5_live 10 = .ok (.getfield 9, 3) := by decide +kernel
theorem dX5_live_13 : decode cX5_live 13 = .ok (.iconst 2, 1) := by decide +kernel
theorem dX5_live_14 : decode cX5_live 14 = .ok (.iaload, 1) := by decide +kernel
theorem dX5_live_15 : decode cX5_live 15 = .ok (.if_icmp .ge 29, 3) := by decide +kernel
theorem dX5_live_18 : decode cX5_live 18 = .ok (.aload_n 0, 1) := by decide +kernel
theorem dX5_live_19 : decode cX5_live 19 = .ok (.getfield 34, 3) := by decide +kernel
theorem dX5_live_22 : decode cX5_live 22 = .ok (.iload_n 3, 1) := by decide +kernel
theorem dX5_live_23 : decode cX5_live 23 = .ok (.iload_n 2, 1) := by decide +kernel
theorem dX5_live_24 : decode cX5_live 24 = .ok (.ifCond .ge 7, 3) := by decide +kernel
theorem dX5_live_27 : decode cX5_live 27 = .ok (.iconst 0, 1) := by decide +kernel
theorem dX5_live_28 : decode cX5_live 28 = .ok (.goto 9, 3) := by decide +kernel
theorem dX5_live_31 : decode cX5_live 31 = .ok (.aload_n 0, 1) := by decide +kernel
theorem dX5_live_32 : decode cX5_live 32 = .ok (.iload_n 3, 1) := by decide +kernel
theorem dX5_live_33 : decode cX5_live 33 = .ok (.iconst 1, 1) := by decide +kernel
theorem dX5_live_34 : decode cX5_live 34 = .ok (.invokevirtual 120, 3) := by decide +kernel
theorem dX5_live_37 : decode cX5_live 37 = .ok (.iastore, 1) := by decide +kernel
theorem dX5_live_38 : decode cX5_live 38 = .ok (.iinc 3 1, 3) := by decide +kernel
theorem dX5_live_41 : decode cX5_live 41 = .ok (.goto (-33), 3) := by decide +kernel
theorem dX5_live_44 : decode cX5_live 44 = .ok (.aload_n 0, 1) := by decide +kernel
theorem dX5_live_45 : decode cX5_live 45 = .ok (.getfield 16, 3) := by decide +kernel
theorem dX5_live_48 : decode cX5_live 48 = .ok (.aload_n 0, 1) := by decide +kernel
theorem dX5_live_49 : decode cX5_live 49 = .ok (.getfield 9, 3) := by decide +kernel
theorem dX5_live_52 : decode cX5_live 52 = .ok (.invokestatic 93, 3) := by decide +kernel
theorem dX5_live_55 : decode cX5_live 55 = .ok (.return_, 1) := by decide +kernel
theorem dX5_liveAnyhow_0 : decode cX5_liveAnyhow 0 = .ok (.aload_n 0, 1) := by decide +kernel
theorem dX5_liveAnyhow_1 : decode cX5_liveAnyhow 1 = .ok (.getfield 9, 3) := by decide +kernel
theorem dX5_liveAnyhow_4 : decode cX5_liveAnyhow 4 = .ok (.aload_n 0, 1) := by decide +kernel
theorem dX5_liveAnyhow_5 : decode cX5_liveAnyhow 5 = .ok (.getfield 16, 3) := by decide +kernel
theorem dX5_liveAnyhow_8 : decode cX5_liveAnyhow 8 = .ok (.invokestatic 93, 3) := by decide +kernel
theorem dX5_liveAnyhow_11 : decode cX5_liveAnyhow 11 = .ok (.aload_n 0, 1) := by decide +kernel
theorem dX5_liveAnyhow_12 : decode cX5_liveAnyhow 12 = .ok (.iload_n 1, 1) := by decide +kernel
theorem dX5_liveAnyhow_13 : decode cX5_liveAnyhow 13 = .ok (.invokevirtual 194, 3) := by decide +kernel
theorem dX5_liveAnyhow_16 : decode cX5_liveAnyhow 16 = .ok (.iconst 0, 1) := by decide +kernel
theorem dX5_liveAnyhow_17 : decode cX5_liveAnyhow 17 = .ok (.istore_n 2, 1) := by decide +kernel
theorem dX5_liveAnyhow_18 : decode cX5_liveAnyhow 18 = .ok (.iload_n 2, 1) := by decide +kernel
theorem dX5_liveAnyhow_19 : decode cX5_liveAnyhow 19 = .ok (.bipush 8, 2) := by decide +kernel
theorem dX5_liveAnyhow_21 : decode cX5_liveAnyhow 21 = .ok (.if_icmp .ge 21, 3) := by decide +kernel
theorem dX5_liveAnyhow_24 : decode cX5_liveAnyhow 24 = .ok (.aload_n 0, 1) := by decide +kernel
theorem dX5_liveAnyhow_25 : decode cX5_liveAnyhow 25 = .ok (.getfield 37, 3) := by decide +kernel
theorem dX5_liveAnyhow_28 : decode cX5_liveAnyhow 28 = .ok (.iload_n 2, 1) := by decide +kernel
theorem dX5_liveAnyhow_29 : decode cX5_liveAnyhow 29 = .ok (.aload_n 0, 1) := by decide +kernel
theorem dX5_liveAnyhow_30 : decode cX5_liveAnyhow 30 = .ok (.getfield 34, 3) := by decide +kernel
theorem dX5_liveAnyhow_33 : decode cX5_liveAnyhow 33 = .ok (.iload_n 2, 1) := by decide +kernel
theorem dX5_liveAnyhow_34 : decode cX5_liveAnyhow 34 = .ok (.iaload, 1) := by decide +kernel
theorem dX5_liveAnyhow_35 : decode cX5_liveAnyhow 35 = .ok (.iastore, 1) := by decide +kernel
theorem dX5_liveAnyhow_36 : decode cX5_liveAnyhow 36 = .ok (.iinc 2 1, 3) := by decide +kernel
theorem dX5_liveAnyhow_39 : decode cX5_liveAnyhow 39 = .ok (.goto (-21), 3) := by decide +kernel
theorem dX5_liveAnyhow_42 : decode cX5_liveAnyhow 42 = .ok (.return_, 1) := by decide +kernel
theorem dX5_refuses_0 : decode cX5_refuses 0 = .ok (.aload_n 0, 1) := by decide +kernel
theorem dX5_refuses_1 : decode cX5_refuses 1 = .ok (.iload_n 1, 1) := by decide +kernel
theorem dX5_refuses_2 : decode cX5_refuses 2 = .ok (.invokevirtual 128, 3) := by decide +kernel
theorem dX5_refuses_5 : decode cX5_refuses 5 = .ok (.ifCond .eq 13, 3) := by decide +kernel
theorem dX5_refuses_8 : decode cX5_refuses 8 = .ok (.iload_n 2, 1) := by decide +kernel
theorem dX5_refuses_9 : decode cX5_refuses 9 = .ok (.iconst 1, 1) := by decide +kernel
theorem dX5_refuses_10 : decode cX5_refuses 10 = .ok (.bipush 60, 2) := by decide +kernel
theorem dX5_refuses_12 : decode cX5_refuses 12 = .ok (.invokestatic 97, 3) := by decide +kernel
theorem dX5_refuses_15 : decode cX5_refuses 15 = .ok (.ifCond .ne 8, 3) := by decide +kernel
theorem dX5_refuses_18 : decode cX5_refuses 18 = .ok (.ldc 92, 2) := by decide +kernel
theorem dX5_refuses_20 : decode cX5_refuses 20 = .ok (.goto 17, 3) := by decide +kernel
theorem dX5_refuses_23 : decode cX5_refuses 23 = .ok (.aload_n 0, 1) := by decide +kernel
theorem dX5_refuses_24 : decode cX5_refuses 24 = .ok (.iload_n 2, 1) := by decide +kernel
theorem dX5_refuses_25 : decode cX5_refuses 25 = .ok (.invokevirtual 160, 3) := by decide +kernel
theorem dX5_refuses_28 : decode cX5_refuses 28 = .ok (.ifCond .eq 8, 3) := by decide +kernel
theorem dX5_refuses_31 : decode cX5_refuses 31 = .ok (.ldc 163, 2) := by decide +kernel
theorem dX5_refuses_33 : decode cX5_refuses 33 = .ok (.goto 4, 3) := by decide +kernel
theorem dX5_refuses_36 : decode cX5_refuses 36 = .ok (.iconst 0, 1) := by decide +kernel
theorem dX5_refuses_37 : decode cX5_refuses 37 = .ok (.ireturn, 1) := by decide +kernel
theorem dX5_refusesHours_0 : decode cX5_refusesHours 0 = .ok (.iload_n 1, 1) := by decide +kernel
theorem dX5_refusesHours_1 : decode cX5_refusesHours 1 = .ok (.iconst 1, 1) := by decide +kernel
theorem dX5_refusesHours_2 : decode cX5_refusesHours 2 = .ok (.iload_n 2, 1) := by decide +kernel
theorem dX5_refusesHours_3 : decode cX5_refusesHours 3 = .ok (.invokestatic 97, 3) := by decide +kernel
theorem dX5_refusesHours_6 : decode cX5_refusesHours 6 = .ok (.ifCond .ne 8, 3) := by decide +kernel
theorem dX5_refusesHours_9 : decode cX5_refusesHours 9 = .ok (.ldc 92, 2) := by decide +kernel
theorem dX5_refusesHours_11 : decode cX5_refusesHours 11 = .ok (.goto 17, 3) := by decide +kernel
theorem dX5_refusesHours_14 : decode cX5_refusesHours 14 = .ok (.aload_n 0, 1) := by decide +kernel
theorem dX5_refusesHours_15 : decode cX5_refusesHours 15 = .ok (.iload_n 1, 1) := by decide +kernel
theorem dX5_refusesHours_16 : decode cX5_refusesHours 16 = .ok (.invokevirtual 160, 3) := by decide +kernel
theorem dX5_refusesHours_19 : decode cX5_refusesHours 19 = .ok (.ifCond .eq 8, 3) := by decide +kernel
theorem dX5_refusesHours_22 : decode cX5_refusesHours 22 = .ok (.ldc 163, 2) := by decide +kernel
theorem dX5_refusesHours_24 : decode cX5_refusesHours 24 = .ok (.goto 4, 3) := by decide +kernel
theorem dX5_refusesHours_27 : decode cX5_refusesHours 27 = .ok (.iconst 0, 1) := by decide +kernel
theorem dX5_refusesHours_28 : decode cX5_refusesHours 28 = .ok (.ireturn, 1) := by decide +kernel
theorem dX5_spread_0 : decode cX5_spread 0 = .ok (.aload_n 0, 1) := by decide +kernel
theorem dX5_spread_1 : decode cX5_spread 1 = .ok (.iload_n 1, 1) := by decide +kernel
theorem dX5_spread_2 : decode cX5_spread 2 = .ok (.iload_n 2, 1) := by decide +kernel
theorem dX5_spread_3 : decode cX5_spread 3 = .ok (.invokevirtual 198, 3) := by decide +kernel
theorem dX5_spread_6 : decode cX5_spread 6 = .ok (.istore_n 3, 1) := by decide +kernel
theorem dX5_spread_7 : decode cX5_spread 7 = .ok (.iload_n 3, 1) := by decide +kernel
theorem dX5_spread_8 : decode cX5_spread 8 = .ok (.ifCond .eq 9, 3) := by decide +kernel
theorem dX5_spread_11 : decode cX5_spread 11 = .ok (.aload_n 0, 1) := by decide +kernel
theorem dX5_spread_12 : decode cX5_spread 12 = .ok (.iload_n 3, 1) := by decide +kernel
theorem dX5_spread_13 : decode cX5_spread 13 = .ok (.invokevirtual 109, 3) := by decide +kernel
theorem dX5_spread_16 : decode cX5_spread 16 = .ok (.ireturn, 1) := by decide +kernel
theorem dX5_spread_17 : decode cX5_spread 17 = .ok (.aload_n 0, 1) := by decide +kernel
theorem dX5_spread_18 : decode cX5_spread 18 = .ok (.iload_n 2, 1) := by decide +kernel
theorem dX5_spread_19 : decode cX5_spread 19 = .ok (.invokevirtual 201, 3) := by decide +kernel
theorem dX5_spread_22 : decode cX5_spread 22 = .ok (.aload_n 0, 1) := by decide +kernel
theorem dX5_spread_23 : decode cX5_spread 23 = .ok (.getfield 9, 3) := by decide +kernel
theorem dX5_spread_26 : decode cX5_spread 26 = .ok (.iload_n 1, 1) := by decide +kernel
theorem dX5_spread_27 : decode cX5_spread 27 = .ok (.iconst 0, 1) := by decide +kernel
theorem dX5_spread_28 : decode cX5_spread 28 = .ok (.invokestatic 101, 3) := by decide +kernel
theorem dX5_spread_31 : decode cX5_spread 31 = .ok (.iconst 3, 1) := by decide +kernel
theorem dX5_spread_32 : decode cX5_spread 32 = .ok (.iastore, 1) := by decide +kernel
theorem dX5_spread_33 : decode cX5_spread 33 = .ok (.aload_n 0, 1) := by decide +kernel
theorem dX5_spread_34 : decode cX5_spread 34 = .ok (.iload_n 2, 1) := by decide +kernel
theorem dX5_spread_35 : decode cX5_spread 35 = .ok (.invokevirtual 194, 3) := by decide +kernel
theorem dX5_spread_38 : decode cX5_spread 38 = .ok (.iconst 0, 1) := by decide +kernel
theorem dX5_spread_39 : decode cX5_spread 39 = .ok (.istore 4, 2) := by decide +kernel
theorem dX5_spread_41 : decode cX5_spread 41 = .ok (.iconst 0, 1) := by decide +kernel
theorem dX5_spread_42 : decode cX5_spread 42 = .ok (.istore 5, 2) := by decide +kernel
theorem dX5_spread_44 : decode cX5_spread 44 = .ok (.iload 5, 2) := by decide +kernel
theorem dX5_spread_46 : decode cX5_spread 46 = .ok (.aload_n 0, 1) := by decide +kernel
theorem dX5_spread_47 : decode cX5_spread 47 = .ok (.getfield 9, 3) := by decide +kernel
theorem dX5_spread_50 : decode cX5_spread 50 = .ok (.iconst 2, 1) := by decide +kernel
theorem dX5_spread_51 : decode cX5_spread 51 = .ok (.iaload, 1) := by decide +kernel
theorem dX5_spread_52 : decode cX5_spread 52 = .ok (.if_icmp .ge 39, 3) := by decide +kernel
theorem dX5_spread_55 : decode cX5_spread 55 = .ok (.iload 4, 2) := by decide +kernel
theorem dX5_spread_57 : decode cX5_spread 57 = .ok (.aload_n 0, 1) := by decide +kernel
theorem dX5_spread_58 : decode cX5_spread 58 = .ok (.getfield 34, 3) := by decide +kernel
theorem dX5_spread_61 : decode cX5_spread 61 = .ok (.iload 5, 2) := by decide +kernel
theorem dX5_spread_63 : decode cX5_spread 63 = .ok (.iaload, 1) := by decide +kernel
theorem dX5_spread_64 : decode cX5_spread 64 = .ok (.aload_n 0, 1) := by decide +kernel
theorem dX5_spread_65 : decode cX5_spread 65 = .ok (.getfield 37, 3) := by decide +kernel
theorem dX5_spread_68 : decode cX5_spread 68 = .ok (.iload 5, 2) := by decide +kernel
theorem dX5_spread_70 : decode cX5_spread 70 = .ok (.iaload, 1) := by decide +kernel
theorem dX5_spread_71 : decode cX5_spread 71 = .ok (.if_icmp .ge 10, 3) := by decide +kernel
theorem dX5_spread_74 : decode cX5_spread 74 = .ok (.iconst 1, 1) := by decide +kernel
theorem dX5_spread_75 : decode cX5_spread 75 = .ok (.iload 5, 2) := by decide +kernel
theorem dX5_spread_77 : decode cX5_spread 77 = .ok (.ishl, 1) := by decide +kernel
theorem dX5_spread_78 : decode cX5_spread 78 = .ok (.goto 4, 3) := by decide +kernel
theorem dX5_spread_81 : decode cX5_spread 81 = .ok (.iconst 0, 1) := by decide +kernel
theorem dX5_spread_82 : decode cX5_spread 82 = .ok (.ior, 1) := by decide +kernel
theorem dX5_spread_83 : decode cX5_spread 83 = .ok (.istore 4, 2) := by decide +kernel
theorem dX5_spread_85 : decode cX5_spread 85 = .ok (.iinc 5 1, 3) := by decide +kernel
theorem dX5_spread_88 : decode cX5_spread 88 = .ok (.goto (-44), 3) := by decide +kernel
theorem dX5_spread_91 : decode cX5_spread 91 = .ok (.iload 4, 2) := by decide +kernel
theorem dX5_spread_93 : decode cX5_spread 93 = .ok (.ireturn, 1) := by decide +kernel
theorem dX5_bestOf_0 : decode cX5_bestOf 0 = .ok (.aload_n 0, 1) := by decide +kernel
theorem dX5_bestOf_1 : decode cX5_bestOf 1 = .ok (.getfield 9, 3) := by decide +kernel
theorem dX5_bestOf_4 : decode cX5_bestOf 4 = .ok (.aload_n 0, 1) := by decide +kernel
theorem dX5_bestOf_5 : decode cX5_bestOf 5 = .ok (.getfield 16, 3) := by decide +kernel
theorem dX5_bestOf_8 : decode cX5_bestOf 8 = .ok (.invokestatic 93, 3) := by decide +kernel
theorem dX5_bestOf_11 : decode cX5_bestOf 11 = .ok (.iconst (-1), 1) := by decide +kernel
theorem dX5_bestOf_12 : decode cX5_bestOf 12 = .ok (.istore 5, 2) := by decide +kernel
theorem dX5_bestOf_14 : decode cX5_bestOf 14 = .ok (.iconst (-1), 1) := by decide +kernel
theorem dX5_bestOf_15 : decode cX5_bestOf 15 = .ok (.istore 6, 2) := by decide +kernel
theorem dX5_bestOf_17 : decode cX5_bestOf 17 = .ok (.iconst 0, 1) := by decide +kernel
theorem dX5_bestOf_18 : decode cX5_bestOf 18 = .ok (.istore 7, 2) := by decide +kernel
theorem dX5_bestOf_20 : decode cX5_bestOf 20 = .ok (.iload 7, 2) := by decide +kernel
theorem dX5_bestOf_22 : decode cX5_bestOf 22 = .ok (.iload_n 3, 1) := by decide +kernel
theorem dX5_bestOf_23 : decode cX5_bestOf 23 = .ok (.if_icmp .ge 60, 3) := by decide +kernel
theorem dX5_bestOf_26 : decode cX5_bestOf 26 = .ok (.aload_n 0, 1) := by decide +kernel
theorem dX5_bestOf_27 : decode cX5_bestOf 27 = .ok (.getfield 9, 3) := by decide +kernel
theorem dX5_bestOf_30 : decode cX5_bestOf 30 = .ok (.iload_n 1, 1) := by decide +kernel
theorem dX5_bestOf_31 : decode cX5_bestOf 31 = .ok (.iload_n 2, 1) := by decide +kernel
theorem dX5_bestOf_32 : decode cX5_bestOf 32 = .ok (.invokestatic 101, 3) := by decide +kernel
theorem dX5_bestOf_35 : decode cX5_bestOf 35 = .ok (.iload 7, 2) := by decide +kernel
theorem dX5_bestOf_37 : decode cX5_bestOf 37 = .ok (.iastore, 1) := by decide +kernel
theorem dX5_bestOf_38 : decode cX5_bestOf 38 = .ok (.aload_n 0, 1) := by decide +kernel
theorem dX5_bestOf_39 : decode cX5_bestOf 39 = .ok (.iload 4, 2) := by decide +kernel
theorem dX5_bestOf_41 : decode cX5_bestOf 41 = .ok (.invokevirtual 194, 3) := by decide +kernel
theorem dX5_bestOf_44 : decode cX5_bestOf 44 = .ok (.aload_n 0, 1) := by decide +kernel
theorem dX5_bestOf_45 : decode cX5_bestOf 45 = .ok (.getfield 34, 3) := by decide +kernel
theorem dX5_bestOf_48 : decode cX5_bestOf 48 = .ok (.iload_n 1, 1) := by decide +kernel
theorem dX5_bestOf_49 : decode cX5_bestOf 49 = .ok (.iaload, 1) := by decide +kernel
theorem dX5_bestOf_50 : decode cX5_bestOf 50 = .ok (.iload 6, 2) := by decide +kernel
theorem dX5_bestOf_52 : decode cX5_bestOf 52 = .ok (.if_icmp .le 8, 3) := by decide +kernel
theorem dX5_bestOf_55 : decode cX5_bestOf 55 = .ok (.iload 7, 2) := by decide +kernel
theorem dX5_bestOf_57 : decode cX5_bestOf 57 = .ok (.goto 5, 3) := by decide +kernel
theorem dX5_bestOf_60 : decode cX5_bestOf 60 = .ok (.iload 5, 2) := by decide +kernel
theorem dX5_bestOf_62 : decode cX5_bestOf 62 = .ok (.istore 5, 2) := by decide +kernel
theorem dX5_bestOf_64 : decode cX5_bestOf 64 = .ok (.iload 6, 2) := by decide +kernel
theorem dX5_bestOf_66 : decode cX5_bestOf 66 = .ok (.aload_n 0, 1) := by decide +kernel
theorem dX5_bestOf_67 : decode cX5_bestOf 67 = .ok (.getfield 34, 3) := by decide +kernel
theorem dX5_bestOf_70 : decode cX5_bestOf 70 = .ok (.iload_n 1, 1) := by decide +kernel
theorem dX5_bestOf_71 : decode cX5_bestOf 71 = .ok (.iaload, 1) := by decide +kernel
theorem dX5_bestOf_72 : decode cX5_bestOf 72 = .ok (.invokestatic 153, 3) := by decide +kernel
theorem dX5_bestOf_75 : decode cX5_bestOf 75 = .ok (.istore 6, 2) := by decide +kernel
theorem dX5_bestOf_77 : decode cX5_bestOf 77 = .ok (.iinc 7 1, 3) := by decide +kernel
theorem dX5_bestOf_80 : decode cX5_bestOf 80 = .ok (.goto (-60), 3) := by decide +kernel
theorem dX5_bestOf_83 : decode cX5_bestOf 83 = .ok (.iload 5, 2) := by decide +kernel
theorem dX5_bestOf_85 : decode cX5_bestOf 85 = .ok (.ireturn, 1) := by decide +kernel
theorem dX5_kindFor_0 : decode cX5_kindFor 0 = .ok (.aload_n 0, 1) := by decide +kernel
theorem dX5_kindFor_1 : decode cX5_kindFor 1 = .ok (.iload_n 1, 1) := by decide +kernel
theorem dX5_kindFor_2 : decode cX5_kindFor 2 = .ok (.iload_n 2, 1) := by decide +kernel
theorem dX5_kindFor_3 : decode cX5_kindFor 3 = .ok (.invokevirtual 198, 3) := by decide +kernel
theorem dX5_kindFor_6 : decode cX5_kindFor 6 = .ok (.istore_n 3, 1) := by decide +kernel
theorem dX5_kindFor_7 : decode cX5_kindFor 7 = .ok (.iload_n 3, 1) := by decide +kernel
theorem dX5_kindFor_8 : decode cX5_kindFor 8 = .ok (.ifCond .eq 11, 3) := by decide +kernel
theorem dX5_kindFor_11 : decode cX5_kindFor 11 = .ok (.aload_n 0, 1) := by decide +kernel
theorem dX5_kindFor_12 : decode cX5_kindFor 12 = .ok (.iload_n 3, 1) := by decide +kernel
theorem dX5_kindFor_13 : decode cX5_kindFor 13 = .ok (.invokevirtual 109, 3) := by decide +kernel
theorem dX5_kindFor_16 : decode cX5_kindFor 16 = .ok (.goto 12, 3) := by decide +kernel
theorem dX5_kindFor_19 : decode cX5_kindFor 19 = .ok (.aload_n 0, 1) := by decide +kernel
theorem dX5_kindFor_20 : decode cX5_kindFor 20 = .ok (.iload_n 1, 1) := by decide +kernel
theorem dX5_kindFor_21 : decode cX5_kindFor 21 = .ok (.iconst 0, 1) := by decide +kernel
theorem dX5_kindFor_22 : decode cX5_kindFor 22 = .ok (.bipush 7, 2) := by decide +kernel
theorem dX5_kindFor_24 : decode cX5_kindFor 24 = .ok (.iload_n 2, 1) := by decide +kernel
theorem dX5_kindFor_25 : decode cX5_kindFor 25 = .ok (.invokevirtual 204, 3) := by decide +kernel
theorem dX5_kindFor_28 : decode cX5_kindFor 28 = .ok (.ireturn, 1) := by decide +kernel
theorem dX5_tempted_0 : decode cX5_tempted 0 = .ok (.aload_n 0, 1) := by decide +kernel
theorem dX5_tempted_1 : decode cX5_tempted 1 = .ok (.iload_n 1, 1) := by decide +kernel
theorem dX5_tempted_2 : decode cX5_tempted 2 = .ok (.bipush 60, 2) := by decide +kernel
theorem dX5_tempted_4 : decode cX5_tempted 4 = .ok (.invokevirtual 208, 3) := by decide +kernel
theorem dX5_tempted_7 : decode cX5_tempted 7 = .ok (.istore_n 2, 1) := by decide +kernel
theorem dX5_tempted_8 : decode cX5_tempted 8 = .ok (.iload_n 2, 1) := by decide +kernel
theorem dX5_tempted_9 : decode cX5_tempted 9 = .ok (.ifCond .eq 9, 3) := by decide +kernel
theorem dX5_tempted_12 : decode cX5_tempted 12 = .ok (.aload_n 0, 1) := by decide +kernel
theorem dX5_tempted_13 : decode cX5_tempted 13 = .ok (.iload_n 2, 1) := by decide +kernel
theorem dX5_tempted_14 : decode cX5_tempted 14 = .ok (.invokevirtual 109, 3) := by decide +kernel
theorem dX5_tempted_17 : decode cX5_tempted 17 = .ok (.ireturn, 1) := by decide +kernel
theorem dX5_tempted_18 : decode cX5_tempted 18 = .ok (.aload_n 0, 1) := by decide +kernel
theorem dX5_tempted_19 : decode cX5_tempted 19 = .ok (.iload_n 1, 1) := by decide +kernel
theorem dX5_tempted_20 : decode cX5_tempted 20 = .ok (.invokevirtual 201, 3) := by decide +kernel
theorem dX5_tempted_23 : decode cX5_tempted 23 = .ok (.iconst 0, 1) := by decide +kernel
theorem dX5_tempted_24 : decode cX5_tempted 24 = .ok (.istore_n 3, 1) := by decide +kernel
theorem dX5_tempted_25 : decode cX5_tempted 25 = .ok (.iconst 0, 1) := by decide +kernel
theorem dX5_tempted_26 : decode cX5_tempted 26 = .ok (.istore 4, 2) := by decide +kernel
theorem dX5_tempted_28 : decode cX5_tempted 28 = .ok (.iload 4, 2) := by decide +kernel
theorem dX5_tempted_30 : decode cX5_tempted 30 = .ok (.aload_n 0, 1) := by decide +kernel
theorem dX5_tempted_31 : decode cX5_tempted 31 = .ok (.getfield 9, 3) := by decide +kernel
theorem dX5_tempted_34 : decode cX5_tempted 34 = .ok (.iconst 2, 1) := by decide +kernel
theorem dX5_tempted_35 : decode cX5_tempted 35 = .ok (.iaload, 1) := by decide +kernel
theorem dX5_tempted_36 : decode cX5_tempted 36 = .ok (.if_icmp .ge 54, 3) := by decide +kernel
theorem dX5_tempted_39 : decode cX5_tempted 39 = .ok (.aload_n 0, 1) := by decide +kernel
theorem dX5_tempted_40 : decode cX5_tempted 40 = .ok (.getfield 9, 3) := by decide +kernel
theorem dX5_tempted_43 : decode cX5_tempted 43 = .ok (.iload 4, 2) := by decide +kernel
theorem dX5_tempted_45 : decode cX5_tempted 45 = .ok (.iconst 0, 1) := by decide +kernel
theorem dX5_tempted_46 : decode cX5_tempted 46 = .ok (.invokestatic 101, 3) := by decide +kernel
theorem dX5_tempted_49 : decode cX5_tempted 49 = .ok (.iconst 0, 1) := by decide +kernel
theorem dX5_tempted_50 : decode cX5_tempted 50 = .ok (.iastore, 1) := by decide +kernel
theorem dX5_tempted_51 : decode cX5_tempted 51 = .ok (.aload_n 0, 1) := by decide +kernel
theorem dX5_tempted_52 : decode cX5_tempted 52 = .ok (.iload_n 1, 1) := by decide +kernel
theorem dX5_tempted_53 : decode cX5_tempted 53 = .ok (.invokevirtual 194, 3) := by decide +kernel
theorem dX5_tempted_56 : decode cX5_tempted 56 = .ok (.iload_n 3, 1) := by decide +kernel
theorem dX5_tempted_57 : decode cX5_tempted 57 = .ok (.aload_n 0, 1) := by decide +kernel
theorem dX5_tempted_58 : decode cX5_tempted 58 = .ok (.getfield 34, 3) := by decide +kernel
theorem dX5_tempted_61 : decode cX5_tempted 61 = .ok (.iload 4, 2) := by decide +kernel
theorem dX5_tempted_63 : decode cX5_tempted 63 = .ok (.iaload, 1) := by decide +kernel
theorem dX5_tempted_64 : decode cX5_tempted 64 = .ok (.aload_n 0, 1) := by decide +kernel
theorem dX5_tempted_65 : decode cX5_tempted 65 = .ok (.getfield 37, 3) := by decide +kernel
theorem dX5_tempted_68 : decode cX5_tempted 68 = .ok (.iload 4, 2) := by decide +kernel
theorem dX5_tempted_70 : decode cX5_tempted 70 = .ok (.iaload, 1) := by decide +kernel
theorem dX5_tempted_71 : decode cX5_tempted 71 = .ok (.if_icmp .le 10, 3) := by decide +kernel
theorem dX5_tempted_74 : decode cX5_tempted 74 = .ok (.iconst 1, 1) := by decide +kernel
theorem dX5_tempted_75 : decode cX5_tempted 75 = .ok (.iload 4, 2) := by decide +kernel
theorem dX5_tempted_77 : decode cX5_tempted 77 = .ok (.ishl, 1) := by decide +kernel
theorem dX5_tempted_78 : decode cX5_tempted 78 = .ok (.goto 4, 3) := by decide +kernel
theorem dX5_tempted_81 : decode cX5_tempted 81 = .ok (.iconst 0, 1) := by decide +kernel
theorem dX5_tempted_82 : decode cX5_tempted 82 = .ok (.ior, 1) := by decide +kernel
theorem dX5_tempted_83 : decode cX5_tempted 83 = .ok (.istore_n 3, 1) := by decide +kernel
theorem dX5_tempted_84 : decode cX5_tempted 84 = .ok (.iinc 4 1, 3) := by decide +kernel
theorem dX5_tempted_87 : decode cX5_tempted 87 = .ok (.goto (-59), 3) := by decide +kernel
theorem dX5_tempted_90 : decode cX5_tempted 90 = .ok (.iload_n 3, 1) := by decide +kernel
theorem dX5_tempted_91 : decode cX5_tempted 91 = .ok (.ireturn, 1) := by decide +kernel
theorem dX5_missed_0 : decode cX5_missed 0 = .ok (.aload_n 0, 1) := by decide +kernel
theorem dX5_missed_1 : decode cX5_missed 1 = .ok (.iload_n 1, 1) := by decide +kernel
theorem dX5_missed_2 : decode cX5_missed 2 = .ok (.bipush 60, 2) := by decide +kernel
theorem dX5_missed_4 : decode cX5_missed 4 = .ok (.invokevirtual 208, 3) := by decide +kernel
theorem dX5_missed_7 : decode cX5_missed 7 = .ok (.istore_n 2, 1) := by decide +kernel
theorem dX5_missed_8 : decode cX5_missed 8 = .ok (.iload_n 2, 1) := by decide +kernel
theorem dX5_missed_9 : decode cX5_missed 9 = .ok (.ifCond .eq 9, 3) := by decide +kernel
theorem dX5_missed_12 : decode cX5_missed 12 = .ok (.aload_n 0, 1) := by decide +kernel
theorem dX5_missed_13 : decode cX5_missed 13 = .ok (.iload_n 2, 1) := by decide +kernel
theorem dX5_missed_14 : decode cX5_missed 14 = .ok (.invokevirtual 109, 3) := by decide +kernel
theorem dX5_missed_17 : decode cX5_missed 17 = .ok (.ireturn, 1) := by decide +kernel
theorem dX5_missed_18 : decode cX5_missed 18 = .ok (.aload_n 0, 1) := by decide +kernel
theorem dX5_missed_19 : decode cX5_missed 19 = .ok (.iload_n 1, 1) := by decide +kernel
theorem dX5_missed_20 : decode cX5_missed 20 = .ok (.invokevirtual 201, 3) := by decide +kernel
theorem dX5_missed_23 : decode cX5_missed 23 = .ok (.iconst (-1), 1) := by decide +kernel
theorem dX5_missed_24 : decode cX5_missed 24 = .ok (.istore_n 3, 1) := by decide +kernel
theorem dX5_missed_25 : decode cX5_missed 25 = .ok (.iconst 0, 1) := by decide +kernel
theorem dX5_missed_26 : decode cX5_missed 26 = .ok (.istore 4, 2) := by decide +kernel
theorem dX5_missed_28 : decode cX5_missed 28 = .ok (.iconst 0, 1) := by decide +kernel
theorem dX5_missed_29 : decode cX5_missed 29 = .ok (.istore 5, 2) := by decide +kernel
theorem dX5_missed_31 : decode cX5_missed 31 = .ok (.iload 5, 2) := by decide +kernel
theorem dX5_missed_33 : decode cX5_missed 33 = .ok (.aload_n 0, 1) := by decide +kernel
theorem dX5_missed_34 : decode cX5_missed 34 = .ok (.getfield 9, 3) := by decide +kernel
theorem dX5_missed_37 : decode cX5_missed 37 = .ok (.iconst 2, 1) := by decide +kernel
theorem dX5_missed_38 : decode cX5_missed 38 = .ok (.iaload, 1) := by decide +kernel
theorem dX5_missed_39 : decode cX5_missed 39 = .ok (.if_icmp .ge 98, 3) := by decide +kernel
theorem dX5_missed_42 : decode cX5_missed 42 = .ok (.aload_n 0, 1) := by decide +kernel
theorem dX5_missed_43 : decode cX5_missed 43 = .ok (.getfield 9, 3) := by decide +kernel
theorem dX5_missed_46 : decode cX5_missed 46 = .ok (.iload 5, 2) := by decide +kernel
theorem dX5_missed_48 : decode cX5_missed 48 = .ok (.iconst 5, 1) := by decide +kernel
theorem dX5_missed_49 : decode cX5_missed 49 = .ok (.invokestatic 101, 3) := by decide +kernel
theorem dX5_missed_52 : decode cX5_missed 52 = .ok (.iconst 1, 1) := by decide +kernel
theorem dX5_missed_53 : decode cX5_missed 53 = .ok (.iastore, 1) := by decide +kernel
theorem dX5_missed_54 : decode cX5_missed 54 = .ok (.aload_n 0, 1) := by decide +kernel
theorem dX5_missed_55 : decode cX5_missed 55 = .ok (.iload_n 1, 1) := by decide +kernel
theorem dX5_missed_56 : decode cX5_missed 56 = .ok (.invokevirtual 194, 3) := by decide +kernel
theorem dX5_missed_59 : decode cX5_missed 59 = .ok (.iconst 0, 1) := by decide +kernel
theorem dX5_missed_60 : decode cX5_missed 60 = .ok (.istore 6, 2) := by decide +kernel
theorem dX5_missed_62 : decode cX5_missed 62 = .ok (.iconst 0, 1) := by decide +kernel
theorem dX5_missed_63 : decode cX5_missed 63 = .ok (.istore 7, 2) := by decide +kernel
theorem dX5_missed_65 : decode cX5_missed 65 = .ok (.iload 7, 2) := by decide +kernel
theorem dX5_missed_67 : decode cX5_missed 67 = .ok (.aload_n 0, 1) := by decide +kernel
theorem dX5_missed_68 : decode cX5_missed 68 = .ok (.getfield 9, 3) := by decide +kernel
theorem dX5_missed_71 : decode cX5_missed 71 = .ok (.iconst 2, 1) := by decide +kernel
theorem dX5_missed_72 : decode cX5_missed 72 = .ok (.iaload, 1) := by decide +kernel
theorem dX5_missed_73 : decode cX5_missed 73 = .ok (.if_icmp .ge 40, 3) := by decide +kernel
theorem dX5_missed_76 : decode cX5_missed 76 = .ok (.iload 6, 2) := by decide +kernel
theorem dX5_missed_78 : decode cX5_missed 78 = .ok (.iload 7, 2) := by decide +kernel
theorem dX5_missed_80 : decode cX5_missed 80 = .ok (.iload 5, 2) := by decide +kernel
theorem dX5_missed_82 : decode cX5_missed 82 = .ok (.if_icmp .ne 7, 3) := by decide +kernel
theorem dX5_missed_85 : decode cX5_missed 85 = .ok (.iconst 0, 1) := by decide +kernel
theorem dX5_missed_86 : decode cX5_missed 86 = .ok (.goto 18, 3) := by decide +kernel
theorem dX5_missed_89 : decode cX5_missed 89 = .ok (.aload_n 0, 1) := by decide +kernel
theorem dX5_missed_90 : decode cX5_missed 90 = .ok (.getfield 37, 3) := by decide +kernel
theorem dX5_missed_93 : decode cX5_missed 93 = .ok (.iload 7, 2) := by decide +kernel
theorem dX5_missed_95 : decode cX5_missed 95 = .ok (.iaload, 1) := by decide +kernel
theorem dX5_missed_96 : decode cX5_missed 96 = .ok (.aload_n 0, 1) := by decide +kernel
theorem dX5_missed_97 : decode cX5_missed 97 = .ok (.getfield 34, 3) := by decide +kernel
theorem dX5_missed_100 : decode cX5_missed 100 = .ok (.iload 7, 2) := by decide +kernel
theorem dX5_missed_102 : decode cX5_missed 102 = .ok (.iaload, 1) := by decide +kernel
theorem dX5_missed_103 : decode cX5_missed 103 = .ok (.isub, 1) := by decide +kernel
theorem dX5_missed_104 : decode cX5_missed 104 = .ok (.iadd, 1) := by decide +kernel
theorem dX5_missed_105 : decode cX5_missed 105 = .ok (.istore 6, 2) := by decide +kernel
theorem dX5_missed_107 : decode cX5_missed 107 = .ok (.iinc 7 1, 3) := by decide +kernel
theorem dX5_missed_110 : decode cX5_missed 110 = .ok (.goto (-45), 3) := by decide +kernel
theorem dX5_missed_113 : decode cX5_missed 113 = .ok (.iload_n 3, 1) := by decide +kernel
theorem dX5_missed_114 : decode cX5_missed 114 = .ok (.ifCond .lt 10, 3) := by decide +kernel
theorem dX5_missed_117 : decode cX5_missed 117 = .ok (.iload 6, 2) := by decide +kernel
theorem dX5_missed_119 : decode cX5_missed 119 = .ok (.iload 4, 2) := by decide +kernel
theorem dX5_missed_121 : decode cX5_missed 121 = .ok (.if_icmp .le 10, 3) := by decide +kernel
theorem dX5_missed_124 : decode cX5_missed 124 = .ok (.iload 5, 2) := by decide +kernel
theorem dX5_missed_126 : decode cX5_missed 126 = .ok (.istore_n 3, 1) := by decide +kernel
theorem dX5_missed_127 : decode cX5_missed 127 = .ok (.iload 6, 2) := by decide +kernel
theorem dX5_missed_129 : decode cX5_missed 129 = .ok (.istore 4, 2) := by decide +kernel
theorem dX5_missed_131 : decode cX5_missed 131 = .ok (.iinc 5 1, 3) := by decide +kernel
theorem dX5_missed_134 : decode cX5_missed 134 = .ok (.goto (-103), 3) := by decide +kernel
theorem dX5_missed_137 : decode cX5_missed 137 = .ok (.iload_n 3, 1) := by decide +kernel
theorem dX5_missed_138 : decode cX5_missed 138 = .ok (.ifCond .ge 12, 3) := by decide +kernel
theorem dX5_missed_141 : decode cX5_missed 141 = .ok (.aload_n 0, 1) := by decide +kernel
theorem dX5_missed_142 : decode cX5_missed 142 = .ok (.ldc 186, 2) := by decide +kernel
theorem dX5_missed_144 : decode cX5_missed 144 = .ok (.invokevirtual 109, 3) := by decide +kernel
theorem dX5_missed_147 : decode cX5_missed 147 = .ok (.goto 4, 3) := by decide +kernel
theorem dX5_missed_150 : decode cX5_missed 150 = .ok (.iload_n 3, 1) := by decide +kernel
theorem dX5_missed_151 : decode cX5_missed 151 = .ok (.ireturn, 1) := by decide +kernel
theorem dX5_leastThen_0 : decode cX5_leastThen 0 = .ok (.sipush 300, 3) := by decide +kernel
theorem dX5_leastThen_3 : decode cX5_leastThen 3 = .ok (.istore_n 1, 1) := by decide +kernel
theorem dX5_leastThen_4 : decode cX5_leastThen 4 = .ok (.iconst 0, 1) := by decide +kernel
theorem dX5_leastThen_5 : decode cX5_leastThen 5 = .ok (.istore_n 2, 1) := by decide +kernel
theorem dX5_leastThen_6 : decode cX5_leastThen 6 = .ok (.iload_n 2, 1) := by decide +kernel
theorem dX5_leastThen_7 : decode cX5_leastThen 7 = .ok (.aload_n 0, 1) := by decide +kernel
theorem dX5_leastThen_8 : decode cX5_leastThen 8 = .ok (.getfield 9, 3) := by decide +kernel
theorem dX5_leastThen_11 : decode cX5_leastThen 11 = .ok (.iconst 2, 1) := by decide +kernel
theorem dX5_leastThen_12 : decode cX5_leastThen 12 = .ok (.iaload, 1) := by decide +kernel
theorem dX5_leastThen_13 : decode cX5_leastThen 13 = .ok (.if_icmp .ge 20, 3) := by decide +kernel
theorem dX5_leastThen_16 : decode cX5_leastThen 16 = .ok (.iload_n 1, 1) := by decide +kernel
theorem dX5_leastThen_17 : decode cX5_leastThen 17 = .ok (.aload_n 0, 1) := by decide +kernel
theorem dX5_leastThen_18 : decode cX5_leastThen 18 = .ok (.getfield 34, 3) := by decide +kernel
theorem dX5_leastThen_21 : decode cX5_leastThen 21 = .ok (.iload_n 2, 1) := by decide +kernel
theorem dX5_leastThen_22 : decode cX5_leastThen 22 = .ok (.iaload, 1) := by decide +kernel
theorem dX5_leastThen_23 : decode cX5_leastThen 23 = .ok (.invokestatic 123, 3) := by decide +kernel
theorem dX5_leastThen_26 : decode cX5_leastThen 26 = .ok (.istore_n 1, 1) := by decide +kernel
theorem dX5_leastThen_27 : decode cX5_leastThen 27 = .ok (.iinc 2 1, 3) := by decide +kernel
theorem dX5_leastThen_30 : decode cX5_leastThen 30 = .ok (.goto (-24), 3) := by decide +kernel
theorem dX5_leastThen_33 : decode cX5_leastThen 33 = .ok (.iload_n 1, 1) := by decide +kernel
theorem dX5_leastThen_34 : decode cX5_leastThen 34 = .ok (.ireturn, 1) := by decide +kernel
theorem dX5_refusesPairs_0 : decode cX5_refusesPairs 0 = .ok (.aload_n 0, 1) := by decide +kernel
theorem dX5_refusesPairs_1 : decode cX5_refusesPairs 1 = .ok (.iload_n 1, 1) := by decide +kernel
theorem dX5_refusesPairs_2 : decode cX5_refusesPairs 2 = .ok (.bipush 24, 2) := by decide +kernel
theorem dX5_refusesPairs_4 : decode cX5_refusesPairs 4 = .ok (.invokevirtual 208, 3) := by decide +kernel
theorem dX5_refusesPairs_7 : decode cX5_refusesPairs 7 = .ok (.istore_n 2, 1) := by decide +kernel
theorem dX5_refusesPairs_8 : decode cX5_refusesPairs 8 = .ok (.iload_n 2, 1) := by decide +kernel
theorem dX5_refusesPairs_9 : decode cX5_refusesPairs 9 = .ok (.ifCond .eq 7, 3) := by decide +kernel
theorem dX5_refusesPairs_12 : decode cX5_refusesPairs 12 = .ok (.iload_n 2, 1) := by decide +kernel
theorem dX5_refusesPairs_13 : decode cX5_refusesPairs 13 = .ok (.goto 18, 3) := by decide +kernel
theorem dX5_refusesPairs_16 : decode cX5_refusesPairs 16 = .ok (.aload_n 0, 1) := by decide +kernel
theorem dX5_refusesPairs_17 : decode cX5_refusesPairs 17 = .ok (.getfield 9, 3) := by decide +kernel
theorem dX5_refusesPairs_20 : decode cX5_refusesPairs 20 = .ok (.iconst 2, 1) := by decide +kernel
theorem dX5_refusesPairs_21 : decode cX5_refusesPairs 21 = .ok (.iaload, 1) := by decide +kernel
theorem dX5_refusesPairs_22 : decode cX5_refusesPairs 22 = .ok (.ifCond .ne 8, 3) := by decide +kernel
theorem dX5_refusesPairs_25 : decode cX5_refusesPairs 25 = .ok (.ldc 163, 2) := by decide +kernel
theorem dX5_refusesPairs_27 : decode cX5_refusesPairs 27 = .ok (.goto 4, 3) := by decide +kernel
theorem dX5_refusesPairs_30 : decode cX5_refusesPairs 30 = .ok (.iconst 0, 1) := by decide +kernel
theorem dX5_refusesPairs_31 : decode cX5_refusesPairs 31 = .ok (.ireturn, 1) := by decide +kernel
theorem dX5_findPair_0 : decode cX5_findPair 0 = .ok (.aload_n 0, 1) := by decide +kernel
theorem dX5_findPair_1 : decode cX5_findPair 1 = .ok (.getfield 9, 3) := by decide +kernel
theorem dX5_findPair_4 : decode cX5_findPair 4 = .ok (.aload_n 0, 1) := by decide +kernel
theorem dX5_findPair_5 : decode cX5_findPair 5 = .ok (.getfield 16, 3) := by decide +kernel
theorem dX5_findPair_8 : decode cX5_findPair 8 = .ok (.invokestatic 93, 3) := by decide +kernel
theorem dX5_findPair_11 : decode cX5_findPair 11 = .ok (.aload_n 0, 1) := by decide +kernel
theorem dX5_findPair_12 : decode cX5_findPair 12 = .ok (.iload_n 1, 1) := by decide +kernel
theorem dX5_findPair_13 : decode cX5_findPair 13 = .ok (.invokevirtual 194, 3) := by decide +kernel
theorem dX5_findPair_16 : decode cX5_findPair 16 = .ok (.aload_n 0, 1) := by decide +kernel
theorem dX5_findPair_17 : decode cX5_findPair 17 = .ok (.iconst (-1), 1) := by decide +kernel
theorem dX5_findPair_18 : decode cX5_findPair 18 = .ok (.putfield 211, 3) := by decide +kernel
theorem dX5_findPair_21 : decode cX5_findPair 21 = .ok (.aload_n 0, 1) := by decide +kernel
theorem dX5_findPair_22 : decode cX5_findPair 22 = .ok (.aload_n 0, 1) := by decide +kernel
theorem dX5_findPair_23 : decode cX5_findPair 23 = .ok (.invokevirtual 215, 3) := by decide +kernel
theorem dX5_findPair_26 : decode cX5_findPair 26 = .ok (.putfield 218, 3) := by decide +kernel
theorem dX5_findPair_29 : decode cX5_findPair 29 = .ok (.iconst 0, 1) := by decide +kernel
theorem dX5_findPair_30 : decode cX5_findPair 30 = .ok (.istore_n 2, 1) := by decide +kernel
theorem dX5_findPair_31 : decode cX5_findPair 31 = .ok (.iload_n 2, 1) := by decide +kernel
theorem dX5_findPair_32 : decode cX5_findPair 32 = .ok (.aload_n 0, 1) := by decide +kernel
theorem dX5_findPair_33 : decode cX5_findPair 33 = .ok (.getfield 9, 3) := by decide +kernel
theorem dX5_findPair_36 : decode cX5_findPair 36 = .ok (.iconst 2, 1) := by decide +kernel
theorem dX5_findPair_37 : decode cX5_findPair 37 = .ok (.iaload, 1) := by decide +kernel
theorem dX5_findPair_38 : decode cX5_findPair 38 = .ok (.if_icmp .ge 77, 3) := by decide +kernel
theorem dX5_findPair_41 : decode cX5_findPair 41 = .ok (.iload_n 2, 1) := by decide +kernel
theorem dX5_findPair_42 : decode cX5_findPair 42 = .ok (.iconst 1, 1) := by decide +kernel
theorem dX5_findPair_43 : decode cX5_findPair 43 = .ok (.iadd, 1) := by decide +kernel
theorem dX5_findPair_44 : decode cX5_findPair 44 = .ok (.istore_n 3, 1) := by decide +kernel
theorem dX5_findPair_45 : decode cX5_findPair 45 = .ok (.iload_n 3, 1) := by decide +kernel
theorem dX5_findPair_46 : decode cX5_findPair 46 = .ok (.aload_n 0, 1) := by decide +kernel
theorem dX5_findPair_47 : decode cX5_findPair 47 = .ok (.getfield 9, 3) := by decide +kernel
theorem dX5_findPair_50 : decode cX5_findPair 50 = .ok (.iconst 2, 1) := by decide +kernel
theorem dX5_findPair_51 : decode cX5_findPair 51 = .ok (.iaload, 1) := by decide +kernel
theorem dX5_findPair_52 : decode cX5_findPair 52 = .ok (.if_icmp .ge 57, 3) := by decide +kernel
theorem dX5_findPair_55 : decode cX5_findPair 55 = .ok (.aload_n 0, 1) := by decide +kernel
theorem dX5_findPair_56 : decode cX5_findPair 56 = .ok (.iload_n 2, 1) := by decide +kernel
theorem dX5_findPair_57 : decode cX5_findPair 57 = .ok (.iload_n 3, 1) := by decide +kernel
theorem dX5_findPair_58 : decode cX5_findPair 58 = .ok (.invokevirtual 148, 3) := by decide +kernel
theorem dX5_findPair_61 : decode cX5_findPair 61 = .ok (.istore 4, 2) := by decide +kernel
theorem dX5_findPair_63 : decode cX5_findPair 63 = .ok (.aload_n 0, 1) := by decide +kernel
theorem dX5_findPair_64 : decode cX5_findPair 64 = .ok (.iload_n 1, 1) := by decide +kernel
theorem dX5_findPair_65 : decode cX5_findPair 65 = .ok (.invokevirtual 194, 3) := by decide +kernel
theorem dX5_findPair_68 : decode cX5_findPair 68 = .ok (.iload 4, 2) := by decide +kernel
theorem dX5_findPair_70 : decode cX5_findPair 70 = .ok (.iconst 1, 1) := by decide +kernel
theorem dX5_findPair_71 : decode cX5_findPair 71 = .ok (.if_icmp .ne 32, 3) := by decide +kernel
theorem dX5_findPair_74 : decode cX5_findPair 74 = .ok (.aload_n 0, 1) := by decide +kernel
theorem dX5_findPair_75 : decode cX5_findPair 75 = .ok (.invokevirtual 215, 3) := by decide +kernel
theorem dX5_findPair_78 : decode cX5_findPair 78 = .ok (.aload_n 0, 1) := by decide +kernel
theorem dX5_findPair_79 : decode cX5_findPair 79 = .ok (.getfield 218, 3) := by decide +kernel
theorem dX5_findPair_82 : decode cX5_findPair 82 = .ok (.if_icmp .le 21, 3) := by decide +kernel
theorem dX5_findPair_85 : decode cX5_findPair 85 = .ok (.aload_n 0, 1) := by decide +kernel
theorem dX5_findPair_86 : decode cX5_findPair 86 = .ok (.bipush 10, 2) := by decide +kernel
theorem dX5_findPair_88 : decode cX5_findPair 88 = .ok (.iload_n 2, 1) := by decide +kernel
theorem dX5_findPair_89 : decode cX5_findPair 89 = .ok (.imul, 1) := by decide +kernel
theorem dX5_findPair_90 : decode cX5_findPair 90 = .ok (.iload_n 3, 1) := by decide +kernel
theorem dX5_findPair_91 : decode cX5_findPair 91 = .ok (.iadd, 1) := by decide +kernel
theorem dX5_findPair_92 : decode cX5_findPair 92 = .ok (.putfield 211, 3) := by decide +kernel
theorem dX5_findPair_95 : decode cX5_findPair 95 = .ok (.aload_n 0, 1) := by decide +kernel
theorem dX5_findPair_96 : decode cX5_findPair 96 = .ok (.aload_n 0, 1) := by decide +kernel
theorem dX5_findPair_97 : decode cX5_findPair 97 = .ok (.invokevirtual 215, 3) := by decide +kernel
theorem dX5_findPair_100 : decode cX5_findPair 100 = .ok (.putfield 218, 3) := by decide +kernel
theorem dX5_findPair_103 : decode cX5_findPair 103 = .ok (.iinc 3 1, 3) := by decide +kernel
theorem dX5_findPair_106 : decode cX5_findPair 106 = .ok (.goto (-61), 3) := by decide +kernel
theorem dX5_findPair_109 : decode cX5_findPair 109 = .ok (.iinc 2 1, 3) := by decide +kernel
theorem dX5_findPair_112 : decode cX5_findPair 112 = .ok (.goto (-81), 3) := by decide +kernel
theorem dX5_findPair_115 : decode cX5_findPair 115 = .ok (.return_, 1) := by decide +kernel
theorem dX5_warmest_0 : decode cX5_warmest 0 = .ok (.aload_n 0, 1) := by decide +kernel
theorem dX5_warmest_1 : decode cX5_warmest 1 = .ok (.iload_n 1, 1) := by decide +kernel
theorem dX5_warmest_2 : decode cX5_warmest 2 = .ok (.invokevirtual 221, 3) := by decide +kernel
theorem dX5_warmest_5 : decode cX5_warmest 5 = .ok (.istore_n 2, 1) := by decide +kernel
theorem dX5_warmest_6 : decode cX5_warmest 6 = .ok (.iload_n 2, 1) := by decide +kernel
theorem dX5_warmest_7 : decode cX5_warmest 7 = .ok (.ifCond .eq 9, 3) := by decide +kernel
theorem dX5_warmest_10 : decode cX5_warmest 10 = .ok (.aload_n 0, 1) := by decide +kernel
theorem dX5_warmest_11 : decode cX5_warmest 11 = .ok (.iload_n 2, 1) := by decide +kernel
theorem dX5_warmest_12 : decode cX5_warmest 12 = .ok (.invokevirtual 109, 3) := by decide +kernel
theorem dX5_warmest_15 : decode cX5_warmest 15 = .ok (.ireturn, 1) := by decide +kernel
theorem dX5_warmest_16 : decode cX5_warmest 16 = .ok (.aload_n 0, 1) := by decide +kernel
theorem dX5_warmest_17 : decode cX5_warmest 17 = .ok (.iload_n 1, 1) := by decide +kernel
theorem dX5_warmest_18 : decode cX5_warmest 18 = .ok (.invokevirtual 224, 3) := by decide +kernel
theorem dX5_warmest_21 : decode cX5_warmest 21 = .ok (.aload_n 0, 1) := by decide +kernel
theorem dX5_warmest_22 : decode cX5_warmest 22 = .ok (.getfield 218, 3) := by decide +kernel
theorem dX5_warmest_25 : decode cX5_warmest 25 = .ok (.ireturn, 1) := by decide +kernel
theorem dX5_exchange_0 : decode cX5_exchange 0 = .ok (.aload_n 0, 1) := by decide +kernel
theorem dX5_exchange_1 : decode cX5_exchange 1 = .ok (.iload_n 1, 1) := by decide +kernel
theorem dX5_exchange_2 : decode cX5_exchange 2 = .ok (.invokevirtual 221, 3) := by decide +kernel
theorem dX5_exchange_5 : decode cX5_exchange 5 = .ok (.istore_n 2, 1) := by decide +kernel
theorem dX5_exchange_6 : decode cX5_exchange 6 = .ok (.iload_n 2, 1) := by decide +kernel
theorem dX5_exchange_7 : decode cX5_exchange 7 = .ok (.ifCond .eq 9, 3) := by decide +kernel
theorem dX5_exchange_10 : decode cX5_exchange 10 = .ok (.aload_n 0, 1) := by decide +kernel
theorem dX5_exchange_11 : decode cX5_exchange 11 = .ok (.iload_n 2, 1) := by decide +kernel
theorem dX5_exchange_12 : decode cX5_exchange 12 = .ok (.invokevirtual 109, 3) := by decide +kernel
theorem dX5_exchange_15 : decode cX5_exchange 15 = .ok (.ireturn, 1) := by decide +kernel
theorem dX5_exchange_16 : decode cX5_exchange 16 = .ok (.aload_n 0, 1) := by decide +kernel
theorem dX5_exchange_17 : decode cX5_exchange 17 = .ok (.iload_n 1, 1) := by decide +kernel
theorem dX5_exchange_18 : decode cX5_exchange 18 = .ok (.invokevirtual 224, 3) := by decide +kernel
theorem dX5_exchange_21 : decode cX5_exchange 21 = .ok (.aload_n 0, 1) := by decide +kernel
theorem dX5_exchange_22 : decode cX5_exchange 22 = .ok (.getfield 211, 3) := by decide +kernel
theorem dX5_exchange_25 : decode cX5_exchange 25 = .ok (.ifCond .ge 12, 3) := by decide +kernel
theorem dX5_exchange_28 : decode cX5_exchange 28 = .ok (.aload_n 0, 1) := by decide +kernel
theorem dX5_exchange_29 : decode cX5_exchange 29 = .ok (.ldc 186, 2) := by decide +kernel
theorem dX5_exchange_31 : decode cX5_exchange 31 = .ok (.invokevirtual 109, 3) := by decide +kernel
theorem dX5_exchange_34 : decode cX5_exchange 34 = .ok (.goto 7, 3) := by decide +kernel
theorem dX5_exchange_37 : decode cX5_exchange 37 = .ok (.aload_n 0, 1) := by decide +kernel
theorem dX5_exchange_38 : decode cX5_exchange 38 = .ok (.getfield 211, 3) := by decide +kernel
theorem dX5_exchange_41 : decode cX5_exchange 41 = .ok (.ireturn, 1) := by decide +kernel
theorem dX5_deal_0 : decode cX5_deal 0 = .ok (.aload_n 0, 1) := by decide +kernel
theorem dX5_deal_1 : decode cX5_deal 1 = .ok (.iload_n 1, 1) := by decide +kernel
theorem dX5_deal_2 : decode cX5_deal 2 = .ok (.invokevirtual 221, 3) := by decide +kernel
theorem dX5_deal_5 : decode cX5_deal 5 = .ok (.istore_n 2, 1) := by decide +kernel
theorem dX5_deal_6 : decode cX5_deal 6 = .ok (.iload_n 2, 1) := by decide +kernel
theorem dX5_deal_7 : decode cX5_deal 7 = .ok (.ifCond .eq 9, 3) := by decide +kernel
theorem dX5_deal_10 : decode cX5_deal 10 = .ok (.aload_n 0, 1) := by decide +kernel
theorem dX5_deal_11 : decode cX5_deal 11 = .ok (.iload_n 2, 1) := by decide +kernel
theorem dX5_deal_12 : decode cX5_deal 12 = .ok (.invokevirtual 109, 3) := by decide +kernel
theorem dX5_deal_15 : decode cX5_deal 15 = .ok (.ireturn, 1) := by decide +kernel
theorem dX5_deal_16 : decode cX5_deal 16 = .ok (.aload_n 0, 1) := by decide +kernel
theorem dX5_deal_17 : decode cX5_deal 17 = .ok (.iload_n 1, 1) := by decide +kernel
theorem dX5_deal_18 : decode cX5_deal 18 = .ok (.invokevirtual 201, 3) := by decide +kernel
theorem dX5_deal_21 : decode cX5_deal 21 = .ok (.iconst (-1), 1) := by decide +kernel
theorem dX5_deal_22 : decode cX5_deal 22 = .ok (.istore_n 3, 1) := by decide +kernel
theorem dX5_deal_23 : decode cX5_deal 23 = .ok (.iconst 0, 1) := by decide +kernel
theorem dX5_deal_24 : decode cX5_deal 24 = .ok (.istore 4, 2) := by decide +kernel
theorem dX5_deal_26 : decode cX5_deal 26 = .ok (.iload 4, 2) := by decide +kernel
theorem dX5_deal_28 : decode cX5_deal 28 = .ok (.aload_n 0, 1) := by decide +kernel
theorem dX5_deal_29 : decode cX5_deal 29 = .ok (.getfield 9, 3) := by decide +kernel
theorem dX5_deal_32 : decode cX5_deal 32 = .ok (.iconst 2, 1) := by decide +kernel
theorem dX5_deal_33 : decode cX5_deal 33 = .ok (.iaload, 1) := by decide +kernel
theorem dX5_deal_34 : decode cX5_deal 34 = .ok (.if_icmp .ge 116, 3) := by decide +kernel
theorem dX5_deal_37 : decode cX5_deal 37 = .ok (.iload 4, 2) := by decide +kernel
theorem dX5_deal_39 : decode cX5_deal 39 = .ok (.iconst 1, 1) := by decide +kernel
theorem dX5_deal_40 : decode cX5_deal 40 = .ok (.iadd, 1) := by decide +kernel
theorem dX5_deal_41 : decode cX5_deal 41 = .ok (.istore 5, 2) := by decide +kernel
theorem dX5_deal_43 : decode cX5_deal 43 = .ok (.iload 5, 2) := by decide +kernel
theorem dX5_deal_45 : decode cX5_deal 45 = .ok (.aload_n 0, 1) := by decide +kernel
theorem dX5_deal_46 : decode cX5_deal 46 = .ok (.getfield 9, 3) := by decide +kernel
theorem dX5_deal_49 : decode cX5_deal 49 = .ok (.iconst 2, 1) := by decide +kernel
theorem dX5_deal_50 : decode cX5_deal 50 = .ok (.iaload, 1) := by decide +kernel
theorem dX5_deal_51 : decode cX5_deal 51 = .ok (.if_icmp .ge 93, 3) := by decide +kernel
theorem dX5_deal_54 : decode cX5_deal 54 = .ok (.iload_n 3, 1) := by decide +kernel
theorem dX5_deal_55 : decode cX5_deal 55 = .ok (.ifCond .ge 89, 3) := by decide +kernel
theorem dX5_deal_58 : decode cX5_deal 58 = .ok (.aload_n 0, 1) := by decide +kernel
theorem dX5_deal_59 : decode cX5_deal 59 = .ok (.iload 4, 2) := by decide +kernel
theorem dX5_deal_61 : decode cX5_deal 61 = .ok (.iload 5, 2) := by decide +kernel
theorem dX5_deal_63 : decode cX5_deal 63 = .ok (.invokevirtual 148, 3) := by decide +kernel
theorem dX5_deal_66 : decode cX5_deal 66 = .ok (.istore 6, 2) := by decide +kernel
theorem dX5_deal_68 : decode cX5_deal 68 = .ok (.aload_n 0, 1) := by decide +kernel
theorem dX5_deal_69 : decode cX5_deal 69 = .ok (.iload_n 1, 1) := by decide +kernel
theorem dX5_deal_70 : decode cX5_deal 70 = .ok (.invokevirtual 194, 3) := by decide +kernel
theorem dX5_deal_73 : decode cX5_deal 73 = .ok (.iload 6, 2) := by decide +kernel
theorem dX5_deal_75 : decode cX5_deal 75 = .ok (.iconst 1, 1) := by decide +kernel
theorem dX5_deal_76 : decode cX5_deal 76 = .ok (.if_icmp .ne 41, 3) := by decide +kernel
theorem dX5_deal_79 : decode cX5_deal 79 = .ok (.aload_n 0, 1) := by decide +kernel
theorem dX5_deal_80 : decode cX5_deal 80 = .ok (.getfield 34, 3) := by decide +kernel
theorem dX5_deal_83 : decode cX5_deal 83 = .ok (.iload 5, 2) := by decide +kernel
theorem dX5_deal_85 : decode cX5_deal 85 = .ok (.iaload, 1) := by decide +kernel
theorem dX5_deal_86 : decode cX5_deal 86 = .ok (.aload_n 0, 1) := by decide +kernel
theorem dX5_deal_87 : decode cX5_deal 87 = .ok (.getfield 37, 3) := by decide +kernel
theorem dX5_deal_90 : decode cX5_deal 90 = .ok (.iload 4, 2) := by decide +kernel
theorem dX5_deal_92 : decode cX5_deal 92 = .ok (.iaload, 1) := by decide +kernel
theorem dX5_deal_93 : decode cX5_deal 93 = .ok (.if_icmp .le 24, 3) := by decide +kernel
theorem dX5_deal_96 : decode cX5_deal 96 = .ok (.aload_n 0, 1) := by decide +kernel
theorem dX5_deal_97 : decode cX5_deal 97 = .ok (.getfield 34, 3) := by decide +kernel
theorem dX5_deal_100 : decode cX5_deal 100 = .ok (.iload 4, 2) := by decide +kernel
theorem dX5_deal_102 : decode cX5_deal 102 = .ok (.iaload, 1) := by decide +kernel
theorem dX5_deal_103 : decode cX5_deal 103 = .ok (.aload_n 0, 1) := by decide +kernel
theorem dX5_deal_104 : decode cX5_deal 104 = .ok (.getfield 37, 3) := by decide +kernel
theorem dX5_deal_107 : decode cX5_deal 107 = .ok (.iload 5, 2) := by decide +kernel
theorem dX5_deal_109 : decode cX5_deal 109 = .ok (.iaload, 1) := by decide +kernel
theorem dX5_deal_110 : decode cX5_deal 110 = .ok (.if_icmp .le 7, 3) := by decide +kernel
theorem dX5_deal_113 : decode cX5_deal 113 = .ok (.iconst 1, 1) := by decide +kernel
theorem dX5_deal_114 : decode cX5_deal 114 = .ok (.goto 4, 3) := by decide +kernel
theorem dX5_deal_117 : decode cX5_deal 117 = .ok (.iconst 0, 1) := by decide +kernel
theorem dX5_deal_118 : decode cX5_deal 118 = .ok (.istore 7, 2) := by decide +kernel
theorem dX5_deal_120 : decode cX5_deal 120 = .ok (.iload 7, 2) := by decide +kernel
theorem dX5_deal_122 : decode cX5_deal 122 = .ok (.ifCond .eq 14, 3) := by decide +kernel
theorem dX5_deal_125 : decode cX5_deal 125 = .ok (.bipush 10, 2) := by decide +kernel
theorem dX5_deal_127 : decode cX5_deal 127 = .ok (.iload 4, 2) := by decide +kernel
theorem dX5_deal_129 : decode cX5_deal 129 = .ok (.imul, 1) := by decide +kernel
theorem dX5_deal_130 : decode cX5_deal 130 = .ok (.iload 5, 2) := by decide +kernel
theorem dX5_deal_132 : decode cX5_deal 132 = .ok (.iadd, 1) := by decide +kernel
theorem dX5_deal_133 : decode cX5_deal 133 = .ok (.goto 4, 3) := by decide +kernel
theorem dX5_deal_136 : decode cX5_deal 136 = .ok (.iload_n 3, 1) := by decide +kernel
theorem dX5_deal_137 : decode cX5_deal 137 = .ok (.istore_n 3, 1) := by decide +kernel
theorem dX5_deal_138 : decode cX5_deal 138 = .ok (.iinc 5 1, 3) := by decide +kernel
theorem dX5_deal_141 : decode cX5_deal 141 = .ok (.goto (-98), 3) := by decide +kernel
theorem dX5_deal_144 : decode cX5_deal 144 = .ok (.iinc 4 1, 3) := by decide +kernel
theorem dX5_deal_147 : decode cX5_deal 147 = .ok (.goto (-121), 3) := by decide +kernel
theorem dX5_deal_150 : decode cX5_deal 150 = .ok (.iload_n 3, 1) := by decide +kernel
theorem dX5_deal_151 : decode cX5_deal 151 = .ok (.ifCond .ge 12, 3) := by decide +kernel
theorem dX5_deal_154 : decode cX5_deal 154 = .ok (.aload_n 0, 1) := by decide +kernel
theorem dX5_deal_155 : decode cX5_deal 155 = .ok (.ldc 186, 2) := by decide +kernel
theorem dX5_deal_157 : decode cX5_deal 157 = .ok (.invokevirtual 109, 3) := by decide +kernel
theorem dX5_deal_160 : decode cX5_deal 160 = .ok (.goto 4, 3) := by decide +kernel
theorem dX5_deal_163 : decode cX5_deal 163 = .ok (.iload_n 3, 1) := by decide +kernel
theorem dX5_deal_164 : decode cX5_deal 164 = .ok (.ireturn, 1) := by decide +kernel
theorem dX5_dealOn_0 : decode cX5_dealOn 0 = .ok (.iload_n 3, 1) := by decide +kernel
theorem dX5_dealOn_1 : decode cX5_dealOn 1 = .ok (.iload_n 1, 1) := by decide +kernel
theorem dX5_dealOn_2 : decode cX5_dealOn 2 = .ok (.if_icmp .ne 59, 3) := by decide +kernel
theorem dX5_dealOn_5 : decode cX5_dealOn 5 = .ok (.aload_n 0, 1) := by decide +kernel
theorem dX5_dealOn_6 : decode cX5_dealOn 6 = .ok (.getfield 9, 3) := by decide +kernel
theorem dX5_dealOn_9 : decode cX5_dealOn 9 = .ok (.aload_n 0, 1) := by decide +kernel
theorem dX5_dealOn_10 : decode cX5_dealOn 10 = .ok (.getfield 40, 3) := by decide +kernel
theorem dX5_dealOn_13 : decode cX5_dealOn 13 = .ok (.invokestatic 93, 3) := by decide +kernel
theorem dX5_dealOn_16 : decode cX5_dealOn 16 = .ok (.aload_n 0, 1) := by decide +kernel
theorem dX5_dealOn_17 : decode cX5_dealOn 17 = .ok (.iload_n 2, 1) := by decide +kernel
theorem dX5_dealOn_18 : decode cX5_dealOn 18 = .ok (.invokevirtual 164, 3) := by decide +kernel
theorem dX5_dealOn_21 : decode cX5_dealOn 21 = .ok (.istore 5, 2) := by decide +kernel
theorem dX5_dealOn_23 : decode cX5_dealOn 23 = .ok (.aload_n 0, 1) := by decide +kernel
theorem dX5_dealOn_24 : decode cX5_dealOn 24 = .ok (.dup, 1) := by decide +kernel
theorem dX5_dealOn_25 : decode cX5_dealOn 25 = .ok (.getfield 227, 3) := by decide +kernel
theorem dX5_dealOn_28 : decode cX5_dealOn 28 = .ok (.iload 5, 2) := by decide +kernel
theorem dX5_dealOn_30 : decode cX5_dealOn 30 = .ok (.ifCond .lt 14, 3) := by decide +kernel
theorem dX5_dealOn_33 : decode cX5_dealOn 33 = .ok (.aload_n 0, 1) := by decide +kernel
theorem dX5_dealOn_34 : decode cX5_dealOn 34 = .ok (.invokevirtual 170, 3) := by decide +kernel
theorem dX5_dealOn_37 : decode cX5_dealOn 37 = .ok (.ifCond .ne 7, 3) := by decide +kernel
theorem dX5_dealOn_40 : decode cX5_dealOn 40 = .ok (.iconst 1, 1) := by decide +kernel
theorem dX5_dealOn_41 : decode cX5_dealOn 41 = .ok (.goto 4, 3) := by decide +kernel
theorem dX5_dealOn_44 : decode cX5_dealOn 44 = .ok (.iconst 0, 1) := by decide +kernel
theorem dX5_dealOn_45 : decode cX5_dealOn 45 = .ok (.iadd, 1) := by decide +kernel
theorem dX5_dealOn_46 : decode cX5_dealOn 46 = .ok (.putfield 227, 3) := by decide +kernel
theorem dX5_dealOn_49 : decode cX5_dealOn 49 = .ok (.aload_n 0, 1) := by decide +kernel
theorem dX5_dealOn_50 : decode cX5_dealOn 50 = .ok (.getfield 40, 3) := by decide +kernel
theorem dX5_dealOn_53 : decode cX5_dealOn 53 = .ok (.aload_n 0, 1) := by decide +kernel
theorem dX5_dealOn_54 : decode cX5_dealOn 54 = .ok (.getfield 9, 3) := by decide +kernel
theorem dX5_dealOn_57 : decode cX5_dealOn 57 = .ok (.invokestatic 93, 3) := by decide +kernel
theorem dX5_dealOn_60 : decode cX5_dealOn 60 = .ok (.return_, 1) := by decide +kernel
theorem dX5_dealOn_61 : decode cX5_dealOn 61 = .ok (.iconst 0, 1) := by decide +kernel
theorem dX5_dealOn_62 : decode cX5_dealOn 62 = .ok (.istore 5, 2) := by decide +kernel
theorem dX5_dealOn_64 : decode cX5_dealOn 64 = .ok (.iload 5, 2) := by decide +kernel
theorem dX5_dealOn_66 : decode cX5_dealOn 66 = .ok (.iload_n 1, 1) := by decide +kernel
theorem dX5_dealOn_67 : decode cX5_dealOn 67 = .ok (.if_icmp .ge 56, 3) := by decide +kernel
theorem dX5_dealOn_70 : decode cX5_dealOn 70 = .ok (.iload 4, 2) := by decide +kernel
theorem dX5_dealOn_72 : decode cX5_dealOn 72 = .ok (.iload 5, 2) := by decide +kernel
theorem dX5_dealOn_74 : decode cX5_dealOn 74 = .ok (.invokestatic 140, 3) := by decide +kernel
theorem dX5_dealOn_77 : decode cX5_dealOn 77 = .ok (.ifCond .ne 40, 3) := by decide +kernel
theorem dX5_dealOn_80 : decode cX5_dealOn 80 = .ok (.aload_n 0, 1) := by decide +kernel
theorem dX5_dealOn_81 : decode cX5_dealOn 81 = .ok (.getfield 9, 3) := by decide +kernel
theorem dX5_dealOn_84 : decode cX5_dealOn 84 = .ok (.iload_n 3, 1) := by decide +kernel
theorem dX5_dealOn_85 : decode cX5_dealOn 85 = .ok (.iconst 0, 1) := by decide +kernel
theorem dX5_dealOn_86 : decode cX5_dealOn 86 = .ok (.invokestatic 101, 3) := by decide +kernel
theorem dX5_dealOn_89 : decode cX5_dealOn 89 = .ok (.aload_n 0, 1) := by decide +kernel
theorem dX5_dealOn_90 : decode cX5_dealOn 90 = .ok (.getfield 16, 3) := by decide +kernel
theorem dX5_dealOn_93 : decode cX5_dealOn 93 = .ok (.iload 5, 2) := by decide +kernel
theorem dX5_dealOn_95 : decode cX5_dealOn 95 = .ok (.iconst 0, 1) := by decide +kernel
theorem dX5_dealOn_96 : decode cX5_dealOn 96 = .ok (.invokestatic 101, 3) := by decide +kernel
theorem dX5_dealOn_99 : decode cX5_dealOn 99 = .ok (.iaload, 1) := by decide +kernel
theorem dX5_dealOn_100 : decode cX5_dealOn 100 = .ok (.iastore, 1) := by decide +kernel
theorem dX5_dealOn_101 : decode cX5_dealOn 101 = .ok (.aload_n 0, 1) := by decide +kernel
theorem dX5_dealOn_102 : decode cX5_dealOn 102 = .ok (.iload_n 1, 1) := by decide +kernel
theorem dX5_dealOn_103 : decode cX5_dealOn 103 = .ok (.iload_n 2, 1) := by decide +kernel
theorem dX5_dealOn_104 : decode cX5_dealOn 104 = .ok (.iload_n 3, 1) := by decide +kernel
theorem dX5_dealOn_105 : decode cX5_dealOn 105 = .ok (.iconst 1, 1) := by decide +kernel
theorem dX5_dealOn_106 : decode cX5_dealOn 106 = .ok (.iadd, 1) := by decide +kernel
theorem dX5_dealOn_107 : decode cX5_dealOn 107 = .ok (.iload 4, 2) := by decide +kernel
theorem dX5_dealOn_109 : decode cX5_dealOn 109 = .ok (.iconst 1, 1) := by decide +kernel
theorem dX5_dealOn_110 : decode cX5_dealOn 110 = .ok (.iload 5, 2) := by decide +kernel
theorem dX5_dealOn_112 : decode cX5_dealOn 112 = .ok (.ishl, 1) := by decide +kernel
theorem dX5_dealOn_113 : decode cX5_dealOn 113 = .ok (.ior, 1) := by decide +kernel
theorem dX5_dealOn_114 : decode cX5_dealOn 114 = .ok (.invokevirtual 230, 3) := by decide +kernel
theorem dX5_dealOn_117 : decode cX5_dealOn 117 = .ok (.iinc 5 1, 3) := by decide +kernel
theorem dX5_dealOn_120 : decode cX5_dealOn 120 = .ok (.goto (-56), 3) := by decide +kernel
theorem dX5_dealOn_123 : decode cX5_dealOn 123 = .ok (.return_, 1) := by decide +kernel
theorem dX5_orders_0 : decode cX5_orders 0 = .ok (.iload_n 1, 1) := by decide +kernel
theorem dX5_orders_1 : decode cX5_orders 1 = .ok (.iconst 2, 1) := by decide +kernel
theorem dX5_orders_2 : decode cX5_orders 2 = .ok (.iconst 5, 1) := by decide +kernel
theorem dX5_orders_3 : decode cX5_orders 3 = .ok (.aload_n 0, 1) := by decide +kernel
theorem dX5_orders_4 : decode cX5_orders 4 = .ok (.getfield 9, 3) := by decide +kernel
theorem dX5_orders_7 : decode cX5_orders 7 = .ok (.iconst 2, 1) := by decide +kernel
theorem dX5_orders_8 : decode cX5_orders 8 = .ok (.iaload, 1) := by decide +kernel
theorem dX5_orders_9 : decode cX5_orders 9 = .ok (.invokestatic 123, 3) := by decide +kernel
theorem dX5_orders_12 : decode cX5_orders 12 = .ok (.invokestatic 97, 3) := by decide +kernel
theorem dX5_orders_15 : decode cX5_orders 15 = .ok (.ifCond .eq 13, 3) := by decide +kernel
theorem dX5_orders_18 : decode cX5_orders 18 = .ok (.iload_n 2, 1) := by decide +kernel
theorem dX5_orders_19 : decode cX5_orders 19 = .ok (.iconst 1, 1) := by decide +kernel
theorem dX5_orders_20 : decode cX5_orders 20 = .ok (.bipush 24, 2) := by decide +kernel
theorem dX5_orders_22 : decode cX5_orders 22 = .ok (.invokestatic 97, 3) := by decide +kernel
theorem dX5_orders_25 : decode cX5_orders 25 = .ok (.ifCond .ne 10, 3) := by decide +kernel
theorem dX5_orders_28 : decode cX5_orders 28 = .ok (.aload_n 0, 1) := by decide +kernel
theorem dX5_orders_29 : decode cX5_orders 29 = .ok (.ldc 92, 2) := by decide +kernel
theorem dX5_orders_31 : decode cX5_orders 31 = .ok (.invokevirtual 109, 3) := by decide +kernel
theorem dX5_orders_34 : decode cX5_orders 34 = .ok (.ireturn, 1) := by decide +kernel
theorem dX5_orders_35 : decode cX5_orders 35 = .ok (.aload_n 0, 1) := by decide +kernel
theorem dX5_orders_36 : decode cX5_orders 36 = .ok (.iload_n 2, 1) := by decide +kernel
theorem dX5_orders_37 : decode cX5_orders 37 = .ok (.invokevirtual 160, 3) := by decide +kernel
theorem dX5_orders_40 : decode cX5_orders 40 = .ok (.ifCond .eq 10, 3) := by decide +kernel
theorem dX5_orders_43 : decode cX5_orders 43 = .ok (.aload_n 0, 1) := by decide +kernel
theorem dX5_orders_44 : decode cX5_orders 44 = .ok (.ldc 163, 2) := by decide +kernel
theorem dX5_orders_46 : decode cX5_orders 46 = .ok (.invokevirtual 109, 3) := by decide +kernel
theorem dX5_orders_49 : decode cX5_orders 49 = .ok (.ireturn, 1) := by decide +kernel
theorem dX5_orders_50 : decode cX5_orders 50 = .ok (.aload_n 0, 1) := by decide +kernel
theorem dX5_orders_51 : decode cX5_orders 51 = .ok (.getfield 9, 3) := by decide +kernel
theorem dX5_orders_54 : decode cX5_orders 54 = .ok (.aload_n 0, 1) := by decide +kernel
theorem dX5_orders_55 : decode cX5_orders 55 = .ok (.getfield 16, 3) := by decide +kernel
theorem dX5_orders_58 : decode cX5_orders 58 = .ok (.invokestatic 93, 3) := by decide +kernel
theorem dX5_orders_61 : decode cX5_orders 61 = .ok (.aload_n 0, 1) := by decide +kernel
theorem dX5_orders_62 : decode cX5_orders 62 = .ok (.iconst 0, 1) := by decide +kernel
theorem dX5_orders_63 : decode cX5_orders 63 = .ok (.putfield 227, 3) := by decide +kernel
theorem dX5_orders_66 : decode cX5_orders 66 = .ok (.aload_n 0, 1) := by decide +kernel
theorem dX5_orders_67 : decode cX5_orders 67 = .ok (.iload_n 1, 1) := by decide +kernel
theorem dX5_orders_68 : decode cX5_orders 68 = .ok (.iload_n 2, 1) := by decide +kernel
theorem dX5_orders_69 : decode cX5_orders 69 = .ok (.iconst 0, 1) := by decide +kernel
theorem dX5_orders_70 : decode cX5_orders 70 = .ok (.iconst 0, 1) := by decide +kernel
theorem dX5_orders_71 : decode cX5_orders 71 = .ok (.invokevirtual 230, 3) := by decide +kernel
theorem dX5_orders_74 : decode cX5_orders 74 = .ok (.aload_n 0, 1) := by decide +kernel
theorem dX5_orders_75 : decode cX5_orders 75 = .ok (.aload_n 0, 1) := by decide +kernel
theorem dX5_orders_76 : decode cX5_orders 76 = .ok (.getfield 227, 3) := by decide +kernel
theorem dX5_orders_79 : decode cX5_orders 79 = .ok (.invokevirtual 179, 3) := by decide +kernel
theorem dX5_orders_82 : decode cX5_orders 82 = .ok (.ireturn, 1) := by decide +kernel
theorem dX5_leastFor_0 : decode cX5_leastFor 0 = .ok (.aload_n 0, 1) := by decide +kernel
theorem dX5_leastFor_1 : decode cX5_leastFor 1 = .ok (.getfield 9, 3) := by decide +kernel
theorem dX5_leastFor_4 : decode cX5_leastFor 4 = .ok (.aload_n 0, 1) := by decide +kernel
theorem dX5_leastFor_5 : decode cX5_leastFor 5 = .ok (.getfield 16, 3) := by decide +kernel
theorem dX5_leastFor_8 : decode cX5_leastFor 8 = .ok (.invokestatic 93, 3) := by decide +kernel
theorem dX5_leastFor_11 : decode cX5_leastFor 11 = .ok (.iload_n 3, 1) := by decide +kernel
theorem dX5_leastFor_12 : decode cX5_leastFor 12 = .ok (.istore 7, 2) := by decide +kernel
theorem dX5_leastFor_14 : decode cX5_leastFor 14 = .ok (.iload 7, 2) := by decide +kernel
theorem dX5_leastFor_16 : decode cX5_leastFor 16 = .ok (.iload 4, 2) := by decide +kernel
theorem dX5_leastFor_18 : decode cX5_leastFor 18 = .ok (.if_icmp .gt 42, 3) := by decide +kernel
theorem dX5_leastFor_21 : decode cX5_leastFor 21 = .ok (.aload_n 0, 1) := by decide +kernel
theorem dX5_leastFor_22 : decode cX5_leastFor 22 = .ok (.getfield 9, 3) := by decide +kernel
theorem dX5_leastFor_25 : decode cX5_leastFor 25 = .ok (.iload_n 1, 1) := by decide +kernel
theorem dX5_leastFor_26 : decode cX5_leastFor 26 = .ok (.iload_n 2, 1) := by decide +kernel
theorem dX5_leastFor_27 : decode cX5_leastFor 27 = .ok (.invokestatic 101, 3) := by decide +kernel
theorem dX5_leastFor_30 : decode cX5_leastFor 30 = .ok (.iload 7, 2) := by decide +kernel
theorem dX5_leastFor_32 : decode cX5_leastFor 32 = .ok (.iastore, 1) := by decide +kernel
theorem dX5_leastFor_33 : decode cX5_leastFor 33 = .ok (.aload_n 0, 1) := by decide +kernel
theorem dX5_leastFor_34 : decode cX5_leastFor 34 = .ok (.iload 6, 2) := by decide +kernel
theorem dX5_leastFor_36 : decode cX5_leastFor 36 = .ok (.invokevirtual 194, 3) := by decide +kernel
theorem dX5_leastFor_39 : decode cX5_leastFor 39 = .ok (.aload_n 0, 1) := by decide +kernel
theorem dX5_leastFor_40 : decode cX5_leastFor 40 = .ok (.getfield 34, 3) := by decide +kernel
theorem dX5_leastFor_43 : decode cX5_leastFor 43 = .ok (.iload 5, 2) := by decide +kernel
theorem dX5_leastFor_45 : decode cX5_leastFor 45 = .ok (.iaload, 1) := by decide +kernel
theorem dX5_leastFor_46 : decode cX5_leastFor 46 = .ok (.bipush 60, 2) := by decide +kernel
theorem dX5_leastFor_48 : decode cX5_leastFor 48 = .ok (.if_icmp .lt 6, 3) := by decide +kernel
theorem dX5_leastFor_51 : decode cX5_leastFor 51 = .ok (.iload 7, 2) := by decide +kernel
theorem dX5_leastFor_53 : decode cX5_leastFor 53 = .ok (.ireturn, 1) := by decide +kernel
theorem dX5_leastFor_54 : decode cX5_leastFor 54 = .ok (.iinc 7 1, 3) := by decide +kernel
theorem dX5_leastFor_57 : decode cX5_leastFor 57 = .ok (.goto (-43), 3) := by decide +kernel
theorem dX5_leastFor_60 : decode cX5_leastFor 60 = .ok (.aload_n 0, 1) := by decide +kernel
theorem dX5_leastFor_61 : decode cX5_leastFor 61 = .ok (.ldc 186, 2) := by decide +kernel
theorem dX5_leastFor_63 : decode cX5_leastFor 63 = .ok (.invokevirtual 109, 3) := by decide +kernel
theorem dX5_leastFor_66 : decode cX5_leastFor 66 = .ok (.ireturn, 1) := by decide +kernel
theorem dX5_coal_0 : decode cX5_coal 0 = .ok (.aload_n 0, 1) := by decide +kernel
theorem dX5_coal_1 : decode cX5_coal 1 = .ok (.iload_n 1, 1) := by decide +kernel
theorem dX5_coal_2 : decode cX5_coal 2 = .ok (.iload_n 2, 1) := by decide +kernel
theorem dX5_coal_3 : decode cX5_coal 3 = .ok (.invokevirtual 198, 3) := by decide +kernel
theorem dX5_coal_6 : decode cX5_coal 6 = .ok (.istore_n 3, 1) := by decide +kernel
theorem dX5_coal_7 : decode cX5_coal 7 = .ok (.iload_n 3, 1) := by decide +kernel
theorem dX5_coal_8 : decode cX5_coal 8 = .ok (.ifCond .ne 19, 3) := by decide +kernel
theorem dX5_coal_11 : decode cX5_coal 11 = .ok (.aload_n 0, 1) := by decide +kernel
theorem dX5_coal_12 : decode cX5_coal 12 = .ok (.aload_n 0, 1) := by decide +kernel
theorem dX5_coal_13 : decode cX5_coal 13 = .ok (.iload_n 1, 1) := by decide +kernel
theorem dX5_coal_14 : decode cX5_coal 14 = .ok (.iconst 4, 1) := by decide +kernel
theorem dX5_coal_15 : decode cX5_coal 15 = .ok (.invokevirtual 120, 3) := by decide +kernel
theorem dX5_coal_18 : decode cX5_coal 18 = .ok (.invokevirtual 128, 3) := by decide +kernel
theorem dX5_coal_21 : decode cX5_coal 21 = .ok (.ifCond .ne 6, 3) := by decide +kernel
theorem dX5_coal_24 : decode cX5_coal 24 = .ok (.ldc 163, 2) := by decide +kernel
theorem dX5_coal_26 : decode cX5_coal 26 = .ok (.istore_n 3, 1) := by decide +kernel
theorem dX5_coal_27 : decode cX5_coal 27 = .ok (.iload_n 3, 1) := by decide +kernel
theorem dX5_coal_28 : decode cX5_coal 28 = .ok (.ifCond .eq 11, 3) := by decide +kernel
theorem dX5_coal_31 : decode cX5_coal 31 = .ok (.aload_n 0, 1) := by decide +kernel
theorem dX5_coal_32 : decode cX5_coal 32 = .ok (.iload_n 3, 1) := by decide +kernel
theorem dX5_coal_33 : decode cX5_coal 33 = .ok (.invokevirtual 109, 3) := by decide +kernel
theorem dX5_coal_36 : decode cX5_coal 36 = .ok (.goto 20, 3) := by decide +kernel
theorem dX5_coal_39 : decode cX5_coal 39 = .ok (.aload_n 0, 1) := by decide +kernel
theorem dX5_coal_40 : decode cX5_coal 40 = .ok (.iload_n 1, 1) := by decide +kernel
theorem dX5_coal_41 : decode cX5_coal 41 = .ok (.iconst 2, 1) := by decide +kernel
theorem dX5_coal_42 : decode cX5_coal 42 = .ok (.iconst 0, 1) := by decide +kernel
theorem dX5_coal_43 : decode cX5_coal 43 = .ok (.sipush 999, 3) := by decide +kernel
theorem dX5_coal_46 : decode cX5_coal 46 = .ok (.aload_n 0, 1) := by decide +kernel
theorem dX5_coal_47 : decode cX5_coal 47 = .ok (.iload_n 1, 1) := by decide +kernel
theorem dX5_coal_48 : decode cX5_coal 48 = .ok (.iconst 4, 1) := by decide +kernel
theorem dX5_coal_49 : decode cX5_coal 49 = .ok (.invokevirtual 120, 3) := by decide +kernel
theorem dX5_coal_52 : decode cX5_coal 52 = .ok (.iload_n 2, 1) := by decide +kernel
theorem dX5_coal_53 : decode cX5_coal 53 = .ok (.invokevirtual 234, 3) := by decide +kernel
theorem dX5_coal_56 : decode cX5_coal 56 = .ok (.ireturn, 1) := by decide +kernel
theorem dX5_wall_0 : decode cX5_wall 0 = .ok (.aload_n 0, 1) := by decide +kernel
theorem dX5_wall_1 : decode cX5_wall 1 = .ok (.iload_n 1, 1) := by decide +kernel
theorem dX5_wall_2 : decode cX5_wall 2 = .ok (.iload_n 2, 1) := by decide +kernel
theorem dX5_wall_3 : decode cX5_wall 3 = .ok (.invokevirtual 198, 3) := by decide +kernel
theorem dX5_wall_6 : decode cX5_wall 6 = .ok (.istore_n 3, 1) := by decide +kernel
theorem dX5_wall_7 : decode cX5_wall 7 = .ok (.iload_n 3, 1) := by decide +kernel
theorem dX5_wall_8 : decode cX5_wall 8 = .ok (.ifCond .eq 11, 3) := by decide +kernel
theorem dX5_wall_11 : decode cX5_wall 11 = .ok (.aload_n 0, 1) := by decide +kernel
theorem dX5_wall_12 : decode cX5_wall 12 = .ok (.iload_n 3, 1) := by decide +kernel
theorem dX5_wall_13 : decode cX5_wall 13 = .ok (.invokevirtual 109, 3) := by decide +kernel
theorem dX5_wall_16 : decode cX5_wall 16 = .ok (.goto 14, 3) := by decide +kernel
theorem dX5_wall_19 : decode cX5_wall 19 = .ok (.aload_n 0, 1) := by decide +kernel
theorem dX5_wall_20 : decode cX5_wall 20 = .ok (.iload_n 1, 1) := by decide +kernel
theorem dX5_wall_21 : decode cX5_wall 21 = .ok (.iconst 3, 1) := by decide +kernel
theorem dX5_wall_22 : decode cX5_wall 22 = .ok (.iconst 1, 1) := by decide +kernel
theorem dX5_wall_23 : decode cX5_wall 23 = .ok (.bipush 20, 2) := by decide +kernel
theorem dX5_wall_25 : decode cX5_wall 25 = .ok (.iload_n 1, 1) := by decide +kernel
theorem dX5_wall_26 : decode cX5_wall 26 = .ok (.iload_n 2, 1) := by decide +kernel
theorem dX5_wall_27 : decode cX5_wall 27 = .ok (.invokevirtual 234, 3) := by decide +kernel
theorem dX5_wall_30 : decode cX5_wall 30 = .ok (.ireturn, 1) := by decide +kernel
theorem dX5_turn_0 : decode cX5_turn 0 = .ok (.aload_n 0, 1) := by decide +kernel
theorem dX5_turn_1 : decode cX5_turn 1 = .ok (.iload_n 1, 1) := by decide +kernel
theorem dX5_turn_2 : decode cX5_turn 2 = .ok (.iload_n 2, 1) := by decide +kernel
theorem dX5_turn_3 : decode cX5_turn 3 = .ok (.invokevirtual 198, 3) := by decide +kernel
theorem dX5_turn_6 : decode cX5_turn 6 = .ok (.istore_n 3, 1) := by decide +kernel
theorem dX5_turn_7 : decode cX5_turn 7 = .ok (.iload_n 3, 1) := by decide +kernel
theorem dX5_turn_8 : decode cX5_turn 8 = .ok (.ifCond .ne 16, 3) := by decide +kernel
theorem dX5_turn_11 : decode cX5_turn 11 = .ok (.aload_n 0, 1) := by decide +kernel
theorem dX5_turn_12 : decode cX5_turn 12 = .ok (.getfield 9, 3) := by decide +kernel
theorem dX5_turn_15 : decode cX5_turn 15 = .ok (.iconst 2, 1) := by decide +kernel
theorem dX5_turn_16 : decode cX5_turn 16 = .ok (.iaload, 1) := by decide +kernel
theorem dX5_turn_17 : decode cX5_turn 17 = .ok (.iconst 1, 1) := by decide +kernel
theorem dX5_turn_18 : decode cX5_turn 18 = .ok (.if_icmp .ne 6, 3) := by decide +kernel
theorem dX5_turn_21 : decode cX5_turn 21 = .ok (.ldc 163, 2) := by decide +kernel
theorem dX5_turn_23 : decode cX5_turn 23 = .ok (.istore_n 3, 1) := by decide +kernel
theorem dX5_turn_24 : decode cX5_turn 24 = .ok (.iload_n 3, 1) := by decide +kernel
theorem dX5_turn_25 : decode cX5_turn 25 = .ok (.ifCond .eq 9, 3) := by decide +kernel
theorem dX5_turn_28 : decode cX5_turn 28 = .ok (.aload_n 0, 1) := by decide +kernel
theorem dX5_turn_29 : decode cX5_turn 29 = .ok (.iload_n 3, 1) := by decide +kernel
theorem dX5_turn_30 : decode cX5_turn 30 = .ok (.invokevirtual 109, 3) := by decide +kernel
theorem dX5_turn_33 : decode cX5_turn 33 = .ok (.ireturn, 1) := by decide +kernel
theorem dX5_turn_34 : decode cX5_turn 34 = .ok (.aload_n 0, 1) := by decide +kernel
theorem dX5_turn_35 : decode cX5_turn 35 = .ok (.getfield 9, 3) := by decide +kernel
theorem dX5_turn_38 : decode cX5_turn 38 = .ok (.aload_n 0, 1) := by decide +kernel
theorem dX5_turn_39 : decode cX5_turn 39 = .ok (.getfield 16, 3) := by decide +kernel
theorem dX5_turn_42 : decode cX5_turn 42 = .ok (.invokestatic 93, 3) := by decide +kernel
theorem dX5_turn_45 : decode cX5_turn 45 = .ok (.iconst (-1), 1) := by decide +kernel
theorem dX5_turn_46 : decode cX5_turn 46 = .ok (.istore 4, 2) := by decide +kernel
theorem dX5_turn_48 : decode cX5_turn 48 = .ok (.iconst (-1), 1) := by decide +kernel
theorem dX5_turn_49 : decode cX5_turn 49 = .ok (.istore 5, 2) := by decide +kernel
theorem dX5_turn_51 : decode cX5_turn 51 = .ok (.iconst 0, 1) := by decide +kernel
theorem dX5_turn_52 : decode cX5_turn 52 = .ok (.istore 6, 2) := by decide +kernel
theorem dX5_turn_54 : decode cX5_turn 54 = .ok (.iload 6, 2) := by decide +kernel
theorem dX5_turn_56 : decode cX5_turn 56 = .ok (.aload_n 0, 1) := by decide +kernel
theorem dX5_turn_57 : decode cX5_turn 57 = .ok (.getfield 9, 3) := by decide +kernel
theorem dX5_turn_60 : decode cX5_turn 60 = .ok (.iconst 2, 1) := by decide +kernel
theorem dX5_turn_61 : decode cX5_turn 61 = .ok (.iaload, 1) := by decide +kernel
theorem dX5_turn_62 : decode cX5_turn 62 = .ok (.if_icmp .ge 61, 3) := by decide +kernel
theorem dX5_turn_65 : decode cX5_turn 65 = .ok (.iload 6, 2) := by decide +kernel
theorem dX5_turn_67 : decode cX5_turn 67 = .ok (.iload_n 1, 1) := by decide +kernel
theorem dX5_turn_68 : decode cX5_turn 68 = .ok (.if_icmp .eq 49, 3) := by decide +kernel
theorem dX5_turn_71 : decode cX5_turn 71 = .ok (.aload_n 0, 1) := by decide +kernel
theorem dX5_turn_72 : decode cX5_turn 72 = .ok (.getfield 9, 3) := by decide +kernel
theorem dX5_turn_75 : decode cX5_turn 75 = .ok (.iload_n 1, 1) := by decide +kernel
theorem dX5_turn_76 : decode cX5_turn 76 = .ok (.iconst 4, 1) := by decide +kernel
theorem dX5_turn_77 : decode cX5_turn 77 = .ok (.invokestatic 101, 3) := by decide +kernel
theorem dX5_turn_80 : decode cX5_turn 80 = .ok (.iload 6, 2) := by decide +kernel
theorem dX5_turn_82 : decode cX5_turn 82 = .ok (.iastore, 1) := by decide +kernel
theorem dX5_turn_83 : decode cX5_turn 83 = .ok (.aload_n 0, 1) := by decide +kernel
theorem dX5_turn_84 : decode cX5_turn 84 = .ok (.iload_n 2, 1) := by decide +kernel
theorem dX5_turn_85 : decode cX5_turn 85 = .ok (.invokevirtual 194, 3) := by decide +kernel
theorem dX5_turn_88 : decode cX5_turn 88 = .ok (.aload_n 0, 1) := by decide +kernel
theorem dX5_turn_89 : decode cX5_turn 89 = .ok (.invokevirtual 215, 3) := by decide +kernel
theorem dX5_turn_92 : decode cX5_turn 92 = .ok (.iload 5, 2) := by decide +kernel
theorem dX5_turn_94 : decode cX5_turn 94 = .ok (.if_icmp .le 8, 3) := by decide +kernel
theorem dX5_turn_97 : decode cX5_turn 97 = .ok (.iload 6, 2) := by decide +kernel
theorem dX5_turn_99 : decode cX5_turn 99 = .ok (.goto 5, 3) := by decide +kernel
theorem dX5_turn_102 : decode cX5_turn 102 = .ok (.iload 4, 2) := by decide +kernel
theorem dX5_turn_104 : decode cX5_turn 104 = .ok (.istore 4, 2) := by decide +kernel
theorem dX5_turn_106 : decode cX5_turn 106 = .ok (.iload 5, 2) := by decide +kernel
theorem dX5_turn_108 : decode cX5_turn 108 = .ok (.aload_n 0, 1) := by decide +kernel
theorem dX5_turn_109 : decode cX5_turn 109 = .ok (.invokevirtual 215, 3) := by decide +kernel
theorem dX5_turn_112 : decode cX5_turn 112 = .ok (.invokestatic 153, 3) := by decide +kernel
theorem dX5_turn_115 : decode cX5_turn 115 = .ok (.istore 5, 2) := by decide +kernel
theorem dX5_turn_117 : decode cX5_turn 117 = .ok (.iinc 6 1, 3) := by decide +kernel
theorem dX5_turn_120 : decode cX5_turn 120 = .ok (.goto (-66), 3) := by decide +kernel
theorem dX5_turn_123 : decode cX5_turn 123 = .ok (.iload 4, 2) := by decide +kernel
theorem dX5_turn_125 : decode cX5_turn 125 = .ok (.ireturn, 1) := by decide +kernel
theorem dX5_damper_0 : decode cX5_damper 0 = .ok (.aload_n 0, 1) := by decide +kernel
theorem dX5_damper_1 : decode cX5_damper 1 = .ok (.iload_n 1, 1) := by decide +kernel
theorem dX5_damper_2 : decode cX5_damper 2 = .ok (.iload_n 2, 1) := by decide +kernel
theorem dX5_damper_3 : decode cX5_damper 3 = .ok (.invokevirtual 198, 3) := by decide +kernel
theorem dX5_damper_6 : decode cX5_damper 6 = .ok (.istore_n 3, 1) := by decide +kernel
theorem dX5_damper_7 : decode cX5_damper 7 = .ok (.iload_n 3, 1) := by decide +kernel
theorem dX5_damper_8 : decode cX5_damper 8 = .ok (.ifCond .eq 11, 3) := by decide +kernel
theorem dX5_damper_11 : decode cX5_damper 11 = .ok (.aload_n 0, 1) := by decide +kernel
theorem dX5_damper_12 : decode cX5_damper 12 = .ok (.iload_n 3, 1) := by decide +kernel
theorem dX5_damper_13 : decode cX5_damper 13 = .ok (.invokevirtual 109, 3) := by decide +kernel
theorem dX5_damper_16 : decode cX5_damper 16 = .ok (.goto 12, 3) := by decide +kernel
theorem dX5_damper_19 : decode cX5_damper 19 = .ok (.aload_n 0, 1) := by decide +kernel
theorem dX5_damper_20 : decode cX5_damper 20 = .ok (.iload_n 1, 1) := by decide +kernel
theorem dX5_damper_21 : decode cX5_damper 21 = .ok (.bipush 6, 2) := by decide +kernel
theorem dX5_damper_23 : decode cX5_damper 23 = .ok (.iconst 4, 1) := by decide +kernel
theorem dX5_damper_24 : decode cX5_damper 24 = .ok (.iload_n 2, 1) := by decide +kernel
theorem dX5_damper_25 : decode cX5_damper 25 = .ok (.invokevirtual 204, 3) := by decide +kernel
theorem dX5_damper_28 : decode cX5_damper 28 = .ok (.ireturn, 1) := by decide +kernel
theorem dX5_own_0 : decode cX5_own 0 = .ok (.aload_n 0, 1) := by decide +kernel
theorem dX5_own_1 : decode cX5_own 1 = .ok (.iload_n 1, 1) := by decide +kernel
theorem dX5_own_2 : decode cX5_own 2 = .ok (.bipush 60, 2) := by decide +kernel
theorem dX5_own_4 : decode cX5_own 4 = .ok (.invokevirtual 208, 3) := by decide +kernel
theorem dX5_own_7 : decode cX5_own 7 = .ok (.istore_n 2, 1) := by decide +kernel
theorem dX5_own_8 : decode cX5_own 8 = .ok (.iload_n 2, 1) := by decide +kernel
theorem dX5_own_9 : decode cX5_own 9 = .ok (.ifCond .eq 9, 3) := by decide +kernel
theorem dX5_own_12 : decode cX5_own 12 = .ok (.aload_n 0, 1) := by decide +kernel
theorem dX5_own_13 : decode cX5_own 13 = .ok (.iload_n 2, 1) := by decide +kernel
theorem dX5_own_14 : decode cX5_own 14 = .ok (.invokevirtual 109, 3) := by decide +kernel
theorem dX5_own_17 : decode cX5_own 17 = .ok (.ireturn, 1) := by decide +kernel
theorem dX5_own_18 : decode cX5_own 18 = .ok (.aload_n 0, 1) := by decide +kernel
theorem dX5_own_19 : decode cX5_own 19 = .ok (.iload_n 1, 1) := by decide +kernel
theorem dX5_own_20 : decode cX5_own 20 = .ok (.invokevirtual 201, 3) := by decide +kernel
theorem dX5_own_23 : decode cX5_own 23 = .ok (.iconst 0, 1) := by decide +kernel
theorem dX5_own_24 : decode cX5_own 24 = .ok (.istore_n 3, 1) := by decide +kernel
theorem dX5_own_25 : decode cX5_own 25 = .ok (.iload_n 3, 1) := by decide +kernel
theorem dX5_own_26 : decode cX5_own 26 = .ok (.aload_n 0, 1) := by decide +kernel
theorem dX5_own_27 : decode cX5_own 27 = .ok (.getfield 9, 3) := by decide +kernel
theorem dX5_own_30 : decode cX5_own 30 = .ok (.iconst 2, 1) := by decide +kernel
theorem dX5_own_31 : decode cX5_own 31 = .ok (.iaload, 1) := by decide +kernel
theorem dX5_own_32 : decode cX5_own 32 = .ok (.if_icmp .ge 20, 3) := by decide +kernel
theorem dX5_own_35 : decode cX5_own 35 = .ok (.aload_n 0, 1) := by decide +kernel
theorem dX5_own_36 : decode cX5_own 36 = .ok (.getfield 9, 3) := by decide +kernel
theorem dX5_own_39 : decode cX5_own 39 = .ok (.iload_n 3, 1) := by decide +kernel
theorem dX5_own_40 : decode cX5_own 40 = .ok (.iconst 4, 1) := by decide +kernel
theorem dX5_own_41 : decode cX5_own 41 = .ok (.invokestatic 101, 3) := by decide +kernel
theorem dX5_own_44 : decode cX5_own 44 = .ok (.iload_n 3, 1) := by decide +kernel
theorem dX5_own_45 : decode cX5_own 45 = .ok (.iastore, 1) := by decide +kernel
theorem dX5_own_46 : decode cX5_own 46 = .ok (.iinc 3 1, 3) := by decide +kernel
theorem dX5_own_49 : decode cX5_own 49 = .ok (.goto (-24), 3) := by decide +kernel
theorem dX5_own_52 : decode cX5_own 52 = .ok (.aload_n 0, 1) := by decide +kernel
theorem dX5_own_53 : decode cX5_own 53 = .ok (.iload_n 1, 1) := by decide +kernel
theorem dX5_own_54 : decode cX5_own 54 = .ok (.invokevirtual 194, 3) := by decide +kernel
theorem dX5_own_57 : decode cX5_own 57 = .ok (.iconst 0, 1) := by decide +kernel
theorem dX5_own_58 : decode cX5_own 58 = .ok (.istore_n 3, 1) := by decide +kernel
theorem dX5_own_59 : decode cX5_own 59 = .ok (.iconst 0, 1) := by decide +kernel
theorem dX5_own_60 : decode cX5_own 60 = .ok (.istore 4, 2) := by decide +kernel
theorem dX5_own_62 : decode cX5_own 62 = .ok (.iload 4, 2) := by decide +kernel
theorem dX5_own_64 : decode cX5_own 64 = .ok (.aload_n 0, 1) := by decide +kernel
theorem dX5_own_65 : decode cX5_own 65 = .ok (.getfield 9, 3) := by decide +kernel
theorem dX5_own_68 : decode cX5_own 68 = .ok (.iconst 2, 1) := by decide +kernel
theorem dX5_own_69 : decode cX5_own 69 = .ok (.iaload, 1) := by decide +kernel
theorem dX5_own_70 : decode cX5_own 70 = .ok (.if_icmp .ge 37, 3) := by decide +kernel
theorem dX5_own_73 : decode cX5_own 73 = .ok (.iload_n 3, 1) := by decide +kernel
theorem dX5_own_74 : decode cX5_own 74 = .ok (.aload_n 0, 1) := by decide +kernel
theorem dX5_own_75 : decode cX5_own 75 = .ok (.getfield 34, 3) := by decide +kernel
theorem dX5_own_78 : decode cX5_own 78 = .ok (.iload 4, 2) := by decide +kernel
theorem dX5_own_80 : decode cX5_own 80 = .ok (.iaload, 1) := by decide +kernel
theorem dX5_own_81 : decode cX5_own 81 = .ok (.aload_n 0, 1) := by decide +kernel
theorem dX5_own_82 : decode cX5_own 82 = .ok (.getfield 37, 3) := by decide +kernel
theorem dX5_own_85 : decode cX5_own 85 = .ok (.iload 4, 2) := by decide +kernel
theorem dX5_own_87 : decode cX5_own 87 = .ok (.iaload, 1) := by decide +kernel
theorem dX5_own_88 : decode cX5_own 88 = .ok (.if_icmp .le 10, 3) := by decide +kernel
theorem dX5_own_91 : decode cX5_own 91 = .ok (.iconst 1, 1) := by decide +kernel
theorem dX5_own_92 : decode cX5_own 92 = .ok (.iload 4, 2) := by decide +kernel
theorem dX5_own_94 : decode cX5_own 94 = .ok (.ishl, 1) := by decide +kernel
theorem dX5_own_95 : decode cX5_own 95 = .ok (.goto 4, 3) := by decide +kernel
theorem dX5_own_98 : decode cX5_own 98 = .ok (.iconst 0, 1) := by decide +kernel
theorem dX5_own_99 : decode cX5_own 99 = .ok (.ior, 1) := by decide +kernel
theorem dX5_own_100 : decode cX5_own 100 = .ok (.istore_n 3, 1) := by decide +kernel
theorem dX5_own_101 : decode cX5_own 101 = .ok (.iinc 4 1, 3) := by decide +kernel
theorem dX5_own_104 : decode cX5_own 104 = .ok (.goto (-42), 3) := by decide +kernel
theorem dX5_own_107 : decode cX5_own 107 = .ok (.iload_n 3, 1) := by decide +kernel
theorem dX5_own_108 : decode cX5_own 108 = .ok (.ireturn, 1) := by decide +kernel
theorem dX5_fits_0 : decode cX5_fits 0 = .ok (.iconst 0, 1) := by decide +kernel
theorem dX5_fits_1 : decode cX5_fits 1 = .ok (.istore_n 2, 1) := by decide +kernel
theorem dX5_fits_2 : decode cX5_fits 2 = .ok (.iload_n 2, 1) := by decide +kernel
theorem dX5_fits_3 : decode cX5_fits 3 = .ok (.aload_n 0, 1) := by decide +kernel
theorem dX5_fits_4 : decode cX5_fits 4 = .ok (.getfield 9, 3) := by decide +kernel
theorem dX5_fits_7 : decode cX5_fits 7 = .ok (.iconst 2, 1) := by decide +kernel
theorem dX5_fits_8 : decode cX5_fits 8 = .ok (.iaload, 1) := by decide +kernel
theorem dX5_fits_9 : decode cX5_fits 9 = .ok (.if_icmp .ge 28, 3) := by decide +kernel
theorem dX5_fits_12 : decode cX5_fits 12 = .ok (.aload_n 0, 1) := by decide +kernel
theorem dX5_fits_13 : decode cX5_fits 13 = .ok (.getfield 28, 3) := by decide +kernel
theorem dX5_fits_16 : decode cX5_fits 16 = .ok (.iload_n 2, 1) := by decide +kernel
theorem dX5_fits_17 : decode cX5_fits 17 = .ok (.iload_n 1, 1) := by decide +kernel
theorem dX5_fits_18 : decode cX5_fits 18 = .ok (.iload_n 2, 1) := by decide +kernel
theorem dX5_fits_19 : decode cX5_fits 19 = .ok (.invokestatic 140, 3) := by decide +kernel
theorem dX5_fits_22 : decode cX5_fits 22 = .ok (.ifCond .eq 7, 3) := by decide +kernel
theorem dX5_fits_25 : decode cX5_fits 25 = .ok (.iconst 0, 1) := by decide +kernel
theorem dX5_fits_26 : decode cX5_fits 26 = .ok (.goto 4, 3) := by decide +kernel
theorem dX5_fits_29 : decode cX5_fits 29 = .ok (.iconst 1, 1) := by decide +kernel
theorem dX5_fits_30 : decode cX5_fits 30 = .ok (.iastore, 1) := by decide +kernel
theorem dX5_fits_31 : decode cX5_fits 31 = .ok (.iinc 2 1, 3) := by decide +kernel
theorem dX5_fits_34 : decode cX5_fits 34 = .ok (.goto (-32), 3) := by decide +kernel
theorem dX5_fits_37 : decode cX5_fits 37 = .ok (.iconst 1, 1) := by decide +kernel
theorem dX5_fits_38 : decode cX5_fits 38 = .ok (.istore_n 2, 1) := by decide +kernel
theorem dX5_fits_39 : decode cX5_fits 39 = .ok (.iconst 0, 1) := by decide +kernel
theorem dX5_fits_40 : decode cX5_fits 40 = .ok (.istore_n 3, 1) := by decide +kernel
theorem dX5_fits_41 : decode cX5_fits 41 = .ok (.iload_n 3, 1) := by decide +kernel
theorem dX5_fits_42 : decode cX5_fits 42 = .ok (.aload_n 0, 1) := by decide +kernel
theorem dX5_fits_43 : decode cX5_fits 43 = .ok (.getfield 9, 3) := by decide +kernel
theorem dX5_fits_46 : decode cX5_fits 46 = .ok (.iconst 2, 1) := by decide +kernel
theorem dX5_fits_47 : decode cX5_fits 47 = .ok (.iaload, 1) := by decide +kernel
theorem dX5_fits_48 : decode cX5_fits 48 = .ok (.if_icmp .ge 34, 3) := by decide +kernel
theorem dX5_fits_51 : decode cX5_fits 51 = .ok (.iload_n 2, 1) := by decide +kernel
theorem dX5_fits_52 : decode cX5_fits 52 = .ok (.ifCond .eq 22, 3) := by decide +kernel
theorem dX5_fits_55 : decode cX5_fits 55 = .ok (.aload_n 0, 1) := by decide +kernel
theorem dX5_fits_56 : decode cX5_fits 56 = .ok (.iload_n 3, 1) := by decide +kernel
theorem dX5_fits_57 : decode cX5_fits 57 = .ok (.invokevirtual 150, 3) := by decide +kernel
theorem dX5_fits_60 : decode cX5_fits 60 = .ok (.aload_n 0, 1) := by decide +kernel
theorem dX5_fits_61 : decode cX5_fits 61 = .ok (.iload_n 3, 1) := by decide +kernel
theorem dX5_fits_62 : decode cX5_fits 62 = .ok (.bipush 7, 2) := by decide +kernel
theorem dX5_fits_64 : decode cX5_fits 64 = .ok (.invokevirtual 120, 3) := by decide +kernel
theorem dX5_fits_67 : decode cX5_fits 67 = .ok (.if_icmp .ne 7, 3) := by decide +kernel
theorem dX5_fits_70 : decode cX5_fits 70 = .ok (.iconst 1, 1) := by decide +kernel
theorem dX5_fits_71 : decode cX5_fits 71 = .ok (.goto 4, 3) := by decide +kernel
theorem dX5_fits_74 : decode cX5_fits 74 = .ok (.iconst 0, 1) := by decide +kernel
theorem dX5_fits_75 : decode cX5_fits 75 = .ok (.istore_n 2, 1) := by decide +kernel
theorem dX5_fits_76 : decode cX5_fits 76 = .ok (.iinc 3 1, 3) := by decide +kernel
theorem dX5_fits_79 : decode cX5_fits 79 = .ok (.goto (-38), 3) := by decide +kernel
theorem dX5_fits_82 : decode cX5_fits 82 = .ok (.iload_n 2, 1) := by decide +kernel
theorem dX5_fits_83 : decode cX5_fits 83 = .ok (.ireturn, 1) := by decide +kernel
theorem dX5_findCulprits_0 : decode cX5_findCulprits 0 = .ok (.iconst 0, 1) := by decide +kernel
theorem dX5_findCulprits_1 : decode cX5_findCulprits 1 = .ok (.istore_n 1, 1) := by decide +kernel
theorem dX5_findCulprits_2 : decode cX5_findCulprits 2 = .ok (.aload_n 0, 1) := by decide +kernel
theorem dX5_findCulprits_3 : decode cX5_findCulprits 3 = .ok (.iconst (-1), 1) := by decide +kernel
theorem dX5_findCulprits_4 : decode cX5_findCulprits 4 = .ok (.putfield 238, 3) := by decide +kernel
theorem dX5_findCulprits_7 : decode cX5_findCulprits 7 = .ok (.aload_n 0, 1) := by decide +kernel
theorem dX5_findCulprits_8 : decode cX5_findCulprits 8 = .ok (.iconst 0, 1) := by decide +kernel
theorem dX5_findCulprits_9 : decode cX5_findCulprits 9 = .ok (.putfield 241, 3) := by decide +kernel
theorem dX5_findCulprits_12 : decode cX5_findCulprits 12 = .ok (.aload_n 0, 1) := by decide +kernel
theorem dX5_findCulprits_13 : decode cX5_findCulprits 13 = .ok (.iconst (-1), 1) := by decide +kernel
theorem dX5_findCulprits_14 : decode cX5_findCulprits 14 = .ok (.putfield 244, 3) := by decide +kernel
theorem dX5_findCulprits_17 : decode cX5_findCulprits 17 = .ok (.iconst 0, 1) := by decide +kernel
theorem dX5_findCulprits_18 : decode cX5_findCulprits 18 = .ok (.istore_n 2, 1) := by decide +kernel
theorem dX5_findCulprits_19 : decode cX5_findCulprits 19 = .ok (.iload_n 2, 1) := by decide +kernel
theorem dX5_findCulprits_20 : decode cX5_findCulprits 20 = .ok (.iconst 1, 1) := by decide +kernel
theorem dX5_findCulprits_21 : decode cX5_findCulprits 21 = .ok (.aload_n 0, 1) := by decide +kernel
theorem dX5_findCulprits_22 : decode cX5_findCulprits 22 = .ok (.getfield 9, 3) := by decide +kernel
theorem dX5_findCulprits_25 : decode cX5_findCulprits 25 = .ok (.iconst 2, 1) := by decide +kernel
theorem dX5_findCulprits_26 : decode cX5_findCulprits 26 = .ok (.iaload, 1) := by decide +kernel
theorem dX5_findCulprits_27 : decode cX5_findCulprits 27 = .ok (.ishl, 1) := by decide +kernel
theorem dX5_findCulprits_28 : decode cX5_findCulprits 28 = .ok (.if_icmp .ge 59, 3) := by decide +kernel
theorem dX5_findCulprits_31 : decode cX5_findCulprits 31 = .ok (.aload_n 0, 1) := by decide +kernel
theorem dX5_findCulprits_32 : decode cX5_findCulprits 32 = .ok (.iload_n 2, 1) := by decide +kernel
theorem dX5_findCulprits_33 : decode cX5_findCulprits 33 = .ok (.invokevirtual 247, 3) := by decide +kernel
theorem dX5_findCulprits_36 : decode cX5_findCulprits 36 = .ok (.ifCond .eq 45, 3) := by decide +kernel
theorem dX5_findCulprits_39 : decode cX5_findCulprits 39 = .ok (.iinc 1 1, 3) := by decide +kernel
theorem dX5_findCulprits_42 : decode cX5_findCulprits 42 = .ok (.aload_n 0, 1) := by decide +kernel
theorem dX5_findCulprits_43 : decode cX5_findCulprits 43 = .ok (.dup, 1) := by decide +kernel
theorem dX5_findCulprits_44 : decode cX5_findCulprits 44 = .ok (.getfield 238, 3) := by decide +kernel
theorem dX5_findCulprits_47 : decode cX5_findCulprits 47 = .ok (.iload_n 2, 1) := by decide +kernel
theorem dX5_findCulprits_48 : decode cX5_findCulprits 48 = .ok (.iand, 1) := by decide +kernel
theorem dX5_findCulprits_49 : decode cX5_findCulprits 49 = .ok (.putfield 238, 3) := by decide +kernel
theorem dX5_findCulprits_52 : decode cX5_findCulprits 52 = .ok (.aload_n 0, 1) := by decide +kernel
theorem dX5_findCulprits_53 : decode cX5_findCulprits 53 = .ok (.dup, 1) := by decide +kernel
theorem dX5_findCulprits_54 : decode cX5_findCulprits 54 = .ok (.getfield 241, 3) := by decide +kernel
theorem dX5_findCulprits_57 : decode cX5_findCulprits 57 = .ok (.iload_n 2, 1) := by decide +kernel
theorem dX5_findCulprits_58 : decode cX5_findCulprits 58 = .ok (.ior, 1) := by decide +kernel
theorem dX5_findCulprits_59 : decode cX5_findCulprits 59 = .ok (.putfield 241, 3) := by decide +kernel
theorem dX5_findCulprits_62 : decode cX5_findCulprits 62 = .ok (.aload_n 0, 1) := by decide +kernel
theorem dX5_findCulprits_63 : decode cX5_findCulprits 63 = .ok (.aload_n 0, 1) := by decide +kernel
theorem dX5_findCulprits_64 : decode cX5_findCulprits 64 = .ok (.getfield 244, 3) := by decide +kernel
theorem dX5_findCulprits_67 : decode cX5_findCulprits 67 = .ok (.ifCond .ge 7, 3) := by decide +kernel
theorem dX5_findCulprits_70 : decode cX5_findCulprits 70 = .ok (.iload_n 2, 1) := by decide +kernel
theorem dX5_findCulprits_71 : decode cX5_findCulprits 71 = .ok (.goto 7, 3) := by decide +kernel
theorem dX5_findCulprits_74 : decode cX5_findCulprits 74 = .ok (.aload_n 0, 1) := by decide +kernel
theorem dX5_findCulprits_75 : decode cX5_findCulprits 75 = .ok (.getfield 244, 3) := by decide +kernel
theorem dX5_findCulprits_78 : decode cX5_findCulprits 78 = .ok (.putfield 244, 3) := by decide +kernel
theorem dX5_findCulprits_81 : decode cX5_findCulprits 81 = .ok (.iinc 2 1, 3) := by decide +kernel
theorem dX5_findCulprits_84 : decode cX5_findCulprits 84 = .ok (.goto (-65), 3) := by decide +kernel
theorem dX5_findCulprits_87 : decode cX5_findCulprits 87 = .ok (.iload_n 1, 1) := by decide +kernel
theorem dX5_findCulprits_88 : decode cX5_findCulprits 88 = .ok (.ireturn, 1) := by decide +kernel
theorem dX5_culprits_0 : decode cX5_culprits 0 = .ok (.aload_n 0, 1) := by decide +kernel
theorem dX5_culprits_1 : decode cX5_culprits 1 = .ok (.invokevirtual 250, 3) := by decide +kernel
theorem dX5_culprits_4 : decode cX5_culprits 4 = .ok (.ireturn, 1) := by decide +kernel
theorem dX5_surely_0 : decode cX5_surely 0 = .ok (.iload_n 1, 1) := by decide +kernel
theorem dX5_surely_1 : decode cX5_surely 1 = .ok (.iconst 0, 1) := by decide +kernel
theorem dX5_surely_2 : decode cX5_surely 2 = .ok (.iconst 2, 1) := by decide +kernel
theorem dX5_surely_3 : decode cX5_surely 3 = .ok (.invokestatic 97, 3) := by decide +kernel
theorem dX5_surely_6 : decode cX5_surely 6 = .ok (.ifCond .ne 10, 3) := by decide +kernel
theorem dX5_surely_9 : decode cX5_surely 9 = .ok (.aload_n 0, 1) := by decide +kernel
theorem dX5_surely_10 : decode cX5_surely 10 = .ok (.ldc 92, 2) := by decide +kernel
theorem dX5_surely_12 : decode cX5_surely 12 = .ok (.invokevirtual 109, 3) := by decide +kernel
theorem dX5_surely_15 : decode cX5_surely 15 = .ok (.ireturn, 1) := by decide +kernel
theorem dX5_surely_16 : decode cX5_surely 16 = .ok (.aload_n 0, 1) := by decide +kernel
theorem dX5_surely_17 : decode cX5_surely 17 = .ok (.invokevirtual 250, 3) := by decide +kernel
theorem dX5_surely_20 : decode cX5_surely 20 = .ok (.ifCond .ne 10, 3) := by decide +kernel
theorem dX5_surely_23 : decode cX5_surely 23 = .ok (.aload_n 0, 1) := by decide +kernel
theorem dX5_surely_24 : decode cX5_surely 24 = .ok (.ldc 186, 2) := by decide +kernel
theorem dX5_surely_26 : decode cX5_surely 26 = .ok (.invokevirtual 109, 3) := by decide +kernel
theorem dX5_surely_29 : decode cX5_surely 29 = .ok (.ireturn, 1) := by decide +kernel
theorem dX5_surely_30 : decode cX5_surely 30 = .ok (.iload_n 1, 1) := by decide +kernel
theorem dX5_surely_31 : decode cX5_surely 31 = .ok (.ifCond .ne 10, 3) := by decide +kernel
theorem dX5_surely_34 : decode cX5_surely 34 = .ok (.aload_n 0, 1) := by decide +kernel
theorem dX5_surely_35 : decode cX5_surely 35 = .ok (.getfield 238, 3) := by decide +kernel
theorem dX5_surely_38 : decode cX5_surely 38 = .ok (.goto 19, 3) := by decide +kernel
theorem dX5_surely_41 : decode cX5_surely 41 = .ok (.iload_n 1, 1) := by decide +kernel
theorem dX5_surely_42 : decode cX5_surely 42 = .ok (.iconst 1, 1) := by decide +kernel
theorem dX5_surely_43 : decode cX5_surely 43 = .ok (.if_icmp .ne 10, 3) := by decide +kernel
theorem dX5_surely_46 : decode cX5_surely 46 = .ok (.aload_n 0, 1) := by decide +kernel
theorem dX5_surely_47 : decode cX5_surely 47 = .ok (.getfield 241, 3) := by decide +kernel
theorem dX5_surely_50 : decode cX5_surely 50 = .ok (.goto 7, 3) := by decide +kernel
theorem dX5_surely_53 : decode cX5_surely 53 = .ok (.aload_n 0, 1) := by decide +kernel
theorem dX5_surely_54 : decode cX5_surely 54 = .ok (.getfield 244, 3) := by decide +kernel
theorem dX5_surely_57 : decode cX5_surely 57 = .ok (.ireturn, 1) := by decide +kernel
theorem dX5_drawn_0 : decode cX5_drawn 0 = .ok (.aload_n 0, 1) := by decide +kernel
theorem dX5_drawn_1 : decode cX5_drawn 1 = .ok (.getfield 9, 3) := by decide +kernel
theorem dX5_drawn_4 : decode cX5_drawn 4 = .ok (.iconst 3, 1) := by decide +kernel
theorem dX5_drawn_5 : decode cX5_drawn 5 = .ok (.aload_n 0, 1) := by decide +kernel
theorem dX5_drawn_6 : decode cX5_drawn 6 = .ok (.getfield 9, 3) := by decide +kernel
theorem dX5_drawn_9 : decode cX5_drawn 9 = .ok (.iconst 3, 1) := by decide +kernel
theorem dX5_drawn_10 : decode cX5_drawn 10 = .ok (.iaload, 1) := by decide +kernel
theorem dX5_drawn_11 : decode cX5_drawn 11 = .ok (.ldc 253, 2) := by decide +kernel
theorem dX5_drawn_13 : decode cX5_drawn 13 = .ok (.imul, 1) := by decide +kernel
theorem dX5_drawn_14 : decode cX5_drawn 14 = .ok (.sipush 12345, 3) := by decide +kernel
theorem dX5_drawn_17 : decode cX5_drawn 17 = .ok (.iadd, 1) := by decide +kernel
theorem dX5_drawn_18 : decode cX5_drawn 18 = .ok (.iastore, 1) := by decide +kernel
theorem dX5_drawn_19 : decode cX5_drawn 19 = .ok (.aload_n 0, 1) := by decide +kernel
theorem dX5_drawn_20 : decode cX5_drawn 20 = .ok (.getfield 9, 3) := by decide +kernel
theorem dX5_drawn_23 : decode cX5_drawn 23 = .ok (.iconst 3, 1) := by decide +kernel
theorem dX5_drawn_24 : decode cX5_drawn 24 = .ok (.iaload, 1) := by decide +kernel
theorem dX5_drawn_25 : decode cX5_drawn 25 = .ok (.bipush 8, 2) := by decide +kernel
theorem dX5_drawn_27 : decode cX5_drawn 27 = .ok (.iushr, 1) := by decide +kernel
theorem dX5_drawn_28 : decode cX5_drawn 28 = .ok (.iload_n 1, 1) := by decide +kernel
theorem dX5_drawn_29 : decode cX5_drawn 29 = .ok (.irem, 1) := by decide +kernel
theorem dX5_drawn_30 : decode cX5_drawn 30 = .ok (.ireturn, 1) := by decide +kernel
theorem dX5_aways_0 : decode cX5_aways 0 = .ok (.iconst 0, 1) := by decide +kernel
theorem dX5_aways_1 : decode cX5_aways 1 = .ok (.istore_n 1, 1) := by decide +kernel
theorem dX5_aways_2 : decode cX5_aways 2 = .ok (.iconst 0, 1) := by decide +kernel
theorem dX5_aways_3 : decode cX5_aways 3 = .ok (.istore_n 2, 1) := by decide +kernel
theorem dX5_aways_4 : decode cX5_aways 4 = .ok (.iload_n 2, 1) := by decide +kernel
theorem dX5_aways_5 : decode cX5_aways 5 = .ok (.aload_n 0, 1) := by decide +kernel
theorem dX5_aways_6 : decode cX5_aways 6 = .ok (.getfield 9, 3) := by decide +kernel
theorem dX5_aways_9 : decode cX5_aways 9 = .ok (.iconst 2, 1) := by decide +kernel
theorem dX5_aways_10 : decode cX5_aways 10 = .ok (.iaload, 1) := by decide +kernel
theorem dX5_aways_11 : decode cX5_aways 11 = .ok (.if_icmp .ge 20, 3) := by decide +kernel
theorem dX5_aways_14 : decode cX5_aways 14 = .ok (.iload_n 1, 1) := by decide +kernel
theorem dX5_aways_15 : decode cX5_aways 15 = .ok (.aload_n 0, 1) := by decide +kernel
theorem dX5_aways_16 : decode cX5_aways 16 = .ok (.iload_n 2, 1) := by decide +kernel
theorem dX5_aways_17 : decode cX5_aways 17 = .ok (.iconst 5, 1) := by decide +kernel
theorem dX5_aways_18 : decode cX5_aways 18 = .ok (.invokevirtual 120, 3) := by decide +kernel
theorem dX5_aways_21 : decode cX5_aways 21 = .ok (.iload_n 2, 1) := by decide +kernel
theorem dX5_aways_22 : decode cX5_aways 22 = .ok (.ishl, 1) := by decide +kernel
theorem dX5_aways_23 : decode cX5_aways 23 = .ok (.ior, 1) := by decide +kernel
theorem dX5_aways_24 : decode cX5_aways 24 = .ok (.istore_n 1, 1) := by decide +kernel
theorem dX5_aways_25 : decode cX5_aways 25 = .ok (.iinc 2 1, 3) := by decide +kernel
theorem dX5_aways_28 : decode cX5_aways 28 = .ok (.goto (-24), 3) := by decide +kernel
theorem dX5_aways_31 : decode cX5_aways 31 = .ok (.iload_n 1, 1) := by decide +kernel
theorem dX5_aways_32 : decode cX5_aways 32 = .ok (.ireturn, 1) := by decide +kernel
theorem dX5_travel_0 : decode cX5_travel 0 = .ok (.iload_n 1, 1) := by decide +kernel
theorem dX5_travel_1 : decode cX5_travel 1 = .ok (.iconst 1, 1) := by decide +kernel
theorem dX5_travel_2 : decode cX5_travel 2 = .ok (.bipush 12, 2) := by decide +kernel
theorem dX5_travel_4 : decode cX5_travel 4 = .ok (.invokestatic 97, 3) := by decide +kernel
theorem dX5_travel_7 : decode cX5_travel 7 = .ok (.ifCond .ne 10, 3) := by decide +kernel
theorem dX5_travel_10 : decode cX5_travel 10 = .ok (.aload_n 0, 1) := by decide +kernel
theorem dX5_travel_11 : decode cX5_travel 11 = .ok (.ldc 92, 2) := by decide +kernel
theorem dX5_travel_13 : decode cX5_travel 13 = .ok (.invokevirtual 109, 3) := by decide +kernel
theorem dX5_travel_16 : decode cX5_travel 16 = .ok (.ireturn, 1) := by decide +kernel
theorem dX5_travel_17 : decode cX5_travel 17 = .ok (.aload_n 0, 1) := by decide +kernel
theorem dX5_travel_18 : decode cX5_travel 18 = .ok (.getfield 9, 3) := by decide +kernel
theorem dX5_travel_21 : decode cX5_travel 21 = .ok (.iconst 2, 1) := by decide +kernel
theorem dX5_travel_22 : decode cX5_travel 22 = .ok (.iaload, 1) := by decide +kernel
theorem dX5_travel_23 : decode cX5_travel 23 = .ok (.ifCond .ne 10, 3) := by decide +kernel
theorem dX5_travel_26 : decode cX5_travel 26 = .ok (.aload_n 0, 1) := by decide +kernel
theorem dX5_travel_27 : decode cX5_travel 27 = .ok (.ldc 163, 2) := by decide +kernel
theorem dX5_travel_29 : decode cX5_travel 29 = .ok (.invokevirtual 109, 3) := by decide +kernel
theorem dX5_travel_32 : decode cX5_travel 32 = .ok (.ireturn, 1) := by decide +kernel
theorem dX5_travel_33 : decode cX5_travel 33 = .ok (.iconst 0, 1) := by decide +kernel
theorem dX5_travel_34 : decode cX5_travel 34 = .ok (.istore_n 2, 1) := by decide +kernel
theorem dX5_travel_35 : decode cX5_travel 35 = .ok (.iload_n 2, 1) := by decide +kernel
theorem dX5_travel_36 : decode cX5_travel 36 = .ok (.iload_n 1, 1) := by decide +kernel
theorem dX5_travel_37 : decode cX5_travel 37 = .ok (.if_icmp .ge 38, 3) := by decide +kernel
theorem dX5_travel_40 : decode cX5_travel 40 = .ok (.aload_n 0, 1) := by decide +kernel
theorem dX5_travel_41 : decode cX5_travel 41 = .ok (.aload_n 0, 1) := by decide +kernel
theorem dX5_travel_42 : decode cX5_travel 42 = .ok (.getfield 9, 3) := by decide +kernel
theorem dX5_travel_45 : decode cX5_travel 45 = .ok (.iconst 2, 1) := by decide +kernel
theorem dX5_travel_46 : decode cX5_travel 46 = .ok (.iaload, 1) := by decide +kernel
theorem dX5_travel_47 : decode cX5_travel 47 = .ok (.invokevirtual 254, 3) := by decide +kernel
theorem dX5_travel_50 : decode cX5_travel 50 = .ok (.istore_n 3, 1) := by decide +kernel
theorem dX5_travel_51 : decode cX5_travel 51 = .ok (.aload_n 0, 1) := by decide +kernel
theorem dX5_travel_52 : decode cX5_travel 52 = .ok (.getfield 9, 3) := by decide +kernel
theorem dX5_travel_55 : decode cX5_travel 55 = .ok (.iload_n 3, 1) := by decide +kernel
theorem dX5_travel_56 : decode cX5_travel 56 = .ok (.iconst 5, 1) := by decide +kernel
theorem dX5_travel_57 : decode cX5_travel 57 = .ok (.invokestatic 101, 3) := by decide +kernel
theorem dX5_travel_60 : decode cX5_travel 60 = .ok (.iconst 1, 1) := by decide +kernel
theorem dX5_travel_61 : decode cX5_travel 61 = .ok (.aload_n 0, 1) := by decide +kernel
theorem dX5_travel_62 : decode cX5_travel 62 = .ok (.iload_n 3, 1) := by decide +kernel
theorem dX5_travel_63 : decode cX5_travel 63 = .ok (.iconst 5, 1) := by decide +kernel
theorem dX5_travel_64 : decode cX5_travel 64 = .ok (.invokevirtual 120, 3) := by decide +kernel
theorem dX5_travel_67 : decode cX5_travel 67 = .ok (.isub, 1) := by decide +kernel
theorem dX5_travel_68 : decode cX5_travel 68 = .ok (.iastore, 1) := by decide +kernel
theorem dX5_travel_69 : decode cX5_travel 69 = .ok (.iinc 2 1, 3) := by decide +kernel
theorem dX5_travel_72 : decode cX5_travel 72 = .ok (.goto (-37), 3) := by decide +kernel
theorem dX5_travel_75 : decode cX5_travel 75 = .ok (.aload_n 0, 1) := by decide +kernel
theorem dX5_travel_76 : decode cX5_travel 76 = .ok (.invokevirtual 257, 3) := by decide +kernel
theorem dX5_travel_79 : decode cX5_travel 79 = .ok (.ireturn, 1) := by decide +kernel
theorem dX5_seed_0 : decode cX5_seed 0 = .ok (.aload_n 0, 1) := by decide +kernel
theorem dX5_seed_1 : decode cX5_seed 1 = .ok (.iconst 3, 1) := by decide +kernel
theorem dX5_seed_2 : decode cX5_seed 2 = .ok (.iload_n 1, 1) := by decide +kernel
theorem dX5_seed_3 : decode cX5_seed 3 = .ok (.invokevirtual 134, 3) := by decide +kernel
theorem dX5_seed_6 : decode cX5_seed 6 = .ok (.ireturn, 1) := by decide +kernel
theorem dX5_feed_0 : decode cX5_feed 0 = .ok (.iload_n 2, 1) := by decide +kernel
theorem dX5_feed_1 : decode cX5_feed 1 = .ok (.iconst 1, 1) := by decide +kernel
theorem dX5_feed_2 : decode cX5_feed 2 = .ok (.iconst 4, 1) := by decide +kernel
theorem dX5_feed_3 : decode cX5_feed 3 = .ok (.invokestatic 97, 3) := by decide +kernel
theorem dX5_feed_6 : decode cX5_feed 6 = .ok (.ifCond .ne 10, 3) := by decide +kernel
theorem dX5_feed_9 : decode cX5_feed 9 = .ok (.aload_n 0, 1) := by decide +kernel
theorem dX5_feed_10 : decode cX5_feed 10 = .ok (.ldc 92, 2) := by decide +kernel
theorem dX5_feed_12 : decode cX5_feed 12 = .ok (.invokevirtual 109, 3) := by decide +kernel
theorem dX5_feed_15 : decode cX5_feed 15 = .ok (.ireturn, 1) := by decide +kernel
theorem dX5_feed_16 : decode cX5_feed 16 = .ok (.aload_n 0, 1) := by decide +kernel
theorem dX5_feed_17 : decode cX5_feed 17 = .ok (.getfield 260, 3) := by decide +kernel
theorem dX5_feed_20 : decode cX5_feed 20 = .ok (.iload_n 2, 1) := by decide +kernel
theorem dX5_feed_21 : decode cX5_feed 21 = .ok (.iadd, 1) := by decide +kernel
theorem dX5_feed_22 : decode cX5_feed 22 = .ok (.bipush 120, 2) := by decide +kernel
theorem dX5_feed_24 : decode cX5_feed 24 = .ok (.if_icmp .le 10, 3) := by decide +kernel
theorem dX5_feed_27 : decode cX5_feed 27 = .ok (.aload_n 0, 1) := by decide +kernel
theorem dX5_feed_28 : decode cX5_feed 28 = .ok (.ldc 113, 2) := by decide +kernel
theorem dX5_feed_30 : decode cX5_feed 30 = .ok (.invokevirtual 109, 3) := by decide +kernel
theorem dX5_feed_33 : decode cX5_feed 33 = .ok (.ireturn, 1) := by decide +kernel
theorem dX5_feed_34 : decode cX5_feed 34 = .ok (.iload_n 2, 1) := by decide +kernel
theorem dX5_feed_35 : decode cX5_feed 35 = .ok (.iconst 1, 1) := by decide +kernel
theorem dX5_feed_36 : decode cX5_feed 36 = .ok (.isub, 1) := by decide +kernel
theorem dX5_feed_37 : decode cX5_feed 37 = .ok (.istore_n 3, 1) := by decide +kernel
theorem dX5_feed_38 : decode cX5_feed 38 = .ok (.iload_n 3, 1) := by decide +kernel
theorem dX5_feed_39 : decode cX5_feed 39 = .ok (.ifCond .lt 38, 3) := by decide +kernel
theorem dX5_feed_42 : decode cX5_feed 42 = .ok (.aload_n 0, 1) := by decide +kernel
theorem dX5_feed_43 : decode cX5_feed 43 = .ok (.getfield 43, 3) := by decide +kernel
theorem dX5_feed_46 : decode cX5_feed 46 = .ok (.aload_n 0, 1) := by decide +kernel
theorem dX5_feed_47 : decode cX5_feed 47 = .ok (.getfield 260, 3) := by decide +kernel
theorem dX5_feed_50 : decode cX5_feed 50 = .ok (.iload_n 1, 1) := by decide +kernel
theorem dX5_feed_51 : decode cX5_feed 51 = .ok (.bipush 8, 2) := by decide +kernel
theorem dX5_feed_53 : decode cX5_feed 53 = .ok (.iload_n 3, 1) := by decide +kernel
theorem dX5_feed_54 : decode cX5_feed 54 = .ok (.imul, 1) := by decide +kernel
theorem dX5_feed_55 : decode cX5_feed 55 = .ok (.ishr, 1) := by decide +kernel
theorem dX5_feed_56 : decode cX5_feed 56 = .ok (.sipush 255, 3) := by decide +kernel
theorem dX5_feed_59 : decode cX5_feed 59 = .ok (.iand, 1) := by decide +kernel
theorem dX5_feed_60 : decode cX5_feed 60 = .ok (.iastore, 1) := by decide +kernel
theorem dX5_feed_61 : decode cX5_feed 61 = .ok (.aload_n 0, 1) := by decide +kernel
theorem dX5_feed_62 : decode cX5_feed 62 = .ok (.dup, 1) := by decide +kernel
theorem dX5_feed_63 : decode cX5_feed 63 = .ok (.getfield 260, 3) := by decide +kernel
theorem dX5_feed_66 : decode cX5_feed 66 = .ok (.iconst 1, 1) := by decide +kernel
theorem dX5_feed_67 : decode cX5_feed 67 = .ok (.iadd, 1) := by decide +kernel
theorem dX5_feed_68 : decode cX5_feed 68 = .ok (.putfield 260, 3) := by decide +kernel
theorem dX5_feed_71 : decode cX5_feed 71 = .ok (.iinc 3 (-1), 3) := by decide +kernel
theorem dX5_feed_74 : decode cX5_feed 74 = .ok (.goto (-36), 3) := by decide +kernel
theorem dX5_feed_77 : decode cX5_feed 77 = .ok (.aload_n 0, 1) := by decide +kernel
theorem dX5_feed_78 : decode cX5_feed 78 = .ok (.getfield 260, 3) := by decide +kernel
theorem dX5_feed_81 : decode cX5_feed 81 = .ok (.ireturn, 1) := by decide +kernel
theorem dX5_wipe_0 : decode cX5_wipe 0 = .ok (.aload_n 0, 1) := by decide +kernel
theorem dX5_wipe_1 : decode cX5_wipe 1 = .ok (.getfield 260, 3) := by decide +kernel
theorem dX5_wipe_4 : decode cX5_wipe 4 = .ok (.istore_n 1, 1) := by decide +kernel
theorem dX5_wipe_5 : decode cX5_wipe 5 = .ok (.aload_n 0, 1) := by decide +kernel
theorem dX5_wipe_6 : decode cX5_wipe 6 = .ok (.iconst 0, 1) := by decide +kernel
theorem dX5_wipe_7 : decode cX5_wipe 7 = .ok (.putfield 260, 3) := by decide +kernel
theorem dX5_wipe_10 : decode cX5_wipe 10 = .ok (.iload_n 1, 1) := by decide +kernel
theorem dX5_wipe_11 : decode cX5_wipe 11 = .ok (.ireturn, 1) := by decide +kernel
theorem dX5_byteAt_0 : decode cX5_byteAt 0 = .ok (.iload_n 1, 1) := by decide +kernel
theorem dX5_byteAt_1 : decode cX5_byteAt 1 = .ok (.aload_n 0, 1) := by decide +kernel
theorem dX5_byteAt_2 : decode cX5_byteAt 2 = .ok (.getfield 260, 3) := by decide +kernel
theorem dX5_byteAt_5 : decode cX5_byteAt 5 = .ok (.if_icmp .ge 12, 3) := by decide +kernel
theorem dX5_byteAt_8 : decode cX5_byteAt 8 = .ok (.aload_n 0, 1) := by decide +kernel
theorem dX5_byteAt_9 : decode cX5_byteAt 9 = .ok (.getfield 43, 3) := by decide +kernel
theorem dX5_byteAt_12 : decode cX5_byteAt 12 = .ok (.iload_n 1, 1) := by decide +kernel
theorem dX5_byteAt_13 : decode cX5_byteAt 13 = .ok (.iaload, 1) := by decide +kernel
theorem dX5_byteAt_14 : decode cX5_byteAt 14 = .ok (.goto 4, 3) := by decide +kernel
theorem dX5_byteAt_17 : decode cX5_byteAt 17 = .ok (.iconst (-1), 1) := by decide +kernel
theorem dX5_byteAt_18 : decode cX5_byteAt 18 = .ok (.ireturn, 1) := by decide +kernel
theorem dX5_next_0 : decode cX5_next 0 = .ok (.aload_n 0, 1) := by decide +kernel
theorem dX5_next_1 : decode cX5_next 1 = .ok (.aload_n 0, 1) := by decide +kernel
theorem dX5_next_2 : decode cX5_next 2 = .ok (.getfield 263, 3) := by decide +kernel
theorem dX5_next_5 : decode cX5_next 5 = .ok (.putfield 266, 3) := by decide +kernel
theorem dX5_next_8 : decode cX5_next 8 = .ok (.aload_n 0, 1) := by decide +kernel
theorem dX5_next_9 : decode cX5_next 9 = .ok (.aload_n 0, 1) := by decide +kernel
theorem dX5_next_10 : decode cX5_next 10 = .ok (.getfield 266, 3) := by decide +kernel
theorem dX5_next_13 : decode cX5_next 13 = .ok (.invokevirtual 269, 3) := by decide +kernel
theorem dX5_next_16 : decode cX5_next 16 = .ok (.bipush 32, 2) := by decide +kernel
theorem dX5_next_18 : decode cX5_next 18 = .ok (.if_icmp .ne 16, 3) := by decide +kernel
theorem dX5_next_21 : decode cX5_next 21 = .ok (.aload_n 0, 1) := by decide +kernel
theorem dX5_next_22 : decode cX5_next 22 = .ok (.dup, 1) := by decide +kernel
theorem dX5_next_23 : decode cX5_next 23 = .ok (.getfield 266, 3) := by decide +kernel
theorem dX5_next_26 : decode cX5_next 26 = .ok (.iconst 1, 1) := by decide +kernel
theorem dX5_next_27 : decode cX5_next 27 = .ok (.iadd, 1) := by decide +kernel
theorem dX5_next_28 : decode cX5_next 28 = .ok (.putfield 266, 3) := by decide +kernel
theorem dX5_next_31 : decode cX5_next 31 = .ok (.goto (-23), 3) := by decide +kernel
theorem dX5_next_34 : decode cX5_next 34 = .ok (.aload_n 0, 1) := by decide +kernel
theorem dX5_next_35 : decode cX5_next 35 = .ok (.aload_n 0, 1) := by decide +kernel
theorem dX5_next_36 : decode cX5_next 36 = .ok (.getfield 266, 3) := by decide +kernel
theorem dX5_next_39 : decode cX5_next 39 = .ok (.invokevirtual 269, 3) := by decide +kernel
theorem dX5_next_42 : decode cX5_next 42 = .ok (.istore_n 1, 1) := by decide +kernel
theorem dX5_next_43 : decode cX5_next 43 = .ok (.aload_n 0, 1) := by decide +kernel
theorem dX5_next_44 : decode cX5_next 44 = .ok (.aload_n 0, 1) := by decide +kernel
theorem dX5_next_45 : decode cX5_next 45 = .ok (.getfield 266, 3) := by decide +kernel
theorem dX5_next_48 : decode cX5_next 48 = .ok (.putfield 263, 3) := by decide +kernel
theorem dX5_next_51 : decode cX5_next 51 = .ok (.aload_n 0, 1) := by decide +kernel
theorem dX5_next_52 : decode cX5_next 52 = .ok (.iconst 0, 1) := by decide +kernel
theorem dX5_next_53 : decode cX5_next 53 = .ok (.putfield 272, 3) := by decide +kernel
theorem dX5_next_56 : decode cX5_next 56 = .ok (.iload_n 1, 1) := by decide +kernel
theorem dX5_next_57 : decode cX5_next 57 = .ok (.ifCond .ge 11, 3) := by decide +kernel
theorem dX5_next_60 : decode cX5_next 60 = .ok (.aload_n 0, 1) := by decide +kernel
theorem dX5_next_61 : decode cX5_next 61 = .ok (.iconst 0, 1) := by decide +kernel
theorem dX5_next_62 : decode cX5_next 62 = .ok (.putfield 275, 3) := by decide +kernel
theorem dX5_next_65 : decode cX5_next 65 = .ok (.goto 141, 3) := by decide +kernel
theorem dX5_next_68 : decode cX5_next 68 = .ok (.iload_n 1, 1) := by decide +kernel
theorem dX5_next_69 : decode cX5_next 69 = .ok (.bipush 97, 2) := by decide +kernel
theorem dX5_next_71 : decode cX5_next 71 = .ok (.bipush 122, 2) := by decide +kernel
theorem dX5_next_73 : decode cX5_next 73 = .ok (.invokestatic 97, 3) := by decide +kernel
theorem dX5_next_76 : decode cX5_next 76 = .ok (.ifCond .eq 39, 3) := by decide +kernel
theorem dX5_next_79 : decode cX5_next 79 = .ok (.aload_n 0, 1) := by decide +kernel
theorem dX5_next_80 : decode cX5_next 80 = .ok (.iconst 1, 1) := by decide +kernel
theorem dX5_next_81 : decode cX5_next 81 = .ok (.putfield 275, 3) := by decide +kernel
theorem dX5_next_84 : decode cX5_next 84 = .ok (.aload_n 0, 1) := by decide +kernel
theorem dX5_next_85 : decode cX5_next 85 = .ok (.aload_n 0, 1) := by decide +kernel
theorem dX5_next_86 : decode cX5_next 86 = .ok (.getfield 263, 3) := by decide +kernel
theorem dX5_next_89 : decode cX5_next 89 = .ok (.invokevirtual 269, 3) := by decide +kernel
theorem dX5_next_92 : decode cX5_next 92 = .ok (.bipush 97, 2) := by decide +kernel
theorem dX5_next_94 : decode cX5_next 94 = .ok (.bipush 122, 2) := by decide +kernel
theorem dX5_next_96 : decode cX5_next 96 = .ok (.invokestatic 97, 3) := by decide +kernel
theorem dX5_next_99 : decode cX5_next 99 = .ok (.ifCond .eq 107, 3) := by decide +kernel
theorem dX5_next_102 : decode cX5_next 102 = .ok (.aload_n 0, 1) := by decide +kernel
theorem dX5_next_103 : decode cX5_next 103 = .ok (.dup, 1) := by decide +kernel
theorem dX5_next_104 : decode cX5_next 104 = .ok (.getfield 263, 3) := by decide +kernel
theorem dX5_next_107 : decode cX5_next 107 = .ok (.iconst 1, 1) := by decide +kernel
theorem dX5_next_108 : decode cX5_next 108 = .ok (.iadd, 1) := by decide +kernel
theorem dX5_next_109 : decode cX5_next 109 = .ok (.putfield 263, 3) := by decide +kernel
theorem dX5_next_112 : decode cX5_next 112 = .ok (.goto (-28), 3) := by decide +kernel
theorem dX5_next_115 : decode cX5_next 115 = .ok (.iload_n 1, 1) := by decide +kernel
theorem dX5_next_116 : decode cX5_next 116 = .ok (.bipush 48, 2) := by decide +kernel
theorem dX5_next_118 : decode cX5_next 118 = .ok (.bipush 57, 2) := by decide +kernel
theorem dX5_next_120 : decode cX5_next 120 = .ok (.invokestatic 97, 3) := by decide +kernel
theorem dX5_next_123 : decode cX5_next 123 = .ok (.ifCond .eq 68, 3) := by decide +kernel
theorem dX5_next_126 : decode cX5_next 126 = .ok (.aload_n 0, 1) := by decide +kernel
theorem dX5_next_127 : decode cX5_next 127 = .ok (.iconst 2, 1) := by decide +kernel
theorem dX5_next_128 : decode cX5_next 128 = .ok (.putfield 275, 3) := by decide +kernel
theorem dX5_next_131 : decode cX5_next 131 = .ok (.aload_n 0, 1) := by decide +kernel
theorem dX5_next_132 : decode cX5_next 132 = .ok (.aload_n 0, 1) := by decide +kernel
theorem dX5_next_133 : decode cX5_next 133 = .ok (.getfield 263, 3) := by decide +kernel
theorem dX5_next_136 : decode cX5_next 136 = .ok (.invokevirtual 269, 3) := by decide +kernel
theorem dX5_next_139 : decode cX5_next 139 = .ok (.bipush 48, 2) := by decide +kernel
theorem dX5_next_141 : decode cX5_next 141 = .ok (.bipush 57, 2) := by decide +kernel
theorem dX5_next_143 : decode cX5_next 143 = .ok (.invokestatic 97, 3) := by decide +kernel
theorem dX5_next_146 : decode cX5_next 146 = .ok (.ifCond .eq 60, 3) := by decide +kernel
theorem dX5_next_149 : decode cX5_next 149 = .ok (.aload_n 0, 1) := by decide +kernel
theorem dX5_next_150 : decode cX5_next 150 = .ok (.sipush 10000, 3) := by decide +kernel
theorem dX5_next_153 : decode cX5_next 153 = .ok (.bipush 10, 2) := by decide +kernel
theorem dX5_next_155 : decode cX5_next 155 = .ok (.aload_n 0, 1) := by decide +kernel
theorem dX5_next_156 : decode cX5_next 156 = .ok (.getfield 272, 3) := by decide +kernel
theorem dX5_next_159 : decode cX5_next 159 = .ok (.imul, 1) := by decide +kernel
theorem dX5_next_160 : decode cX5_next 160 = .ok (.aload_n 0, 1) := by decide +kernel
theorem dX5_next_161 : decode cX5_next 161 = .ok (.aload_n 0, 1) := by decide +kernel
theorem dX5_next_162 : decode cX5_next 162 = .ok (.getfield 263, 3) := by decide +kernel
theorem dX5_next_165 : decode cX5_next 165 = .ok (.invokevirtual 269, 3) := by decide +kernel
theorem dX5_next_168 : decode cX5_next 168 = .ok (.iadd, 1) := by decide +kernel
theorem dX5_next_169 : decode cX5_next 169 = .ok (.bipush 48, 2) := by decide +kernel
theorem dX5_next_171 : decode cX5_next 171 = .ok (.isub, 1) := by decide +kernel
theorem dX5_next_172 : decode cX5_next 172 = .ok (.invokestatic 123, 3) := by decide +kernel
theorem dX5_next_175 : decode cX5_next 175 = .ok (.putfield 272, 3) := by decide +kernel
theorem dX5_next_178 : decode cX5_next 178 = .ok (.aload_n 0, 1) := by decide +kernel
theorem dX5_next_179 : decode cX5_next 179 = .ok (.dup, 1) := by decide +kernel
theorem dX5_next_180 : decode cX5_next 180 = .ok (.getfield 263, 3) := by decide +kernel
theorem dX5_next_183 : decode cX5_next 183 = .ok (.iconst 1, 1) := by decide +kernel
theorem dX5_next_184 : decode cX5_next 184 = .ok (.iadd, 1) := by decide +kernel
theorem dX5_next_185 : decode cX5_next 185 = .ok (.putfield 263, 3) := by decide +kernel
theorem dX5_next_188 : decode cX5_next 188 = .ok (.goto (-57), 3) := by decide +kernel
theorem dX5_next_191 : decode cX5_next 191 = .ok (.aload_n 0, 1) := by decide +kernel
theorem dX5_next_192 : decode cX5_next 192 = .ok (.iconst 3, 1) := by decide +kernel
theorem dX5_next_193 : decode cX5_next 193 = .ok (.putfield 275, 3) := by decide +kernel
theorem dX5_next_196 : decode cX5_next 196 = .ok (.aload_n 0, 1) := by decide +kernel
theorem dX5_next_197 : decode cX5_next 197 = .ok (.dup, 1) := by decide +kernel
theorem dX5_next_198 : decode cX5_next 198 = .ok (.getfield 263, 3) := by decide +kernel
theorem dX5_next_201 : decode cX5_next 201 = .ok (.iconst 1, 1) := by decide +kernel
theorem dX5_next_202 : decode cX5_next 202 = .ok (.iadd, 1) := by decide +kernel
theorem dX5_next_203 : decode cX5_next 203 = .ok (.putfield 263, 3) := by decide +kernel
theorem dX5_next_206 : decode cX5_next 206 = .ok (.return_, 1) := by decide +kernel
theorem dX5_isWord_0 : decode cX5_isWord 0 = .ok (.aload_n 0, 1) := by decide +kernel
theorem dX5_isWord_1 : decode cX5_isWord 1 = .ok (.getfield 275, 3) := by decide +kernel
theorem dX5_isWord_4 : decode cX5_isWord 4 = .ok (.iconst 1, 1) := by decide +kernel
theorem dX5_isWord_5 : decode cX5_isWord 5 = .ok (.if_icmp .ne 23, 3) := by decide +kernel
theorem dX5_isWord_8 : decode cX5_isWord 8 = .ok (.aload_n 0, 1) := by decide +kernel
theorem dX5_isWord_9 : decode cX5_isWord 9 = .ok (.getfield 263, 3) := by decide +kernel
theorem dX5_isWord_12 : decode cX5_isWord 12 = .ok (.aload_n 0, 1) := by decide +kernel
theorem dX5_isWord_13 : decode cX5_isWord 13 = .ok (.getfield 266, 3) := by decide +kernel
theorem dX5_isWord_16 : decode cX5_isWord 16 = .ok (.isub, 1) := by decide +kernel
theorem dX5_isWord_17 : decode cX5_isWord 17 = .ok (.aload_n 1, 1) := by decide +kernel
theorem dX5_isWord_18 : decode cX5_isWord 18 = .ok (.invokevirtual 278, 3) := by decide +kernel
theorem dX5_isWord_21 : decode cX5_isWord 21 = .ok (.if_icmp .ne 7, 3) := by decide +kernel
theorem dX5_isWord_24 : decode cX5_isWord 24 = .ok (.iconst 1, 1) := by decide +kernel
theorem dX5_isWord_25 : decode cX5_isWord 25 = .ok (.goto 4, 3) := by decide +kernel
theorem dX5_isWord_28 : decode cX5_isWord 28 = .ok (.iconst 0, 1) := by decide +kernel
theorem dX5_isWord_29 : decode cX5_isWord 29 = .ok (.istore_n 2, 1) := by decide +kernel
theorem dX5_isWord_30 : decode cX5_isWord 30 = .ok (.iconst 0, 1) := by decide +kernel
theorem dX5_isWord_31 : decode cX5_isWord 31 = .ok (.istore_n 3, 1) := by decide +kernel
theorem dX5_isWord_32 : decode cX5_isWord 32 = .ok (.iload_n 3, 1) := by decide +kernel
theorem dX5_isWord_33 : decode cX5_isWord 33 = .ok (.aload_n 1, 1) := by decide +kernel
theorem dX5_isWord_34 : decode cX5_isWord 34 = .ok (.invokevirtual 278, 3) := by decide +kernel
theorem dX5_isWord_37 : decode cX5_isWord 37 = .ok (.if_icmp .ge 38, 3) := by decide +kernel
theorem dX5_isWord_40 : decode cX5_isWord 40 = .ok (.iload_n 2, 1) := by decide +kernel
theorem dX5_isWord_41 : decode cX5_isWord 41 = .ok (.ifCond .eq 34, 3) := by decide +kernel
theorem dX5_isWord_44 : decode cX5_isWord 44 = .ok (.aload_n 0, 1) := by decide +kernel
theorem dX5_isWord_45 : decode cX5_isWord 45 = .ok (.getfield 43, 3) := by decide +kernel
theorem dX5_isWord_48 : decode cX5_isWord 48 = .ok (.aload_n 0, 1) := by decide +kernel
theorem dX5_isWord_49 : decode cX5_isWord 49 = .ok (.getfield 266, 3) := by decide +kernel
theorem dX5_isWord_52 : decode cX5_isWord 52 = .ok (.iload_n 3, 1) := by decide +kernel
theorem dX5_isWord_53 : decode cX5_isWord 53 = .ok (.iadd, 1) := by decide +kernel
theorem dX5_isWord_54 : decode cX5_isWord 54 = .ok (.iaload, 1) := by decide +kernel
theorem dX5_isWord_55 : decode cX5_isWord 55 = .ok (.aload_n 1, 1) := by decide +kernel
theorem dX5_isWord_56 : decode cX5_isWord 56 = .ok (.iload_n 3, 1) := by decide +kernel
theorem dX5_isWord_57 : decode cX5_isWord 57 = .ok (.invokevirtual 281, 3) := by decide +kernel
theorem dX5_isWord_60 : decode cX5_isWord 60 = .ok (.if_icmp .ne 7, 3) := by decide +kernel
theorem dX5_isWord_63 : decode cX5_isWord 63 = .ok (.iconst 1, 1) := by decide +kernel
theorem dX5_isWord_64 : decode cX5_isWord 64 = .ok (.goto 4, 3) := by decide +kernel
theorem dX5_isWord_67 : decode cX5_isWord 67 = .ok (.iconst 0, 1) := by decide +kernel
theorem dX5_isWord_68 : decode cX5_isWord 68 = .ok (.istore_n 2, 1) := by decide +kernel
theorem dX5_isWord_69 : decode cX5_isWord 69 = .ok (.iinc 3 1, 3) := by decide +kernel
theorem dX5_isWord_72 : decode cX5_isWord 72 = .ok (.goto (-40), 3) := by decide +kernel
theorem dX5_isWord_75 : decode cX5_isWord 75 = .ok (.iload_n 2, 1) := by decide +kernel
theorem dX5_isWord_76 : decode cX5_isWord 76 = .ok (.ireturn, 1) := by decide +kernel
theorem dX5_must_0 : decode cX5_must 0 = .ok (.aload_n 0, 1) := by decide +kernel
theorem dX5_must_1 : decode cX5_must 1 = .ok (.aload_n 0, 1) := by decide +kernel
theorem dX5_must_2 : decode cX5_must 2 = .ok (.getfield 285, 3) := by decide +kernel
theorem dX5_must_5 : decode cX5_must 5 = .ok (.ifCond .ne 7, 3) := by decide +kernel
theorem dX5_must_8 : decode cX5_must 8 = .ok (.iload_n 1, 1) := by decide +kernel
theorem dX5_must_9 : decode cX5_must 9 = .ok (.ifCond .ne 7, 3) := by decide +kernel
theorem dX5_must_12 : decode cX5_must 12 = .ok (.iconst 1, 1) := by decide +kernel
theorem dX5_must_13 : decode cX5_must 13 = .ok (.goto 4, 3) := by decide +kernel
theorem dX5_must_16 : decode cX5_must 16 = .ok (.iconst 0, 1) := by decide +kernel
theorem dX5_must_17 : decode cX5_must 17 = .ok (.putfield 285, 3) := by decide +kernel
theorem dX5_must_20 : decode cX5_must 20 = .ok (.aload_n 0, 1) := by decide +kernel
theorem dX5_must_21 : decode cX5_must 21 = .ok (.getfield 285, 3) := by decide +kernel
theorem dX5_must_24 : decode cX5_must 24 = .ok (.ifCond .ne 7, 3) := by decide +kernel
theorem dX5_must_27 : decode cX5_must 27 = .ok (.aload_n 0, 1) := by decide +kernel
theorem dX5_must_28 : decode cX5_must 28 = .ok (.invokevirtual 289, 3) := by decide +kernel
theorem dX5_must_31 : decode cX5_must 31 = .ok (.return_, 1) := by decide +kernel
theorem dX5_number_0 : decode cX5_number 0 = .ok (.aload_n 0, 1) := by decide +kernel
theorem dX5_number_1 : decode cX5_number 1 = .ok (.getfield 272, 3) := by decide +kernel
theorem dX5_number_4 : decode cX5_number 4 = .ok (.istore_n 3, 1) := by decide +kernel
theorem dX5_number_5 : decode cX5_number 5 = .ok (.aload_n 0, 1) := by decide +kernel
theorem dX5_number_6 : decode cX5_number 6 = .ok (.aload_n 0, 1) := by decide +kernel
theorem dX5_number_7 : decode cX5_number 7 = .ok (.getfield 275, 3) := by decide +kernel
theorem dX5_number_10 : decode cX5_number 10 = .ok (.iconst 2, 1) := by decide +kernel
theorem dX5_number_11 : decode cX5_number 11 = .ok (.if_icmp .ne 16, 3) := by decide +kernel
theorem dX5_number_14 : decode cX5_number 14 = .ok (.iload_n 3, 1) := by decide +kernel
theorem dX5_number_15 : decode cX5_number 15 = .ok (.iload_n 1, 1) := by decide +kernel
theorem dX5_number_16 : decode cX5_number 16 = .ok (.iload_n 2, 1) := by decide +kernel
theorem dX5_number_17 : decode cX5_number 17 = .ok (.invokestatic 97, 3) := by decide +kernel
theorem dX5_number_20 : decode cX5_number 20 = .ok (.ifCond .eq 7, 3) := by decide +kernel
theorem dX5_number_23 : decode cX5_number 23 = .ok (.iconst 1, 1) := by decide +kernel
theorem dX5_number_24 : decode cX5_number 24 = .ok (.goto 4, 3) := by decide +kernel
theorem dX5_number_27 : decode cX5_number 27 = .ok (.iconst 0, 1) := by decide +kernel
theorem dX5_number_28 : decode cX5_number 28 = .ok (.invokevirtual 292, 3) := by decide +kernel
theorem dX5_number_31 : decode cX5_number 31 = .ok (.iload_n 3, 1) := by decide +kernel
theorem dX5_number_32 : decode cX5_number 32 = .ok (.ireturn, 1) := by decide +kernel
theorem dX5_row_0 : decode cX5_row 0 = .ok (.iconst 3, 1) := by decide +kernel
theorem dX5_row_1 : decode cX5_row 1 = .ok (.aload_n 0, 1) := by decide +kernel
theorem dX5_row_2 : decode cX5_row 2 = .ok (.getfield 296, 3) := by decide +kernel
theorem dX5_row_5 : decode cX5_row 5 = .ok (.imul, 1) := by decide +kernel
theorem dX5_row_6 : decode cX5_row 6 = .ok (.istore 4, 2) := by decide +kernel
theorem dX5_row_8 : decode cX5_row 8 = .ok (.aload_n 0, 1) := by decide +kernel
theorem dX5_row_9 : decode cX5_row 9 = .ok (.getfield 77, 3) := by decide +kernel
theorem dX5_row_12 : decode cX5_row 12 = .ok (.iload 4, 2) := by decide +kernel
theorem dX5_row_14 : decode cX5_row 14 = .ok (.iload_n 1, 1) := by decide +kernel
theorem dX5_row_15 : decode cX5_row 15 = .ok (.iastore, 1) := by decide +kernel
theorem dX5_row_16 : decode cX5_row 16 = .ok (.aload_n 0, 1) := by decide +kernel
theorem dX5_row_17 : decode cX5_row 17 = .ok (.getfield 77, 3) := by decide +kernel
theorem dX5_row_20 : decode cX5_row 20 = .ok (.iload 4, 2) := by decide +kernel
theorem dX5_row_22 : decode cX5_row 22 = .ok (.iconst 1, 1) := by decide +kernel
theorem dX5_row_23 : decode cX5_row 23 = .ok (.iadd, 1) := by decide +kernel
theorem dX5_row_24 : decode cX5_row 24 = .ok (.iload_n 2, 1) := by decide +kernel
theorem dX5_row_25 : decode cX5_row 25 = .ok (.iastore, 1) := by decide +kernel
theorem dX5_row_26 : decode cX5_row 26 = .ok (.aload_n 0, 1) := by decide +kernel
theorem dX5_row_27 : decode cX5_row 27 = .ok (.getfield 77, 3) := by decide +kernel
theorem dX5_row_30 : decode cX5_row 30 = .ok (.iload 4, 2) := by decide +kernel
theorem dX5_row_32 : decode cX5_row 32 = .ok (.iconst 2, 1) := by decide +kernel
theorem dX5_row_33 : decode cX5_row 33 = .ok (.iadd, 1) := by decide +kernel
theorem dX5_row_34 : decode cX5_row 34 = .ok (.iload_n 3, 1) := by decide +kernel
theorem dX5_row_35 : decode cX5_row 35 = .ok (.iastore, 1) := by decide +kernel
theorem dX5_row_36 : decode cX5_row 36 = .ok (.aload_n 0, 1) := by decide +kernel
theorem dX5_row_37 : decode cX5_row 37 = .ok (.dup, 1) := by decide +kernel
theorem dX5_row_38 : decode cX5_row 38 = .ok (.getfield 296, 3) := by decide +kernel
theorem dX5_row_41 : decode cX5_row 41 = .ok (.iconst 1, 1) := by decide +kernel
theorem dX5_row_42 : decode cX5_row 42 = .ok (.iadd, 1) := by decide +kernel
theorem dX5_row_43 : decode cX5_row 43 = .ok (.putfield 296, 3) := by decide +kernel
theorem dX5_row_46 : decode cX5_row 46 = .ok (.return_, 1) := by decide +kernel
theorem dX5_kindTold_0 : decode cX5_kindTold 0 = .ok (.iconst (-1), 1) := by decide +kernel
theorem dX5_kindTold_1 : decode cX5_kindTold 1 = .ok (.istore_n 1, 1) := by decide +kernel
theorem dX5_kindTold_2 : decode cX5_kindTold 2 = .ok (.iconst 0, 1) := by decide +kernel
theorem dX5_kindTold_3 : decode cX5_kindTold 3 = .ok (.istore_n 2, 1) := by decide +kernel
theorem dX5_kindTold_4 : decode cX5_kindTold 4 = .ok (.iload_n 2, 1) := by decide +kernel
theorem dX5_kindTold_5 : decode cX5_kindTold 5 = .ok (.aload_n 0, 1) := by decide +kernel
theorem dX5_kindTold_6 : decode cX5_kindTold 6 = .ok (.getfield 62, 3) := by decide +kernel
theorem dX5_kindTold_9 : decode cX5_kindTold 9 = .ok (.arraylength, 1) := by decide +kernel
theorem dX5_kindTold_10 : decode cX5_kindTold 10 = .ok (.if_icmp .ge 28, 3) := by decide +kernel
theorem dX5_kindTold_13 : decode cX5_kindTold 13 = .ok (.aload_n 0, 1) := by decide +kernel
theorem dX5_kindTold_14 : decode cX5_kindTold 14 = .ok (.aload_n 0, 1) := by decide +kernel
theorem dX5_kindTold_15 : decode cX5_kindTold 15 = .ok (.getfield 62, 3) := by decide +kernel
theorem dX5_kindTold_18 : decode cX5_kindTold 18 = .ok (.iload_n 2, 1) := by decide +kernel
theorem dX5_kindTold_19 : decode cX5_kindTold 19 = .ok (.aaload, 1) := by decide +kernel
theorem dX5_kindTold_20 : decode cX5_kindTold 20 = .ok (.invokevirtual 299, 3) := by decide +kernel
theorem dX5_kindTold_23 : decode cX5_kindTold 23 = .ok (.ifCond .eq 7, 3) := by decide +kernel
theorem dX5_kindTold_26 : decode cX5_kindTold 26 = .ok (.iload_n 2, 1) := by decide +kernel
theorem dX5_kindTold_27 : decode cX5_kindTold 27 = .ok (.goto 4, 3) := by decide +kernel
theorem dX5_kindTold_30 : decode cX5_kindTold 30 = .ok (.iload_n 1, 1) := by decide +kernel
theorem dX5_kindTold_31 : decode cX5_kindTold 31 = .ok (.istore_n 1, 1) := by decide +kernel
theorem dX5_kindTold_32 : decode cX5_kindTold 32 = .ok (.iinc 2 1, 3) := by decide +kernel
theorem dX5_kindTold_35 : decode cX5_kindTold 35 = .ok (.goto (-31), 3) := by decide +kernel
theorem dX5_kindTold_38 : decode cX5_kindTold 38 = .ok (.iload_n 1, 1) := by decide +kernel
theorem dX5_kindTold_39 : decode cX5_kindTold 39 = .ok (.ireturn, 1) := by decide +kernel
theorem dX5_isNext_0 : decode cX5_isNext 0 = .ok (.aload_n 0, 1) := by decide +kernel
theorem dX5_isNext_1 : decode cX5_isNext 1 = .ok (.getfield 285, 3) := by decide +kernel
theorem dX5_isNext_4 : decode cX5_isNext 4 = .ok (.ifCond .ne 15, 3) := by decide +kernel
theorem dX5_isNext_7 : decode cX5_isNext 7 = .ok (.aload_n 0, 1) := by decide +kernel
theorem dX5_isNext_8 : decode cX5_isNext 8 = .ok (.aload_n 1, 1) := by decide +kernel
theorem dX5_isNext_9 : decode cX5_isNext 9 = .ok (.invokevirtual 299, 3) := by decide +kernel
theorem dX5_isNext_12 : decode cX5_isNext 12 = .ok (.ifCond .eq 7, 3) := by decide +kernel
theorem dX5_isNext_15 : decode cX5_isNext 15 = .ok (.iconst 1, 1) := by decide +kernel
theorem dX5_isNext_16 : decode cX5_isNext 16 = .ok (.goto 4, 3) := by decide +kernel
theorem dX5_isNext_19 : decode cX5_isNext 19 = .ok (.iconst 0, 1) := by decide +kernel
theorem dX5_isNext_20 : decode cX5_isNext 20 = .ok (.istore_n 2, 1) := by decide +kernel
theorem dX5_isNext_21 : decode cX5_isNext 21 = .ok (.iload_n 2, 1) := by decide +kernel
theorem dX5_isNext_22 : decode cX5_isNext 22 = .ok (.ifCond .eq 8, 3) := by decide +kernel
theorem dX5_isNext_25 : decode cX5_isNext 25 = .ok (.aload_n 0, 1) := by decide +kernel
theorem dX5_isNext_26 : decode cX5_isNext 26 = .ok (.iconst 1, 1) := by decide +kernel
theorem dX5_isNext_27 : decode cX5_isNext 27 = .ok (.invokevirtual 292, 3) := by decide +kernel
theorem dX5_isNext_30 : decode cX5_isNext 30 = .ok (.iload_n 2, 1) := by decide +kernel
theorem dX5_isNext_31 : decode cX5_isNext 31 = .ok (.ireturn, 1) := by decide +kernel
theorem dX5_readItem_0 : decode cX5_readItem 0 = .ok (.aload_n 0, 1) := by decide +kernel
theorem dX5_readItem_1 : decode cX5_readItem 1 = .ok (.invokevirtual 303, 3) := by decide +kernel
theorem dX5_readItem_4 : decode cX5_readItem 4 = .ok (.istore_n 1, 1) := by decide +kernel
theorem dX5_readItem_5 : decode cX5_readItem 5 = .ok (.aload_n 0, 1) := by decide +kernel
theorem dX5_readItem_6 : decode cX5_readItem 6 = .ok (.dup, 1) := by decide +kernel
theorem dX5_readItem_7 : decode cX5_readItem 7 = .ok (.getfield 306, 3) := by decide +kernel
theorem dX5_readItem_10 : decode cX5_readItem 10 = .ok (.iconst 1, 1) := by decide +kernel
theorem dX5_readItem_11 : decode cX5_readItem 11 = .ok (.iadd, 1) := by decide +kernel
theorem dX5_readItem_12 : decode cX5_readItem 12 = .ok (.putfield 306, 3) := by decide +kernel
theorem dX5_readItem_15 : decode cX5_readItem 15 = .ok (.iload_n 1, 1) := by decide +kernel
theorem dX5_readItem_16 : decode cX5_readItem 16 = .ok (.ifCond .lt 175, 3) := by decide +kernel
theorem dX5_readItem_19 : decode cX5_readItem 19 = .ok (.aload_n 0, 1) := by decide +kernel
theorem dX5_readItem_20 : decode cX5_readItem 20 = .ok (.aload_n 0, 1) := by decide +kernel
theorem dX5_readItem_21 : decode cX5_readItem 21 = .ok (.getfield 309, 3) := by decide +kernel
theorem dX5_readItem_24 : decode cX5_readItem 24 = .ok (.bipush 8, 2) := by decide +kernel
theorem dX5_readItem_26 : decode cX5_readItem 26 = .ok (.if_icmp .ge 7, 3) := by decide +kernel
theorem dX5_readItem_29 : decode cX5_readItem 29 = .ok (.iconst 1, 1) := by decide +kernel
theorem dX5_readItem_30 : decode cX5_readItem 30 = .ok (.goto 4, 3) := by decide +kernel
theorem dX5_readItem_33 : decode cX5_readItem 33 = .ok (.iconst 0, 1) := by decide +kernel
theorem dX5_readItem_34 : decode cX5_readItem 34 = .ok (.invokevirtual 292, 3) := by decide +kernel
theorem dX5_readItem_37 : decode cX5_readItem 37 = .ok (.aload_n 0, 1) := by decide +kernel
theorem dX5_readItem_38 : decode cX5_readItem 38 = .ok (.getfield 309, 3) := by decide +kernel
theorem dX5_readItem_41 : decode cX5_readItem 41 = .ok (.istore_n 2, 1) := by decide +kernel
theorem dX5_readItem_42 : decode cX5_readItem 42 = .ok (.aload_n 0, 1) := by decide +kernel
theorem dX5_readItem_43 : decode cX5_readItem 43 = .ok (.dup, 1) := by decide +kernel
theorem dX5_readItem_44 : decode cX5_readItem 44 = .ok (.getfield 309, 3) := by decide +kernel
theorem dX5_readItem_47 : decode cX5_readItem 47 = .ok (.iconst 1, 1) := by decide +kernel
theorem dX5_readItem_48 : decode cX5_readItem 48 = .ok (.iadd, 1) := by decide +kernel
theorem dX5_readItem_49 : decode cX5_readItem 49 = .ok (.putfield 309, 3) := by decide +kernel
theorem dX5_readItem_52 : decode cX5_readItem 52 = .ok (.aload_n 0, 1) := by decide +kernel
theorem dX5_readItem_53 : decode cX5_readItem 53 = .ok (.iload_n 1, 1) := by decide +kernel
theorem dX5_readItem_54 : decode cX5_readItem 54 = .ok (.iconst 0, 1) := by decide +kernel
theorem dX5_readItem_55 : decode cX5_readItem 55 = .ok (.iconst 0, 1) := by decide +kernel
theorem dX5_readItem_56 : decode cX5_readItem 56 = .ok (.invokevirtual 312, 3) := by decide +kernel
theorem dX5_readItem_59 : decode cX5_readItem 59 = .ok (.iconst 0, 1) := by decide +kernel
theorem dX5_readItem_60 : decode cX5_readItem 60 = .ok (.istore_n 3, 1) := by decide +kernel
theorem dX5_readItem_61 : decode cX5_readItem 61 = .ok (.iload_n 3, 1) := by decide +kernel
theorem dX5_readItem_62 : decode cX5_readItem 62 = .ok (.aload_n 0, 1) := by decide +kernel
theorem dX5_readItem_63 : decode cX5_readItem 63 = .ok (.getfield 74, 3) := by decide +kernel
theorem dX5_readItem_66 : decode cX5_readItem 66 = .ok (.arraylength, 1) := by decide +kernel
theorem dX5_readItem_67 : decode cX5_readItem 67 = .ok (.if_icmp .ge 103, 3) := by decide +kernel
theorem dX5_readItem_70 : decode cX5_readItem 70 = .ok (.iconst 1, 1) := by decide +kernel
theorem dX5_readItem_71 : decode cX5_readItem 71 = .ok (.iload_n 3, 1) := by decide +kernel
theorem dX5_readItem_72 : decode cX5_readItem 72 = .ok (.iadd, 1) := by decide +kernel
theorem dX5_readItem_73 : decode cX5_readItem 73 = .ok (.istore 4, 2) := by decide +kernel
theorem dX5_readItem_75 : decode cX5_readItem 75 = .ok (.aload_n 0, 1) := by decide +kernel
theorem dX5_readItem_76 : decode cX5_readItem 76 = .ok (.aload_n 0, 1) := by decide +kernel
theorem dX5_readItem_77 : decode cX5_readItem 77 = .ok (.getfield 74, 3) := by decide +kernel
theorem dX5_readItem_80 : decode cX5_readItem 80 = .ok (.iload_n 3, 1) := by decide +kernel
theorem dX5_readItem_81 : decode cX5_readItem 81 = .ok (.aaload, 1) := by decide +kernel
theorem dX5_readItem_82 : decode cX5_readItem 82 = .ok (.invokevirtual 315, 3) := by decide +kernel
theorem dX5_readItem_85 : decode cX5_readItem 85 = .ok (.ifCond .eq 79, 3) := by decide +kernel
theorem dX5_readItem_88 : decode cX5_readItem 88 = .ok (.aload_n 0, 1) := by decide +kernel
theorem dX5_readItem_89 : decode cX5_readItem 89 = .ok (.getfield 272, 3) := by decide +kernel
theorem dX5_readItem_92 : decode cX5_readItem 92 = .ok (.istore 5, 2) := by decide +kernel
theorem dX5_readItem_94 : decode cX5_readItem 94 = .ok (.aload_n 0, 1) := by decide +kernel
theorem dX5_readItem_95 : decode cX5_readItem 95 = .ok (.aload_n 0, 1) := by decide +kernel
theorem dX5_readItem_96 : decode cX5_readItem 96 = .ok (.getfield 285, 3) := by decide +kernel
theorem dX5_readItem_99 : decode cX5_readItem 99 = .ok (.ifCond .ne 49, 3) := by decide +kernel
theorem dX5_readItem_102 : decode cX5_readItem 102 = .ok (.aload_n 0, 1) := by decide +kernel
theorem dX5_readItem_103 : decode cX5_readItem 103 = .ok (.getfield 275, 3) := by decide +kernel
theorem dX5_readItem_106 : decode cX5_readItem 106 = .ok (.iconst 2, 1) := by decide +kernel
theorem dX5_readItem_107 : decode cX5_readItem 107 = .ok (.if_icmp .ne 41, 3) := by decide +kernel
theorem dX5_readItem_110 : decode cX5_readItem 110 = .ok (.iload 5, 2) := by decide +kernel
theorem dX5_readItem_112 : decode cX5_readItem 112 = .ok (.aload_n 0, 1) := by decide +kernel
theorem dX5_readItem_113 : decode cX5_readItem 113 = .ok (.getfield 22, 3) := by decide +kernel
theorem dX5_readItem_116 : decode cX5_readItem 116 = .ok (.iload 4, 2) := by decide +kernel
theorem dX5_readItem_118 : decode cX5_readItem 118 = .ok (.iaload, 1) := by decide +kernel
theorem dX5_readItem_119 : decode cX5_readItem 119 = .ok (.aload_n 0, 1) := by decide +kernel
theorem dX5_readItem_120 : decode cX5_readItem 120 = .ok (.getfield 25, 3) := by decide +kernel
theorem dX5_readItem_123 : decode cX5_readItem 123 = .ok (.iload 4, 2) := by decide +kernel
theorem dX5_readItem_125 : decode cX5_readItem 125 = .ok (.iaload, 1) := by decide +kernel
theorem dX5_readItem_126 : decode cX5_readItem 126 = .ok (.invokestatic 97, 3) := by decide +kernel
theorem dX5_readItem_129 : decode cX5_readItem 129 = .ok (.ifCond .eq 19, 3) := by decide +kernel
theorem dX5_readItem_132 : decode cX5_readItem 132 = .ok (.iload 4, 2) := by decide +kernel
theorem dX5_readItem_134 : decode cX5_readItem 134 = .ok (.iconst 4, 1) := by decide +kernel
theorem dX5_readItem_135 : decode cX5_readItem 135 = .ok (.if_icmp .ne 9, 3) := by decide +kernel
theorem dX5_readItem_138 : decode cX5_readItem 138 = .ok (.iload 5, 2) := by decide +kernel
theorem dX5_readItem_140 : decode cX5_readItem 140 = .ok (.iload_n 2, 1) := by decide +kernel
theorem dX5_readItem_141 : decode cX5_readItem 141 = .ok (.if_icmp .eq 7, 3) := by decide +kernel
theorem dX5_readItem_144 : decode cX5_readItem 144 = .ok (.iconst 1, 1) := by decide +kernel
theorem dX5_readItem_145 : decode cX5_readItem 145 = .ok (.goto 4, 3) := by decide +kernel
theorem dX5_readItem_148 : decode cX5_readItem 148 = .ok (.iconst 0, 1) := by decide +kernel
theorem dX5_readItem_149 : decode cX5_readItem 149 = .ok (.invokevirtual 292, 3) := by decide +kernel
theorem dX5_readItem_152 : decode cX5_readItem 152 = .ok (.aload_n 0, 1) := by decide +kernel
theorem dX5_readItem_153 : decode cX5_readItem 153 = .ok (.bipush 10, 2) := by decide +kernel
theorem dX5_readItem_155 : decode cX5_readItem 155 = .ok (.iload 4, 2) := by decide +kernel
theorem dX5_readItem_157 : decode cX5_readItem 157 = .ok (.iadd, 1) := by decide +kernel
theorem dX5_readItem_158 : decode cX5_readItem 158 = .ok (.iload_n 2, 1) := by decide +kernel
theorem dX5_readItem_159 : decode cX5_readItem 159 = .ok (.iload 5, 2) := by decide +kernel
theorem dX5_readItem_161 : decode cX5_readItem 161 = .ok (.invokevirtual 312, 3) := by decide +kernel
theorem dX5_readItem_164 : decode cX5_readItem 164 = .ok (.iinc 3 1, 3) := by decide +kernel
theorem dX5_readItem_167 : decode cX5_readItem 167 = .ok (.goto (-106), 3) := by decide +kernel
theorem dX5_readItem_170 : decode cX5_readItem 170 = .ok (.aload_n 0, 1) := by decide +kernel
theorem dX5_readItem_171 : decode cX5_readItem 171 = .ok (.ldc_w 318, 3) := by decide +kernel
theorem dX5_readItem_174 : decode cX5_readItem 174 = .ok (.invokevirtual 315, 3) := by decide +kernel
theorem dX5_readItem_177 : decode cX5_readItem 177 = .ok (.ifCond .eq 11, 3) := by decide +kernel
theorem dX5_readItem_180 : decode cX5_readItem 180 = .ok (.aload_n 0, 1) := by decide +kernel
theorem dX5_readItem_181 : decode cX5_readItem 181 = .ok (.bipush 15, 2) := by decide +kernel
theorem dX5_readItem_183 : decode cX5_readItem 183 = .ok (.iload_n 2, 1) := by decide +kernel
theorem dX5_readItem_184 : decode cX5_readItem 184 = .ok (.iconst 1, 1) := by decide +kernel
theorem dX5_readItem_185 : decode cX5_readItem 185 = .ok (.invokevirtual 312, 3) := by decide +kernel
theorem dX5_readItem_188 : decode cX5_readItem 188 = .ok (.goto 72, 3) := by decide +kernel
theorem dX5_readItem_191 : decode cX5_readItem 191 = .ok (.aload_n 0, 1) := by decide +kernel
theorem dX5_readItem_192 : decode cX5_readItem 192 = .ok (.ldc_w 320, 3) := by decide +kernel
theorem dX5_readItem_195 : decode cX5_readItem 195 = .ok (.invokevirtual 315, 3) := by decide +kernel
theorem dX5_readItem_198 : decode cX5_readItem 198 = .ok (.ifCond .eq 37, 3) := by decide +kernel
theorem dX5_readItem_201 : decode cX5_readItem 201 = .ok (.aload_n 0, 1) := by decide +kernel
theorem dX5_readItem_202 : decode cX5_readItem 202 = .ok (.iconst 0, 1) := by decide +kernel
theorem dX5_readItem_203 : decode cX5_readItem 203 = .ok (.aload_n 0, 1) := by decide +kernel
theorem dX5_readItem_204 : decode cX5_readItem 204 = .ok (.getfield 309, 3) := by decide +kernel
theorem dX5_readItem_207 : decode cX5_readItem 207 = .ok (.iconst 1, 1) := by decide +kernel
theorem dX5_readItem_208 : decode cX5_readItem 208 = .ok (.isub, 1) := by decide +kernel
theorem dX5_readItem_209 : decode cX5_readItem 209 = .ok (.invokevirtual 322, 3) := by decide +kernel
theorem dX5_readItem_212 : decode cX5_readItem 212 = .ok (.istore_n 2, 1) := by decide +kernel
theorem dX5_readItem_213 : decode cX5_readItem 213 = .ok (.aload_n 0, 1) := by decide +kernel
theorem dX5_readItem_214 : decode cX5_readItem 214 = .ok (.bipush 16, 2) := by decide +kernel
theorem dX5_readItem_216 : decode cX5_readItem 216 = .ok (.iload_n 2, 1) := by decide +kernel
theorem dX5_readItem_217 : decode cX5_readItem 217 = .ok (.aload_n 0, 1) := by decide +kernel
theorem dX5_readItem_218 : decode cX5_readItem 218 = .ok (.iconst 0, 1) := by decide +kernel
theorem dX5_readItem_219 : decode cX5_readItem 219 = .ok (.aload_n 0, 1) := by decide +kernel
theorem dX5_readItem_220 : decode cX5_readItem 220 = .ok (.getfield 25, 3) := by decide +kernel
theorem dX5_readItem_223 : decode cX5_readItem 223 = .ok (.bipush 6, 2) := by decide +kernel
theorem dX5_readItem_225 : decode cX5_readItem 225 = .ok (.iaload, 1) := by decide +kernel
theorem dX5_readItem_226 : decode cX5_readItem 226 = .ok (.invokevirtual 322, 3) := by decide +kernel
theorem dX5_readItem_229 : decode cX5_readItem 229 = .ok (.invokevirtual 312, 3) := by decide +kernel
theorem dX5_readItem_232 : decode cX5_readItem 232 = .ok (.goto 28, 3) := by decide +kernel
theorem dX5_readItem_235 : decode cX5_readItem 235 = .ok (.aload_n 0, 1) := by decide +kernel
theorem dX5_readItem_236 : decode cX5_readItem 236 = .ok (.aload_n 0, 1) := by decide +kernel
theorem dX5_readItem_237 : decode cX5_readItem 237 = .ok (.ldc_w 325, 3) := by decide +kernel
theorem dX5_readItem_240 : decode cX5_readItem 240 = .ok (.invokevirtual 299, 3) := by decide +kernel
theorem dX5_readItem_243 : decode cX5_readItem 243 = .ok (.invokevirtual 292, 3) := by decide +kernel
theorem dX5_readItem_246 : decode cX5_readItem 246 = .ok (.aload_n 0, 1) := by decide +kernel
theorem dX5_readItem_247 : decode cX5_readItem 247 = .ok (.bipush 20, 2) := by decide +kernel
theorem dX5_readItem_249 : decode cX5_readItem 249 = .ok (.aload_n 0, 1) := by decide +kernel
theorem dX5_readItem_250 : decode cX5_readItem 250 = .ok (.iconst 0, 1) := by decide +kernel
theorem dX5_readItem_251 : decode cX5_readItem 251 = .ok (.bipush 100, 2) := by decide +kernel
theorem dX5_readItem_253 : decode cX5_readItem 253 = .ok (.invokevirtual 322, 3) := by decide +kernel
theorem dX5_readItem_256 : decode cX5_readItem 256 = .ok (.iconst 0, 1) := by decide +kernel
theorem dX5_readItem_257 : decode cX5_readItem 257 = .ok (.invokevirtual 312, 3) := by decide +kernel
theorem dX5_readItem_260 : decode cX5_readItem 260 = .ok (.return_, 1) := by decide +kernel
theorem dX5_isSo_0 : decode cX5_isSo 0 = .ok (.aload_n 0, 1) := by decide +kernel
theorem dX5_isSo_1 : decode cX5_isSo 1 = .ok (.getfield 77, 3) := by decide +kernel
theorem dX5_isSo_4 : decode cX5_isSo 4 = .ok (.iload_n 1, 1) := by decide +kernel
theorem dX5_isSo_5 : decode cX5_isSo 5 = .ok (.iaload, 1) := by decide +kernel
theorem dX5_isSo_6 : decode cX5_isSo 6 = .ok (.istore_n 2, 1) := by decide +kernel
theorem dX5_isSo_7 : decode cX5_isSo 7 = .ok (.aload_n 0, 1) := by decide +kernel
theorem dX5_isSo_8 : decode cX5_isSo 8 = .ok (.getfield 77, 3) := by decide +kernel
theorem dX5_isSo_11 : decode cX5_isSo 11 = .ok (.iload_n 1, 1) := by decide +kernel
theorem dX5_isSo_12 : decode cX5_isSo 12 = .ok (.iconst 1, 1) := by decide +kernel
theorem dX5_isSo_13 : decode cX5_isSo 13 = .ok (.iadd, 1) := by decide +kernel
theorem dX5_isSo_14 : decode cX5_isSo 14 = .ok (.iaload, 1) := by decide +kernel
theorem dX5_isSo_15 : decode cX5_isSo 15 = .ok (.istore_n 3, 1) := by decide +kernel
theorem dX5_isSo_16 : decode cX5_isSo 16 = .ok (.iload_n 2, 1) := by decide +kernel
theorem dX5_isSo_17 : decode cX5_isSo 17 = .ok (.bipush 20, 2) := by decide +kernel
theorem dX5_isSo_19 : decode cX5_isSo 19 = .ok (.if_icmp .ne 12, 3) := by decide +kernel
theorem dX5_isSo_22 : decode cX5_isSo 22 = .ok (.aload_n 0, 1) := by decide +kernel
theorem dX5_isSo_23 : decode cX5_isSo 23 = .ok (.iconst 1, 1) := by decide +kernel
theorem dX5_isSo_24 : decode cX5_isSo 24 = .ok (.iload_n 3, 1) := by decide +kernel
theorem dX5_isSo_25 : decode cX5_isSo 25 = .ok (.invokevirtual 134, 3) := by decide +kernel
theorem dX5_isSo_28 : decode cX5_isSo 28 = .ok (.goto 37, 3) := by decide +kernel
theorem dX5_isSo_31 : decode cX5_isSo 31 = .ok (.iload_n 2, 1) := by decide +kernel
theorem dX5_isSo_32 : decode cX5_isSo 32 = .ok (.bipush 10, 2) := by decide +kernel
theorem dX5_isSo_34 : decode cX5_isSo 34 = .ok (.if_icmp .lt 26, 3) := by decide +kernel
theorem dX5_isSo_37 : decode cX5_isSo 37 = .ok (.aload_n 0, 1) := by decide +kernel
theorem dX5_isSo_38 : decode cX5_isSo 38 = .ok (.iload_n 3, 1) := by decide +kernel
theorem dX5_isSo_39 : decode cX5_isSo 39 = .ok (.iload_n 2, 1) := by decide +kernel
theorem dX5_isSo_40 : decode cX5_isSo 40 = .ok (.bipush 10, 2) := by decide +kernel
theorem dX5_isSo_42 : decode cX5_isSo 42 = .ok (.isub, 1) := by decide +kernel
theorem dX5_isSo_43 : decode cX5_isSo 43 = .ok (.invokestatic 101, 3) := by decide +kernel
theorem dX5_isSo_46 : decode cX5_isSo 46 = .ok (.aload_n 0, 1) := by decide +kernel
theorem dX5_isSo_47 : decode cX5_isSo 47 = .ok (.getfield 77, 3) := by decide +kernel
theorem dX5_isSo_50 : decode cX5_isSo 50 = .ok (.iload_n 1, 1) := by decide +kernel
theorem dX5_isSo_51 : decode cX5_isSo 51 = .ok (.iconst 2, 1) := by decide +kernel
theorem dX5_isSo_52 : decode cX5_isSo 52 = .ok (.iadd, 1) := by decide +kernel
theorem dX5_isSo_53 : decode cX5_isSo 53 = .ok (.iaload, 1) := by decide +kernel
theorem dX5_isSo_54 : decode cX5_isSo 54 = .ok (.invokevirtual 134, 3) := by decide +kernel
theorem dX5_isSo_57 : decode cX5_isSo 57 = .ok (.goto 8, 3) := by decide +kernel
theorem dX5_isSo_60 : decode cX5_isSo 60 = .ok (.aload_n 0, 1) := by decide +kernel
theorem dX5_isSo_61 : decode cX5_isSo 61 = .ok (.iload_n 2, 1) := by decide +kernel
theorem dX5_isSo_62 : decode cX5_isSo 62 = .ok (.invokevirtual 114, 3) := by decide +kernel
theorem dX5_isSo_65 : decode cX5_isSo 65 = .ok (.ireturn, 1) := by decide +kernel
theorem dX5_text_0 : decode cX5_text 0 = .ok (.aload_n 0, 1) := by decide +kernel
theorem dX5_text_1 : decode cX5_text 1 = .ok (.iconst 0, 1) := by decide +kernel
theorem dX5_text_2 : decode cX5_text 2 = .ok (.putfield 263, 3) := by decide +kernel
theorem dX5_text_5 : decode cX5_text 5 = .ok (.aload_n 0, 1) := by decide +kernel
theorem dX5_text_6 : decode cX5_text 6 = .ok (.iconst 0, 1) := by decide +kernel
theorem dX5_text_7 : decode cX5_text 7 = .ok (.putfield 285, 3) := by decide +kernel
theorem dX5_text_10 : decode cX5_text 10 = .ok (.aload_n 0, 1) := by decide +kernel
theorem dX5_text_11 : decode cX5_text 11 = .ok (.iconst 0, 1) := by decide +kernel
theorem dX5_text_12 : decode cX5_text 12 = .ok (.putfield 296, 3) := by decide +kernel
theorem dX5_text_15 : decode cX5_text 15 = .ok (.aload_n 0, 1) := by decide +kernel
theorem dX5_text_16 : decode cX5_text 16 = .ok (.iconst 0, 1) := by decide +kernel
theorem dX5_text_17 : decode cX5_text 17 = .ok (.putfield 306, 3) := by decide +kernel
theorem dX5_text_20 : decode cX5_text 20 = .ok (.aload_n 0, 1) := by decide +kernel
theorem dX5_text_21 : decode cX5_text 21 = .ok (.aload_n 0, 1) := by decide +kernel
theorem dX5_text_22 : decode cX5_text 22 = .ok (.getfield 9, 3) := by decide +kernel
theorem dX5_text_25 : decode cX5_text 25 = .ok (.iconst 2, 1) := by decide +kernel
theorem dX5_text_26 : decode cX5_text 26 = .ok (.iaload, 1) := by decide +kernel
theorem dX5_text_27 : decode cX5_text 27 = .ok (.putfield 309, 3) := by decide +kernel
theorem dX5_text_30 : decode cX5_text 30 = .ok (.aload_n 0, 1) := by decide +kernel
theorem dX5_text_31 : decode cX5_text 31 = .ok (.invokevirtual 289, 3) := by decide +kernel
theorem dX5_text_34 : decode cX5_text 34 = .ok (.aload_n 0, 1) := by decide +kernel
theorem dX5_text_35 : decode cX5_text 35 = .ok (.invokevirtual 327, 3) := by decide +kernel
theorem dX5_text_38 : decode cX5_text 38 = .ok (.aload_n 0, 1) := by decide +kernel
theorem dX5_text_39 : decode cX5_text 39 = .ok (.getfield 285, 3) := by decide +kernel
theorem dX5_text_42 : decode cX5_text 42 = .ok (.ifCond .ne 37, 3) := by decide +kernel
theorem dX5_text_45 : decode cX5_text 45 = .ok (.aload_n 0, 1) := by decide +kernel
theorem dX5_text_46 : decode cX5_text 46 = .ok (.getfield 275, 3) := by decide +kernel
theorem dX5_text_49 : decode cX5_text 49 = .ok (.iconst 3, 1) := by decide +kernel
theorem dX5_text_50 : decode cX5_text 50 = .ok (.if_icmp .ne 29, 3) := by decide +kernel
theorem dX5_text_53 : decode cX5_text 53 = .ok (.aload_n 0, 1) := by decide +kernel
theorem dX5_text_54 : decode cX5_text 54 = .ok (.getfield 43, 3) := by decide +kernel
theorem dX5_text_57 : decode cX5_text 57 = .ok (.aload_n 0, 1) := by decide +kernel
theorem dX5_text_58 : decode cX5_text 58 = .ok (.getfield 266, 3) := by decide +kernel
theorem dX5_text_61 : decode cX5_text 61 = .ok (.iaload, 1) := by decide +kernel
theorem dX5_text_62 : decode cX5_text 62 = .ok (.bipush 59, 2) := by decide +kernel
theorem dX5_text_64 : decode cX5_text 64 = .ok (.if_icmp .ne 15, 3) := by decide +kernel
theorem dX5_text_67 : decode cX5_text 67 = .ok (.aload_n 0, 1) := by decide +kernel
theorem dX5_text_68 : decode cX5_text 68 = .ok (.iconst 1, 1) := by decide +kernel
theorem dX5_text_69 : decode cX5_text 69 = .ok (.invokevirtual 292, 3) := by decide +kernel
theorem dX5_text_72 : decode cX5_text 72 = .ok (.aload_n 0, 1) := by decide +kernel
theorem dX5_text_73 : decode cX5_text 73 = .ok (.invokevirtual 327, 3) := by decide +kernel
theorem dX5_text_76 : decode cX5_text 76 = .ok (.goto (-38), 3) := by decide +kernel
theorem dX5_text_79 : decode cX5_text 79 = .ok (.aload_n 0, 1) := by decide +kernel
theorem dX5_text_80 : decode cX5_text 80 = .ok (.aload_n 0, 1) := by decide +kernel
theorem dX5_text_81 : decode cX5_text 81 = .ok (.getfield 275, 3) := by decide +kernel
theorem dX5_text_84 : decode cX5_text 84 = .ok (.ifCond .ne 7, 3) := by decide +kernel
theorem dX5_text_87 : decode cX5_text 87 = .ok (.iconst 1, 1) := by decide +kernel
theorem dX5_text_88 : decode cX5_text 88 = .ok (.goto 4, 3) := by decide +kernel
theorem dX5_text_91 : decode cX5_text 91 = .ok (.iconst 0, 1) := by decide +kernel
theorem dX5_text_92 : decode cX5_text 92 = .ok (.invokevirtual 292, 3) := by decide +kernel
theorem dX5_text_95 : decode cX5_text 95 = .ok (.aload_n 0, 1) := by decide +kernel
theorem dX5_text_96 : decode cX5_text 96 = .ok (.iconst 0, 1) := by decide +kernel
theorem dX5_text_97 : decode cX5_text 97 = .ok (.putfield 260, 3) := by decide +kernel
theorem dX5_text_100 : decode cX5_text 100 = .ok (.aload_n 0, 1) := by decide +kernel
theorem dX5_text_101 : decode cX5_text 101 = .ok (.getfield 285, 3) := by decide +kernel
theorem dX5_text_104 : decode cX5_text 104 = .ok (.ifCond .eq 10, 3) := by decide +kernel
theorem dX5_text_107 : decode cX5_text 107 = .ok (.iconst (-1), 1) := by decide +kernel
theorem dX5_text_108 : decode cX5_text 108 = .ok (.aload_n 0, 1) := by decide +kernel
theorem dX5_text_109 : decode cX5_text 109 = .ok (.getfield 266, 3) := by decide +kernel
theorem dX5_text_112 : decode cX5_text 112 = .ok (.isub, 1) := by decide +kernel
theorem dX5_text_113 : decode cX5_text 113 = .ok (.ireturn, 1) := by decide +kernel
theorem dX5_text_114 : decode cX5_text 114 = .ok (.iconst 0, 1) := by decide +kernel
theorem dX5_text_115 : decode cX5_text 115 = .ok (.istore_n 1, 1) := by decide +kernel
theorem dX5_text_116 : decode cX5_text 116 = .ok (.iconst 0, 1) := by decide +kernel
theorem dX5_text_117 : decode cX5_text 117 = .ok (.istore_n 2, 1) := by decide +kernel
theorem dX5_text_118 : decode cX5_text 118 = .ok (.iload_n 2, 1) := by decide +kernel
theorem dX5_text_119 : decode cX5_text 119 = .ok (.aload_n 0, 1) := by decide +kernel
theorem dX5_text_120 : decode cX5_text 120 = .ok (.getfield 296, 3) := by decide +kernel
theorem dX5_text_123 : decode cX5_text 123 = .ok (.if_icmp .ge 27, 3) := by decide +kernel
theorem dX5_text_126 : decode cX5_text 126 = .ok (.iload_n 1, 1) := by decide +kernel
theorem dX5_text_127 : decode cX5_text 127 = .ok (.aload_n 0, 1) := by decide +kernel
theorem dX5_text_128 : decode cX5_text 128 = .ok (.iconst 3, 1) := by decide +kernel
theorem dX5_text_129 : decode cX5_text 129 = .ok (.iload_n 2, 1) := by decide +kernel
theorem dX5_text_130 : decode cX5_text 130 = .ok (.imul, 1) := by decide +kernel
theorem dX5_text_131 : decode cX5_text 131 = .ok (.invokevirtual 330, 3) := by decide +kernel
theorem dX5_text_134 : decode cX5_text 134 = .ok (.ifCond .ge 7, 3) := by decide +kernel
theorem dX5_text_137 : decode cX5_text 137 = .ok (.iconst 0, 1) := by decide +kernel
theorem dX5_text_138 : decode cX5_text 138 = .ok (.goto 4, 3) := by decide +kernel
theorem dX5_text_141 : decode cX5_text 141 = .ok (.iconst 1, 1) := by decide +kernel
theorem dX5_text_142 : decode cX5_text 142 = .ok (.iadd, 1) := by decide +kernel
theorem dX5_text_143 : decode cX5_text 143 = .ok (.istore_n 1, 1) := by decide +kernel
theorem dX5_text_144 : decode cX5_text 144 = .ok (.iinc 2 1, 3) := by decide +kernel
theorem dX5_text_147 : decode cX5_text 147 = .ok (.goto (-29), 3) := by decide +kernel
theorem dX5_text_150 : decode cX5_text 150 = .ok (.iload_n 1, 1) := by decide +kernel
theorem dX5_text_151 : decode cX5_text 151 = .ok (.aload_n 0, 1) := by decide +kernel
theorem dX5_text_152 : decode cX5_text 152 = .ok (.getfield 296, 3) := by decide +kernel
theorem dX5_text_155 : decode cX5_text 155 = .ok (.if_icmp .ne 10, 3) := by decide +kernel
theorem dX5_text_158 : decode cX5_text 158 = .ok (.aload_n 0, 1) := by decide +kernel
theorem dX5_text_159 : decode cX5_text 159 = .ok (.getfield 306, 3) := by decide +kernel
theorem dX5_text_162 : decode cX5_text 162 = .ok (.goto 4, 3) := by decide +kernel
theorem dX5_text_165 : decode cX5_text 165 = .ok (.iconst 0, 1) := by decide +kernel
theorem dX5_text_166 : decode cX5_text 166 = .ok (.ireturn, 1) := by decide +kernel
theorem dX5_isSpot_0 : decode cX5_isSpot 0 = .ok (.iload_n 0, 1) := by decide +kernel
theorem dX5_isSpot_1 : decode cX5_isSpot 1 = .ok (.iconst 0, 1) := by decide +kernel
theorem dX5_isSpot_2 : decode cX5_isSpot 2 = .ok (.bipush 9, 2) := by decide +kernel
theorem dX5_isSpot_4 : decode cX5_isSpot 4 = .ok (.invokestatic 97, 3) := by decide +kernel
theorem dX5_isSpot_7 : decode cX5_isSpot 7 = .ok (.ireturn, 1) := by decide +kernel
theorem dX5_hold_0 : decode cX5_hold 0 = .ok (.iload_n 1, 1) := by decide +kernel
theorem dX5_hold_1 : decode cX5_hold 1 = .ok (.invokestatic 333, 3) := by decide +kernel
theorem dX5_hold_4 : decode cX5_hold 4 = .ok (.ifCond .eq 16, 3) := by decide +kernel
theorem dX5_hold_7 : decode cX5_hold 7 = .ok (.iload_n 2, 1) := by decide +kernel
theorem dX5_hold_8 : decode cX5_hold 8 = .ok (.iconst (-1), 1) := by decide +kernel
theorem dX5_hold_9 : decode cX5_hold 9 = .ok (.if_icmp .eq 18, 3) := by decide +kernel
theorem dX5_hold_12 : decode cX5_hold 12 = .ok (.aload_n 0, 1) := by decide +kernel
theorem dX5_hold_13 : decode cX5_hold 13 = .ok (.iload_n 2, 1) := by decide +kernel
theorem dX5_hold_14 : decode cX5_hold 14 = .ok (.invokevirtual 128, 3) := by decide +kernel
theorem dX5_hold_17 : decode cX5_hold 17 = .ok (.ifCond .ne 10, 3) := by decide +kernel
theorem dX5_hold_20 : decode cX5_hold 20 = .ok (.aload_n 0, 1) := by decide +kernel
theorem dX5_hold_21 : decode cX5_hold 21 = .ok (.ldc 92, 2) := by decide +kernel
theorem dX5_hold_23 : decode cX5_hold 23 = .ok (.invokevirtual 109, 3) := by decide +kernel
theorem dX5_hold_26 : decode cX5_hold 26 = .ok (.ireturn, 1) := by decide +kernel
theorem dX5_hold_27 : decode cX5_hold 27 = .ok (.aload_n 0, 1) := by decide +kernel
theorem dX5_hold_28 : decode cX5_hold 28 = .ok (.getfield 9, 3) := by decide +kernel
theorem dX5_hold_31 : decode cX5_hold 31 = .ok (.iconst 4, 1) := by decide +kernel
theorem dX5_hold_32 : decode cX5_hold 32 = .ok (.iload_n 1, 1) := by decide +kernel
theorem dX5_hold_33 : decode cX5_hold 33 = .ok (.iadd, 1) := by decide +kernel
theorem dX5_hold_34 : decode cX5_hold 34 = .ok (.iload_n 2, 1) := by decide +kernel
theorem dX5_hold_35 : decode cX5_hold 35 = .ok (.iastore, 1) := by decide +kernel
theorem dX5_hold_36 : decode cX5_hold 36 = .ok (.iconst 1, 1) := by decide +kernel
theorem dX5_hold_37 : decode cX5_hold 37 = .ok (.ireturn, 1) := by decide +kernel
theorem dX5_as_0 : decode cX5_as 0 = .ok (.iload_n 1, 1) := by decide +kernel
theorem dX5_as_1 : decode cX5_as 1 = .ok (.invokestatic 333, 3) := by decide +kernel
theorem dX5_as_4 : decode cX5_as 4 = .ok (.ifCond .eq 10, 3) := by decide +kernel
theorem dX5_as_7 : decode cX5_as 7 = .ok (.iload_n 2, 1) := by decide +kernel
theorem dX5_as_8 : decode cX5_as 8 = .ok (.invokestatic 105, 3) := by decide +kernel
theorem dX5_as_11 : decode cX5_as 11 = .ok (.ifCond .ne 10, 3) := by decide +kernel
theorem dX5_as_14 : decode cX5_as 14 = .ok (.aload_n 0, 1) := by decide +kernel
theorem dX5_as_15 : decode cX5_as 15 = .ok (.ldc 92, 2) := by decide +kernel
theorem dX5_as_17 : decode cX5_as 17 = .ok (.invokevirtual 109, 3) := by decide +kernel
theorem dX5_as_20 : decode cX5_as 20 = .ok (.ireturn, 1) := by decide +kernel
theorem dX5_as_21 : decode cX5_as 21 = .ok (.aload_n 0, 1) := by decide +kernel
theorem dX5_as_22 : decode cX5_as 22 = .ok (.getfield 9, 3) := by decide +kernel
theorem dX5_as_25 : decode cX5_as 25 = .ok (.iconst 4, 1) := by decide +kernel
theorem dX5_as_26 : decode cX5_as 26 = .ok (.iload_n 1, 1) := by decide +kernel
theorem dX5_as_27 : decode cX5_as 27 = .ok (.iadd, 1) := by decide +kernel
theorem dX5_as_28 : decode cX5_as 28 = .ok (.iaload, 1) := by decide +kernel
theorem dX5_as_29 : decode cX5_as 29 = .ok (.istore_n 3, 1) := by decide +kernel
theorem dX5_as_30 : decode cX5_as 30 = .ok (.iload_n 3, 1) := by decide +kernel
theorem dX5_as_31 : decode cX5_as 31 = .ok (.ifCond .ge 11, 3) := by decide +kernel
theorem dX5_as_34 : decode cX5_as 34 = .ok (.aload_n 0, 1) := by decide +kernel
theorem dX5_as_35 : decode cX5_as 35 = .ok (.ldc_w 336, 3) := by decide +kernel
theorem dX5_as_38 : decode cX5_as 38 = .ok (.invokevirtual 109, 3) := by decide +kernel
theorem dX5_as_41 : decode cX5_as 41 = .ok (.ireturn, 1) := by decide +kernel
theorem dX5_as_42 : decode cX5_as 42 = .ok (.aload_n 0, 1) := by decide +kernel
theorem dX5_as_43 : decode cX5_as 43 = .ok (.iload_n 3, 1) := by decide +kernel
theorem dX5_as_44 : decode cX5_as 44 = .ok (.iconst 0, 1) := by decide +kernel
theorem dX5_as_45 : decode cX5_as 45 = .ok (.invokevirtual 120, 3) := by decide +kernel
theorem dX5_as_48 : decode cX5_as 48 = .ok (.iload_n 2, 1) := by decide +kernel
theorem dX5_as_49 : decode cX5_as 49 = .ok (.invokestatic 337, 3) := by decide +kernel
theorem dX5_as_52 : decode cX5_as 52 = .ok (.ifCond .eq 7, 3) := by decide +kernel
theorem dX5_as_55 : decode cX5_as 55 = .ok (.iload_n 3, 1) := by decide +kernel
theorem dX5_as_56 : decode cX5_as 56 = .ok (.goto 10, 3) := by decide +kernel
theorem dX5_as_59 : decode cX5_as 59 = .ok (.aload_n 0, 1) := by decide +kernel
theorem dX5_as_60 : decode cX5_as 60 = .ok (.ldc_w 340, 3) := by decide +kernel
theorem dX5_as_63 : decode cX5_as 63 = .ok (.invokevirtual 109, 3) := by decide +kernel
theorem dX5_as_66 : decode cX5_as 66 = .ok (.ireturn, 1) := by decide +kernel
theorem dX5_isSheet_0 : decode cX5_isSheet 0 = .ok (.iload_n 0, 1) := by decide +kernel
theorem dX5_isSheet_1 : decode cX5_isSheet 1 = .ok (.iconst 0, 1) := by decide +kernel
theorem dX5_isSheet_2 : decode cX5_isSheet 2 = .ok (.iconst 3, 1) := by decide +kernel
theorem dX5_isSheet_3 : decode cX5_isSheet 3 = .ok (.invokestatic 97, 3) := by decide +kernel
theorem dX5_isSheet_6 : decode cX5_isSheet 6 = .ok (.ireturn, 1) := by decide +kernel
theorem dX5_cutTo_0 : decode cX5_cutTo 0 = .ok (.iload_n 1, 1) := by decide +kernel
theorem dX5_cutTo_1 : decode cX5_cutTo 1 = .ok (.bipush 8, 2) := by decide +kernel
theorem dX5_cutTo_3 : decode cX5_cutTo 3 = .ok (.if_icmp .ne 8, 3) := by decide +kernel
theorem dX5_cutTo_6 : decode cX5_cutTo 6 = .ok (.iload_n 0, 1) := by decide +kernel
theorem dX5_cutTo_7 : decode cX5_cutTo 7 = .ok (.i2b, 1) := by decide +kernel
theorem dX5_cutTo_8 : decode cX5_cutTo 8 = .ok (.goto 15, 3) := by decide +kernel
theorem dX5_cutTo_11 : decode cX5_cutTo 11 = .ok (.iload_n 1, 1) := by decide +kernel
theorem dX5_cutTo_12 : decode cX5_cutTo 12 = .ok (.bipush 16, 2) := by decide +kernel
theorem dX5_cutTo_14 : decode cX5_cutTo 14 = .ok (.if_icmp .ne 8, 3) := by decide +kernel
theorem dX5_cutTo_17 : decode cX5_cutTo 17 = .ok (.iload_n 0, 1) := by decide +kernel
theorem dX5_cutTo_18 : decode cX5_cutTo 18 = .ok (.i2s, 1) := by decide +kernel
theorem dX5_cutTo_19 : decode cX5_cutTo 19 = .ok (.goto 4, 3) := by decide +kernel
theorem dX5_cutTo_22 : decode cX5_cutTo 22 = .ok (.iload_n 0, 1) := by decide +kernel
theorem dX5_cutTo_23 : decode cX5_cutTo 23 = .ok (.ireturn, 1) := by decide +kernel
theorem dX5_sheet_0 : decode cX5_sheet 0 = .ok (.iload_n 1, 1) := by decide +kernel
theorem dX5_sheet_1 : decode cX5_sheet 1 = .ok (.invokestatic 341, 3) := by decide +kernel
theorem dX5_sheet_4 : decode cX5_sheet 4 = .ok (.ifCond .eq 25, 3) := by decide +kernel
theorem dX5_sheet_7 : decode cX5_sheet 7 = .ok (.iload_n 2, 1) := by decide +kernel
theorem dX5_sheet_8 : decode cX5_sheet 8 = .ok (.ifCond .eq 28, 3) := by decide +kernel
theorem dX5_sheet_11 : decode cX5_sheet 11 = .ok (.iload_n 2, 1) := by decide +kernel
theorem dX5_sheet_12 : decode cX5_sheet 12 = .ok (.bipush 8, 2) := by decide +kernel
theorem dX5_sheet_14 : decode cX5_sheet 14 = .ok (.if_icmp .eq 22, 3) := by decide +kernel
theorem dX5_sheet_17 : decode cX5_sheet 17 = .ok (.iload_n 2, 1) := by decide +kernel
theorem dX5_sheet_18 : decode cX5_sheet 18 = .ok (.bipush 16, 2) := by decide +kernel
theorem dX5_sheet_20 : decode cX5_sheet 20 = .ok (.if_icmp .eq 16, 3) := by decide +kernel
theorem dX5_sheet_23 : decode cX5_sheet 23 = .ok (.iload_n 2, 1) := by decide +kernel
theorem dX5_sheet_24 : decode cX5_sheet 24 = .ok (.bipush 32, 2) := by decide +kernel
theorem dX5_sheet_26 : decode cX5_sheet 26 = .ok (.if_icmp .eq 10, 3) := by decide +kernel
theorem dX5_sheet_29 : decode cX5_sheet 29 = .ok (.aload_n 0, 1) := by decide +kernel
theorem dX5_sheet_30 : decode cX5_sheet 30 = .ok (.ldc 92, 2) := by decide +kernel
theorem dX5_sheet_32 : decode cX5_sheet 32 = .ok (.invokevirtual 109, 3) := by decide +kernel
theorem dX5_sheet_35 : decode cX5_sheet 35 = .ok (.ireturn, 1) := by decide +kernel
theorem dX5_sheet_36 : decode cX5_sheet 36 = .ok (.iload_n 3, 1) := by decide +kernel
theorem dX5_sheet_37 : decode cX5_sheet 37 = .ok (.ifCond .ge 11, 3) := by decide +kernel
theorem dX5_sheet_40 : decode cX5_sheet 40 = .ok (.aload_n 0, 1) := by decide +kernel
theorem dX5_sheet_41 : decode cX5_sheet 41 = .ok (.ldc_w 344, 3) := by decide +kernel
theorem dX5_sheet_44 : decode cX5_sheet 44 = .ok (.invokevirtual 109, 3) := by decide +kernel
theorem dX5_sheet_47 : decode cX5_sheet 47 = .ok (.ireturn, 1) := by decide +kernel
theorem dX5_sheet_48 : decode cX5_sheet 48 = .ok (.iload_n 3, 1) := by decide +kernel
theorem dX5_sheet_49 : decode cX5_sheet 49 = .ok (.bipush 40, 2) := by decide +kernel
theorem dX5_sheet_51 : decode cX5_sheet 51 = .ok (.if_icmp .le 10, 3) := by decide +kernel
theorem dX5_sheet_54 : decode cX5_sheet 54 = .ok (.aload_n 0, 1) := by decide +kernel
theorem dX5_sheet_55 : decode cX5_sheet 55 = .ok (.ldc 92, 2) := by decide +kernel
theorem dX5_sheet_57 : decode cX5_sheet 57 = .ok (.invokevirtual 109, 3) := by decide +kernel
theorem dX5_sheet_60 : decode cX5_sheet 60 = .ok (.ireturn, 1) := by decide +kernel
theorem dX5_sheet_61 : decode cX5_sheet 61 = .ok (.aload_n 0, 1) := by decide +kernel
theorem dX5_sheet_62 : decode cX5_sheet 62 = .ok (.getfield 80, 3) := by decide +kernel
theorem dX5_sheet_65 : decode cX5_sheet 65 = .ok (.iload_n 1, 1) := by decide +kernel
theorem dX5_sheet_66 : decode cX5_sheet 66 = .ok (.iload_n 2, 1) := by decide +kernel
theorem dX5_sheet_67 : decode cX5_sheet 67 = .ok (.iastore, 1) := by decide +kernel
theorem dX5_sheet_68 : decode cX5_sheet 68 = .ok (.aload_n 0, 1) := by decide +kernel
theorem dX5_sheet_69 : decode cX5_sheet 69 = .ok (.getfield 83, 3) := by decide +kernel
theorem dX5_sheet_72 : decode cX5_sheet 72 = .ok (.iload_n 1, 1) := by decide +kernel
theorem dX5_sheet_73 : decode cX5_sheet 73 = .ok (.iload_n 2, 1) := by decide +kernel
theorem dX5_sheet_74 : decode cX5_sheet 74 = .ok (.ifCond .ne 7, 3) := by decide +kernel
theorem dX5_sheet_77 : decode cX5_sheet 77 = .ok (.iconst 0, 1) := by decide +kernel
theorem dX5_sheet_78 : decode cX5_sheet 78 = .ok (.goto 4, 3) := by decide +kernel
theorem dX5_sheet_81 : decode cX5_sheet 81 = .ok (.iload_n 3, 1) := by decide +kernel
theorem dX5_sheet_82 : decode cX5_sheet 82 = .ok (.iastore, 1) := by decide +kernel
theorem dX5_sheet_83 : decode cX5_sheet 83 = .ok (.iconst 0, 1) := by decide +kernel
theorem dX5_sheet_84 : decode cX5_sheet 84 = .ok (.istore 4, 2) := by decide +kernel
theorem dX5_sheet_86 : decode cX5_sheet 86 = .ok (.iload 4, 2) := by decide +kernel
theorem dX5_sheet_88 : decode cX5_sheet 88 = .ok (.bipush 40, 2) := by decide +kernel
theorem dX5_sheet_90 : decode cX5_sheet 90 = .ok (.if_icmp .ge 22, 3) := by decide +kernel
theorem dX5_sheet_93 : decode cX5_sheet 93 = .ok (.aload_n 0, 1) := by decide +kernel
theorem dX5_sheet_94 : decode cX5_sheet 94 = .ok (.getfield 86, 3) := by decide +kernel
theorem dX5_sheet_97 : decode cX5_sheet 97 = .ok (.bipush 40, 2) := by decide +kernel
theorem dX5_sheet_99 : decode cX5_sheet 99 = .ok (.iload_n 1, 1) := by decide +kernel
theorem dX5_sheet_100 : decode cX5_sheet 100 = .ok (.imul, 1) := by decide +kernel
theorem dX5_sheet_101 : decode cX5_sheet 101 = .ok (.iload 4, 2) := by decide +kernel
theorem dX5_sheet_103 : decode cX5_sheet 103 = .ok (.iadd, 1) := by decide +kernel
theorem dX5_sheet_104 : decode cX5_sheet 104 = .ok (.iconst 0, 1) := by decide +kernel
theorem dX5_sheet_105 : decode cX5_sheet 105 = .ok (.iastore, 1) := by decide +kernel
theorem dX5_sheet_106 : decode cX5_sheet 106 = .ok (.iinc 4 1, 3) := by decide +kernel
theorem dX5_sheet_109 : decode cX5_sheet 109 = .ok (.goto (-23), 3) := by decide +kernel
theorem dX5_sheet_112 : decode cX5_sheet 112 = .ok (.aload_n 0, 1) := by decide +kernel
theorem dX5_sheet_113 : decode cX5_sheet 113 = .ok (.getfield 83, 3) := by decide +kernel
theorem dX5_sheet_116 : decode cX5_sheet 116 = .ok (.iload_n 1, 1) := by decide +kernel
theorem dX5_sheet_117 : decode cX5_sheet 117 = .ok (.iaload, 1) := by decide +kernel
theorem dX5_sheet_118 : decode cX5_sheet 118 = .ok (.ireturn, 1) := by decide +kernel
theorem dX5_write_0 : decode cX5_write 0 = .ok (.iload_n 1, 1) := by decide +kernel
theorem dX5_write_1 : decode cX5_write 1 = .ok (.invokestatic 341, 3) := by decide +kernel
theorem dX5_write_4 : decode cX5_write 4 = .ok (.ifCond .ne 10, 3) := by decide +kernel
theorem dX5_write_7 : decode cX5_write 7 = .ok (.aload_n 0, 1) := by decide +kernel
theorem dX5_write_8 : decode cX5_write 8 = .ok (.ldc 92, 2) := by decide +kernel
theorem dX5_write_10 : decode cX5_write 10 = .ok (.invokevirtual 109, 3) := by decide +kernel
theorem dX5_write_13 : decode cX5_write 13 = .ok (.ireturn, 1) := by decide +kernel
theorem dX5_write_14 : decode cX5_write 14 = .ok (.aload_n 0, 1) := by decide +kernel
theorem dX5_write_15 : decode cX5_write 15 = .ok (.getfield 80, 3) := by decide +kernel
theorem dX5_write_18 : decode cX5_write 18 = .ok (.iload_n 1, 1) := by decide +kernel
theorem dX5_write_19 : decode cX5_write 19 = .ok (.iaload, 1) := by decide +kernel
theorem dX5_write_20 : decode cX5_write 20 = .ok (.ifCond .ne 11, 3) := by decide +kernel
theorem dX5_write_23 : decode cX5_write 23 = .ok (.aload_n 0, 1) := by decide +kernel
theorem dX5_write_24 : decode cX5_write 24 = .ok (.ldc_w 336, 3) := by decide +kernel
theorem dX5_write_27 : decode cX5_write 27 = .ok (.invokevirtual 109, 3) := by decide +kernel
theorem dX5_write_30 : decode cX5_write 30 = .ok (.ireturn, 1) := by decide +kernel
theorem dX5_write_31 : decode cX5_write 31 = .ok (.iload_n 2, 1) := by decide +kernel
theorem dX5_write_32 : decode cX5_write 32 = .ok (.iconst 0, 1) := by decide +kernel
theorem dX5_write_33 : decode cX5_write 33 = .ok (.aload_n 0, 1) := by decide +kernel
theorem dX5_write_34 : decode cX5_write 34 = .ok (.getfield 83, 3) := by decide +kernel
theorem dX5_write_37 : decode cX5_write 37 = .ok (.iload_n 1, 1) := by decide +kernel
theorem dX5_write_38 : decode cX5_write 38 = .ok (.iaload, 1) := by decide +kernel
theorem dX5_write_39 : decode cX5_write 39 = .ok (.iconst 1, 1) := by decide +kernel
theorem dX5_write_40 : decode cX5_write 40 = .ok (.isub, 1) := by decide +kernel
theorem dX5_write_41 : decode cX5_write 41 = .ok (.invokestatic 97, 3) := by decide +kernel
theorem dX5_write_44 : decode cX5_write 44 = .ok (.ifCond .ne 10, 3) := by decide +kernel
theorem dX5_write_47 : decode cX5_write 47 = .ok (.aload_n 0, 1) := by decide +kernel
theorem dX5_write_48 : decode cX5_write 48 = .ok (.ldc 92, 2) := by decide +kernel
theorem dX5_write_50 : decode cX5_write 50 = .ok (.invokevirtual 109, 3) := by decide +kernel
theorem dX5_write_53 : decode cX5_write 53 = .ok (.ireturn, 1) := by decide +kernel
theorem dX5_write_54 : decode cX5_write 54 = .ok (.aload_n 0, 1) := by decide +kernel
theorem dX5_write_55 : decode cX5_write 55 = .ok (.getfield 86, 3) := by decide +kernel
theorem dX5_write_58 : decode cX5_write 58 = .ok (.bipush 40, 2) := by decide +kernel
theorem dX5_write_60 : decode cX5_write 60 = .ok (.iload_n 1, 1) := by decide +kernel
theorem dX5_write_61 : decode cX5_write 61 = .ok (.imul, 1) := by decide +kernel
theorem dX5_write_62 : decode cX5_write 62 = .ok (.iload_n 2, 1) := by decide +kernel
theorem dX5_write_63 : decode cX5_write 63 = .ok (.iadd, 1) := by decide +kernel
theorem dX5_write_64 : decode cX5_write 64 = .ok (.iload_n 3, 1) := by decide +kernel
theorem dX5_write_65 : decode cX5_write 65 = .ok (.aload_n 0, 1) := by decide +kernel
theorem dX5_write_66 : decode cX5_write 66 = .ok (.getfield 80, 3) := by decide +kernel
theorem dX5_write_69 : decode cX5_write 69 = .ok (.iload_n 1, 1) := by decide +kernel
theorem dX5_write_70 : decode cX5_write 70 = .ok (.iaload, 1) := by decide +kernel
theorem dX5_write_71 : decode cX5_write 71 = .ok (.invokestatic 345, 3) := by decide +kernel
theorem dX5_write_74 : decode cX5_write 74 = .ok (.iastore, 1) := by decide +kernel
theorem dX5_write_75 : decode cX5_write 75 = .ok (.iconst 1, 1) := by decide +kernel
theorem dX5_write_76 : decode cX5_write 76 = .ok (.ireturn, 1) := by decide +kernel
theorem dX5_copy_0 : decode cX5_copy 0 = .ok (.iload_n 1, 1) := by decide +kernel
theorem dX5_copy_1 : decode cX5_copy 1 = .ok (.invokestatic 341, 3) := by decide +kernel
theorem dX5_copy_4 : decode cX5_copy 4 = .ok (.ifCond .eq 10, 3) := by decide +kernel
theorem dX5_copy_7 : decode cX5_copy 7 = .ok (.iload_n 3, 1) := by decide +kernel
theorem dX5_copy_8 : decode cX5_copy 8 = .ok (.invokestatic 341, 3) := by decide +kernel
theorem dX5_copy_11 : decode cX5_copy 11 = .ok (.ifCond .ne 10, 3) := by decide +kernel
theorem dX5_copy_14 : decode cX5_copy 14 = .ok (.aload_n 0, 1) := by decide +kernel
theorem dX5_copy_15 : decode cX5_copy 15 = .ok (.ldc 92, 2) := by decide +kernel
theorem dX5_copy_17 : decode cX5_copy 17 = .ok (.invokevirtual 109, 3) := by decide +kernel
theorem dX5_copy_20 : decode cX5_copy 20 = .ok (.ireturn, 1) := by decide +kernel
theorem dX5_copy_21 : decode cX5_copy 21 = .ok (.aload_n 0, 1) := by decide +kernel
theorem dX5_copy_22 : decode cX5_copy 22 = .ok (.getfield 80, 3) := by decide +kernel
theorem dX5_copy_25 : decode cX5_copy 25 = .ok (.iload_n 1, 1) := by decide +kernel
theorem dX5_copy_26 : decode cX5_copy 26 = .ok (.iaload, 1) := by decide +kernel
theorem dX5_copy_27 : decode cX5_copy 27 = .ok (.ifCond .eq 12, 3) := by decide +kernel
theorem dX5_copy_30 : decode cX5_copy 30 = .ok (.aload_n 0, 1) := by decide +kernel
theorem dX5_copy_31 : decode cX5_copy 31 = .ok (.getfield 80, 3) := by decide +kernel
theorem dX5_copy_34 : decode cX5_copy 34 = .ok (.iload_n 3, 1) := by decide +kernel
theorem dX5_copy_35 : decode cX5_copy 35 = .ok (.iaload, 1) := by decide +kernel
theorem dX5_copy_36 : decode cX5_copy 36 = .ok (.ifCond .ne 11, 3) := by decide +kernel
theorem dX5_copy_39 : decode cX5_copy 39 = .ok (.aload_n 0, 1) := by decide +kernel
theorem dX5_copy_40 : decode cX5_copy 40 = .ok (.ldc_w 336, 3) := by decide +kernel
theorem dX5_copy_43 : decode cX5_copy 43 = .ok (.invokevirtual 109, 3) := by decide +kernel
theorem dX5_copy_46 : decode cX5_copy 46 = .ok (.ireturn, 1) := by decide +kernel
theorem dX5_copy_47 : decode cX5_copy 47 = .ok (.aload_n 0, 1) := by decide +kernel
theorem dX5_copy_48 : decode cX5_copy 48 = .ok (.getfield 80, 3) := by decide +kernel
theorem dX5_copy_51 : decode cX5_copy 51 = .ok (.iload_n 1, 1) := by decide +kernel
theorem dX5_copy_52 : decode cX5_copy 52 = .ok (.iaload, 1) := by decide +kernel
theorem dX5_copy_53 : decode cX5_copy 53 = .ok (.aload_n 0, 1) := by decide +kernel
theorem dX5_copy_54 : decode cX5_copy 54 = .ok (.getfield 80, 3) := by decide +kernel
theorem dX5_copy_57 : decode cX5_copy 57 = .ok (.iload_n 3, 1) := by decide +kernel
theorem dX5_copy_58 : decode cX5_copy 58 = .ok (.iaload, 1) := by decide +kernel
theorem dX5_copy_59 : decode cX5_copy 59 = .ok (.if_icmp .eq 11, 3) := by decide +kernel
theorem dX5_copy_62 : decode cX5_copy 62 = .ok (.aload_n 0, 1) := by decide +kernel
theorem dX5_copy_63 : decode cX5_copy 63 = .ok (.ldc_w 340, 3) := by decide +kernel
theorem dX5_copy_66 : decode cX5_copy 66 = .ok (.invokevirtual 109, 3) := by decide +kernel
theorem dX5_copy_69 : decode cX5_copy 69 = .ok (.ireturn, 1) := by decide +kernel
theorem dX5_copy_70 : decode cX5_copy 70 = .ok (.iload_n 2, 1) := by decide +kernel
theorem dX5_copy_71 : decode cX5_copy 71 = .ok (.ifCond .lt 48, 3) := by decide +kernel
theorem dX5_copy_74 : decode cX5_copy 74 = .ok (.iload 4, 2) := by decide +kernel
theorem dX5_copy_76 : decode cX5_copy 76 = .ok (.ifCond .lt 43, 3) := by decide +kernel
theorem dX5_copy_79 : decode cX5_copy 79 = .ok (.iload 5, 2) := by decide +kernel
theorem dX5_copy_81 : decode cX5_copy 81 = .ok (.ifCond .lt 38, 3) := by decide +kernel
theorem dX5_copy_84 : decode cX5_copy 84 = .ok (.iload_n 2, 1) := by decide +kernel
theorem dX5_copy_85 : decode cX5_copy 85 = .ok (.i2l, 1) := by decide +kernel
theorem dX5_copy_86 : decode cX5_copy 86 = .ok (.iload 5, 2) := by decide +kernel
theorem dX5_copy_88 : decode cX5_copy 88 = .ok (.i2l, 1) := by decide +kernel
theorem dX5_copy_89 : decode cX5_copy 89 = .ok (.ladd, 1) := by decide +kernel
theorem dX5_copy_90 : decode cX5_copy 90 = .ok (.aload_n 0, 1) := by decide +kernel
theorem dX5_copy_91 : decode cX5_copy 91 = .ok (.getfield 83, 3) := by decide +kernel
theorem dX5_copy_94 : decode cX5_copy 94 = .ok (.iload_n 1, 1) := by decide +kernel
theorem dX5_copy_95 : decode cX5_copy 95 = .ok (.iaload, 1) := by decide +kernel
theorem dX5_copy_96 : decode cX5_copy 96 = .ok (.i2l, 1) := by decide +kernel
theorem dX5_copy_97 : decode cX5_copy 97 = .ok (.lcmp, 1) := by decide +kernel
theorem dX5_copy_98 : decode cX5_copy 98 = .ok (.ifCond .gt 21, 3) := by decide +kernel
theorem dX5_copy_101 : decode cX5_copy 101 = .ok (.iload 4, 2) := by decide +kernel
theorem dX5_copy_103 : decode cX5_copy 103 = .ok (.i2l, 1) := by decide +kernel
theorem dX5_copy_104 : decode cX5_copy 104 = .ok (.iload 5, 2) := by decide +kernel
theorem dX5_copy_106 : decode cX5_copy 106 = .ok (.i2l, 1) := by decide +kernel
theorem dX5_copy_107 : decode cX5_copy 107 = .ok (.ladd, 1) := by decide +kernel
theorem dX5_copy_108 : decode cX5_copy 108 = .ok (.aload_n 0, 1) := by decide +kernel
theorem dX5_copy_109 : decode cX5_copy 109 = .ok (.getfield 83, 3) := by decide +kernel
theorem dX5_copy_112 : decode cX5_copy 112 = .ok (.iload_n 3, 1) := by decide +kernel
theorem dX5_copy_113 : decode cX5_copy 113 = .ok (.iaload, 1) := by decide +kernel
theorem dX5_copy_114 : decode cX5_copy 114 = .ok (.i2l, 1) := by decide +kernel
theorem dX5_copy_115 : decode cX5_copy 115 = .ok (.lcmp, 1) := by decide +kernel
theorem dX5_copy_116 : decode cX5_copy 116 = .ok (.ifCond .le 10, 3) := by decide +kernel
theorem dX5_copy_119 : decode cX5_copy 119 = .ok (.aload_n 0, 1) := by decide +kernel
theorem dX5_copy_120 : decode cX5_copy 120 = .ok (.ldc 92, 2) := by decide +kernel
theorem dX5_copy_122 : decode cX5_copy 122 = .ok (.invokevirtual 109, 3) := by decide +kernel
theorem dX5_copy_125 : decode cX5_copy 125 = .ok (.ireturn, 1) := by decide +kernel
theorem dX5_copy_126 : decode cX5_copy 126 = .ok (.iconst 0, 1) := by decide +kernel
theorem dX5_copy_127 : decode cX5_copy 127 = .ok (.istore 6, 2) := by decide +kernel
theorem dX5_copy_129 : decode cX5_copy 129 = .ok (.iload 6, 2) := by decide +kernel
theorem dX5_copy_131 : decode cX5_copy 131 = .ok (.iload 5, 2) := by decide +kernel
theorem dX5_copy_133 : decode cX5_copy 133 = .ok (.if_icmp .ge 30, 3) := by decide +kernel
theorem dX5_copy_136 : decode cX5_copy 136 = .ok (.aload_n 0, 1) := by decide +kernel
theorem dX5_copy_137 : decode cX5_copy 137 = .ok (.getfield 89, 3) := by decide +kernel
theorem dX5_copy_140 : decode cX5_copy 140 = .ok (.iload 6, 2) := by decide +kernel
theorem dX5_copy_142 : decode cX5_copy 142 = .ok (.aload_n 0, 1) := by decide +kernel
theorem dX5_copy_143 : decode cX5_copy 143 = .ok (.getfield 86, 3) := by decide +kernel
theorem dX5_copy_146 : decode cX5_copy 146 = .ok (.bipush 40, 2) := by decide +kernel
theorem dX5_copy_148 : decode cX5_copy 148 = .ok (.iload_n 1, 1) := by decide +kernel
theorem dX5_copy_149 : decode cX5_copy 149 = .ok (.imul, 1) := by decide +kernel
theorem dX5_copy_150 : decode cX5_copy 150 = .ok (.iload_n 2, 1) := by decide +kernel
theorem dX5_copy_151 : decode cX5_copy 151 = .ok (.iadd, 1) := by decide +kernel
theorem dX5_copy_152 : decode cX5_copy 152 = .ok (.iload 6, 2) := by decide +kernel
theorem dX5_copy_154 : decode cX5_copy 154 = .ok (.iadd, 1) := by decide +kernel
theorem dX5_copy_155 : decode cX5_copy 155 = .ok (.iaload, 1) := by decide +kernel
theorem dX5_copy_156 : decode cX5_copy 156 = .ok (.iastore, 1) := by decide +kernel
theorem dX5_copy_157 : decode cX5_copy 157 = .ok (.iinc 6 1, 3) := by decide +kernel
theorem dX5_copy_160 : decode cX5_copy 160 = .ok (.goto (-31), 3) := by decide +kernel
theorem dX5_copy_163 : decode cX5_copy 163 = .ok (.iconst 0, 1) := by decide +kernel
theorem dX5_copy_164 : decode cX5_copy 164 = .ok (.istore 6, 2) := by decide +kernel
theorem dX5_copy_166 : decode cX5_copy 166 = .ok (.iload 6, 2) := by decide +kernel
theorem dX5_copy_168 : decode cX5_copy 168 = .ok (.iload 5, 2) := by decide +kernel
theorem dX5_copy_170 : decode cX5_copy 170 = .ok (.if_icmp .ge 31, 3) := by decide +kernel
theorem dX5_copy_173 : decode cX5_copy 173 = .ok (.aload_n 0, 1) := by decide +kernel
theorem dX5_copy_174 : decode cX5_copy 174 = .ok (.getfield 86, 3) := by decide +kernel
theorem dX5_copy_177 : decode cX5_copy 177 = .ok (.bipush 40, 2) := by decide +kernel
theorem dX5_copy_179 : decode cX5_copy 179 = .ok (.iload_n 3, 1) := by decide +kernel
theorem dX5_copy_180 : decode cX5_copy 180 = .ok (.imul, 1) := by decide +kernel
theorem dX5_copy_181 : decode cX5_copy 181 = .ok (.iload 4, 2) := by decide +kernel
theorem dX5_copy_183 : decode cX5_copy 183 = .ok (.iadd, 1) := by decide +kernel
theorem dX5_copy_184 : decode cX5_copy 184 = .ok (.iload 6, 2) := by decide +kernel
theorem dX5_copy_186 : decode cX5_copy 186 = .ok (.iadd, 1) := by decide +kernel
theorem dX5_copy_187 : decode cX5_copy 187 = .ok (.aload_n 0, 1) := by decide +kernel
theorem dX5_copy_188 : decode cX5_copy 188 = .ok (.getfield 89, 3) := by decide +kernel
theorem dX5_copy_191 : decode cX5_copy 191 = .ok (.iload 6, 2) := by decide +kernel
theorem dX5_copy_193 : decode cX5_copy 193 = .ok (.iaload, 1) := by decide +kernel
theorem dX5_copy_194 : decode cX5_copy 194 = .ok (.iastore, 1) := by decide +kernel
theorem dX5_copy_195 : decode cX5_copy 195 = .ok (.iinc 6 1, 3) := by decide +kernel
theorem dX5_copy_198 : decode cX5_copy 198 = .ok (.goto (-32), 3) := by decide +kernel
theorem dX5_copy_201 : decode cX5_copy 201 = .ok (.iload 5, 2) := by decide +kernel
theorem dX5_copy_203 : decode cX5_copy 203 = .ok (.ireturn, 1) := by decide +kernel
theorem dX5_load_0 : decode cX5_load 0 = .ok (.iload_n 1, 1) := by decide +kernel
theorem dX5_load_1 : decode cX5_load 1 = .ok (.invokestatic 341, 3) := by decide +kernel
theorem dX5_load_4 : decode cX5_load 4 = .ok (.ifCond .ne 10, 3) := by decide +kernel
theorem dX5_load_7 : decode cX5_load 7 = .ok (.aload_n 0, 1) := by decide +kernel
theorem dX5_load_8 : decode cX5_load 8 = .ok (.ldc 92, 2) := by decide +kernel
theorem dX5_load_10 : decode cX5_load 10 = .ok (.invokevirtual 109, 3) := by decide +kernel
theorem dX5_load_13 : decode cX5_load 13 = .ok (.ireturn, 1) := by decide +kernel
theorem dX5_load_14 : decode cX5_load 14 = .ok (.aload_n 0, 1) := by decide +kernel
theorem dX5_load_15 : decode cX5_load 15 = .ok (.getfield 80, 3) := by decide +kernel
theorem dX5_load_18 : decode cX5_load 18 = .ok (.iload_n 1, 1) := by decide +kernel
theorem dX5_load_19 : decode cX5_load 19 = .ok (.iaload, 1) := by decide +kernel
theorem dX5_load_20 : decode cX5_load 20 = .ok (.ifCond .ne 11, 3) := by decide +kernel
theorem dX5_load_23 : decode cX5_load 23 = .ok (.aload_n 0, 1) := by decide +kernel
theorem dX5_load_24 : decode cX5_load 24 = .ok (.ldc_w 336, 3) := by decide +kernel
theorem dX5_load_27 : decode cX5_load 27 = .ok (.invokevirtual 109, 3) := by decide +kernel
theorem dX5_load_30 : decode cX5_load 30 = .ok (.ireturn, 1) := by decide +kernel
theorem dX5_load_31 : decode cX5_load 31 = .ok (.iconst 0, 1) := by decide +kernel
theorem dX5_load_32 : decode cX5_load 32 = .ok (.istore_n 2, 1) := by decide +kernel
theorem dX5_load_33 : decode cX5_load 33 = .ok (.iload_n 2, 1) := by decide +kernel
theorem dX5_load_34 : decode cX5_load 34 = .ok (.aload_n 0, 1) := by decide +kernel
theorem dX5_load_35 : decode cX5_load 35 = .ok (.getfield 83, 3) := by decide +kernel
theorem dX5_load_38 : decode cX5_load 38 = .ok (.iload_n 1, 1) := by decide +kernel
theorem dX5_load_39 : decode cX5_load 39 = .ok (.iaload, 1) := by decide +kernel
theorem dX5_load_40 : decode cX5_load 40 = .ok (.if_icmp .ge 59, 3) := by decide +kernel
theorem dX5_load_43 : decode cX5_load 43 = .ok (.aload_n 0, 1) := by decide +kernel
theorem dX5_load_44 : decode cX5_load 44 = .ok (.iload_n 2, 1) := by decide +kernel
theorem dX5_load_45 : decode cX5_load 45 = .ok (.invokevirtual 128, 3) := by decide +kernel
theorem dX5_load_48 : decode cX5_load 48 = .ok (.ifCond .eq 51, 3) := by decide +kernel
theorem dX5_load_51 : decode cX5_load 51 = .ok (.aload_n 0, 1) := by decide +kernel
theorem dX5_load_52 : decode cX5_load 52 = .ok (.getfield 86, 3) := by decide +kernel
theorem dX5_load_55 : decode cX5_load 55 = .ok (.bipush 40, 2) := by decide +kernel
theorem dX5_load_57 : decode cX5_load 57 = .ok (.iload_n 1, 1) := by decide +kernel
theorem dX5_load_58 : decode cX5_load 58 = .ok (.imul, 1) := by decide +kernel
theorem dX5_load_59 : decode cX5_load 59 = .ok (.iload_n 2, 1) := by decide +kernel
theorem dX5_load_60 : decode cX5_load 60 = .ok (.iadd, 1) := by decide +kernel
theorem dX5_load_61 : decode cX5_load 61 = .ok (.iaload, 1) := by decide +kernel
theorem dX5_load_62 : decode cX5_load 62 = .ok (.iconst 0, 1) := by decide +kernel
theorem dX5_load_63 : decode cX5_load 63 = .ok (.sipush 999, 3) := by decide +kernel
theorem dX5_load_66 : decode cX5_load 66 = .ok (.invokestatic 97, 3) := by decide +kernel
theorem dX5_load_69 : decode cX5_load 69 = .ok (.ifCond .eq 30, 3) := by decide +kernel
theorem dX5_load_72 : decode cX5_load 72 = .ok (.aload_n 0, 1) := by decide +kernel
theorem dX5_load_73 : decode cX5_load 73 = .ok (.getfield 9, 3) := by decide +kernel
theorem dX5_load_76 : decode cX5_load 76 = .ok (.iload_n 2, 1) := by decide +kernel
theorem dX5_load_77 : decode cX5_load 77 = .ok (.iconst 2, 1) := by decide +kernel
theorem dX5_load_78 : decode cX5_load 78 = .ok (.invokestatic 101, 3) := by decide +kernel
theorem dX5_load_81 : decode cX5_load 81 = .ok (.aload_n 0, 1) := by decide +kernel
theorem dX5_load_82 : decode cX5_load 82 = .ok (.getfield 86, 3) := by decide +kernel
theorem dX5_load_85 : decode cX5_load 85 = .ok (.bipush 40, 2) := by decide +kernel
theorem dX5_load_87 : decode cX5_load 87 = .ok (.iload_n 1, 1) := by decide +kernel
theorem dX5_load_88 : decode cX5_load 88 = .ok (.imul, 1) := by decide +kernel
theorem dX5_load_89 : decode cX5_load 89 = .ok (.iload_n 2, 1) := by decide +kernel
theorem dX5_load_90 : decode cX5_load 90 = .ok (.iadd, 1) := by decide +kernel
theorem dX5_load_91 : decode cX5_load 91 = .ok (.iaload, 1) := by decide +kernel
theorem dX5_load_92 : decode cX5_load 92 = .ok (.iastore, 1) := by decide +kernel
theorem dX5_load_93 : decode cX5_load 93 = .ok (.iinc 2 1, 3) := by decide +kernel
theorem dX5_load_96 : decode cX5_load 96 = .ok (.goto (-63), 3) := by decide +kernel
theorem dX5_load_99 : decode cX5_load 99 = .ok (.iload_n 2, 1) := by decide +kernel
theorem dX5_load_100 : decode cX5_load 100 = .ok (.ireturn, 1) := by decide +kernel
theorem dX5_judge_0 : decode cX5_judge 0 = .ok (.iload_n 1, 1) := by decide +kernel
theorem dX5_judge_1 : decode cX5_judge 1 = .ok (.invokestatic 341, 3) := by decide +kernel
theorem dX5_judge_4 : decode cX5_judge 4 = .ok (.ifCond .ne 10, 3) := by decide +kernel
theorem dX5_judge_7 : decode cX5_judge 7 = .ok (.aload_n 0, 1) := by decide +kernel
theorem dX5_judge_8 : decode cX5_judge 8 = .ok (.ldc 92, 2) := by decide +kernel
theorem dX5_judge_10 : decode cX5_judge 10 = .ok (.invokevirtual 109, 3) := by decide +kernel
theorem dX5_judge_13 : decode cX5_judge 13 = .ok (.ireturn, 1) := by decide +kernel
theorem dX5_judge_14 : decode cX5_judge 14 = .ok (.aload_n 0, 1) := by decide +kernel
theorem dX5_judge_15 : decode cX5_judge 15 = .ok (.getfield 80, 3) := by decide +kernel
theorem dX5_judge_18 : decode cX5_judge 18 = .ok (.iload_n 1, 1) := by decide +kernel
theorem dX5_judge_19 : decode cX5_judge 19 = .ok (.iaload, 1) := by decide +kernel
theorem dX5_judge_20 : decode cX5_judge 20 = .ok (.ifCond .ne 11, 3) := by decide +kernel
theorem dX5_judge_23 : decode cX5_judge 23 = .ok (.aload_n 0, 1) := by decide +kernel
theorem dX5_judge_24 : decode cX5_judge 24 = .ok (.ldc_w 336, 3) := by decide +kernel
theorem dX5_judge_27 : decode cX5_judge 27 = .ok (.invokevirtual 109, 3) := by decide +kernel
theorem dX5_judge_30 : decode cX5_judge 30 = .ok (.ireturn, 1) := by decide +kernel
theorem dX5_judge_31 : decode cX5_judge 31 = .ok (.aload_n 0, 1) := by decide +kernel
theorem dX5_judge_32 : decode cX5_judge 32 = .ok (.iload_n 2, 1) := by decide +kernel
theorem dX5_judge_33 : decode cX5_judge 33 = .ok (.invokevirtual 128, 3) := by decide +kernel
theorem dX5_judge_36 : decode cX5_judge 36 = .ok (.ifCond .ne 10, 3) := by decide +kernel
theorem dX5_judge_39 : decode cX5_judge 39 = .ok (.aload_n 0, 1) := by decide +kernel
theorem dX5_judge_40 : decode cX5_judge 40 = .ok (.ldc 92, 2) := by decide +kernel
theorem dX5_judge_42 : decode cX5_judge 42 = .ok (.invokevirtual 109, 3) := by decide +kernel
theorem dX5_judge_45 : decode cX5_judge 45 = .ok (.ireturn, 1) := by decide +kernel
theorem dX5_judge_46 : decode cX5_judge 46 = .ok (.aload_n 0, 1) := by decide +kernel
theorem dX5_judge_47 : decode cX5_judge 47 = .ok (.aload_n 0, 1) := by decide +kernel
theorem dX5_judge_48 : decode cX5_judge 48 = .ok (.getfield 83, 3) := by decide +kernel
theorem dX5_judge_51 : decode cX5_judge 51 = .ok (.iload_n 1, 1) := by decide +kernel
theorem dX5_judge_52 : decode cX5_judge 52 = .ok (.iaload, 1) := by decide +kernel
theorem dX5_judge_53 : decode cX5_judge 53 = .ok (.invokevirtual 160, 3) := by decide +kernel
theorem dX5_judge_56 : decode cX5_judge 56 = .ok (.ifCond .eq 10, 3) := by decide +kernel
theorem dX5_judge_59 : decode cX5_judge 59 = .ok (.aload_n 0, 1) := by decide +kernel
theorem dX5_judge_60 : decode cX5_judge 60 = .ok (.ldc 163, 2) := by decide +kernel
theorem dX5_judge_62 : decode cX5_judge 62 = .ok (.invokevirtual 109, 3) := by decide +kernel
theorem dX5_judge_65 : decode cX5_judge 65 = .ok (.ireturn, 1) := by decide +kernel
theorem dX5_judge_66 : decode cX5_judge 66 = .ok (.aload_n 0, 1) := by decide +kernel
theorem dX5_judge_67 : decode cX5_judge 67 = .ok (.getfield 9, 3) := by decide +kernel
theorem dX5_judge_70 : decode cX5_judge 70 = .ok (.aload_n 0, 1) := by decide +kernel
theorem dX5_judge_71 : decode cX5_judge 71 = .ok (.getfield 16, 3) := by decide +kernel
theorem dX5_judge_74 : decode cX5_judge 74 = .ok (.invokestatic 93, 3) := by decide +kernel
theorem dX5_judge_77 : decode cX5_judge 77 = .ok (.iconst 0, 1) := by decide +kernel
theorem dX5_judge_78 : decode cX5_judge 78 = .ok (.istore_n 3, 1) := by decide +kernel
theorem dX5_judge_79 : decode cX5_judge 79 = .ok (.iload_n 3, 1) := by decide +kernel
theorem dX5_judge_80 : decode cX5_judge 80 = .ok (.aload_n 0, 1) := by decide +kernel
theorem dX5_judge_81 : decode cX5_judge 81 = .ok (.getfield 83, 3) := by decide +kernel
theorem dX5_judge_84 : decode cX5_judge 84 = .ok (.iload_n 1, 1) := by decide +kernel
theorem dX5_judge_85 : decode cX5_judge 85 = .ok (.iaload, 1) := by decide +kernel
theorem dX5_judge_86 : decode cX5_judge 86 = .ok (.if_icmp .ge 37, 3) := by decide +kernel
theorem dX5_judge_89 : decode cX5_judge 89 = .ok (.aload_n 0, 1) := by decide +kernel
theorem dX5_judge_90 : decode cX5_judge 90 = .ok (.iconst 1, 1) := by decide +kernel
theorem dX5_judge_91 : decode cX5_judge 91 = .ok (.invokevirtual 164, 3) := by decide +kernel
theorem dX5_judge_94 : decode cX5_judge 94 = .ok (.ifCond .lt 29, 3) := by decide +kernel
theorem dX5_judge_97 : decode cX5_judge 97 = .ok (.aload_n 0, 1) := by decide +kernel
theorem dX5_judge_98 : decode cX5_judge 98 = .ok (.iload_n 2, 1) := by decide +kernel
theorem dX5_judge_99 : decode cX5_judge 99 = .ok (.iconst 1, 1) := by decide +kernel
theorem dX5_judge_100 : decode cX5_judge 100 = .ok (.invokevirtual 120, 3) := by decide +kernel
theorem dX5_judge_103 : decode cX5_judge 103 = .ok (.aload_n 0, 1) := by decide +kernel
theorem dX5_judge_104 : decode cX5_judge 104 = .ok (.getfield 86, 3) := by decide +kernel
theorem dX5_judge_107 : decode cX5_judge 107 = .ok (.bipush 40, 2) := by decide +kernel
theorem dX5_judge_109 : decode cX5_judge 109 = .ok (.iload_n 1, 1) := by decide +kernel
theorem dX5_judge_110 : decode cX5_judge 110 = .ok (.imul, 1) := by decide +kernel
theorem dX5_judge_111 : decode cX5_judge 111 = .ok (.iload_n 3, 1) := by decide +kernel
theorem dX5_judge_112 : decode cX5_judge 112 = .ok (.iadd, 1) := by decide +kernel
theorem dX5_judge_113 : decode cX5_judge 113 = .ok (.iaload, 1) := by decide +kernel
theorem dX5_judge_114 : decode cX5_judge 114 = .ok (.if_icmp .ne 9, 3) := by decide +kernel
theorem dX5_judge_117 : decode cX5_judge 117 = .ok (.iinc 3 1, 3) := by decide +kernel
theorem dX5_judge_120 : decode cX5_judge 120 = .ok (.goto (-41), 3) := by decide +kernel
theorem dX5_judge_123 : decode cX5_judge 123 = .ok (.aload_n 0, 1) := by decide +kernel
theorem dX5_judge_124 : decode cX5_judge 124 = .ok (.iload_n 3, 1) := by decide +kernel
theorem dX5_judge_125 : decode cX5_judge 125 = .ok (.aload_n 0, 1) := by decide +kernel
theorem dX5_judge_126 : decode cX5_judge 126 = .ok (.getfield 83, 3) := by decide +kernel
theorem dX5_judge_129 : decode cX5_judge 129 = .ok (.iload_n 1, 1) := by decide +kernel
theorem dX5_judge_130 : decode cX5_judge 130 = .ok (.iaload, 1) := by decide +kernel
theorem dX5_judge_131 : decode cX5_judge 131 = .ok (.if_icmp .ne 7, 3) := by decide +kernel
theorem dX5_judge_134 : decode cX5_judge 134 = .ok (.iconst 0, 1) := by decide +kernel
theorem dX5_judge_135 : decode cX5_judge 135 = .ok (.goto 6, 3) := by decide +kernel
theorem dX5_judge_138 : decode cX5_judge 138 = .ok (.iconst 1, 1) := by decide +kernel
theorem dX5_judge_139 : decode cX5_judge 139 = .ok (.iload_n 3, 1) := by decide +kernel
theorem dX5_judge_140 : decode cX5_judge 140 = .ok (.iadd, 1) := by decide +kernel
theorem dX5_judge_141 : decode cX5_judge 141 = .ok (.invokevirtual 179, 3) := by decide +kernel
theorem dX5_judge_144 : decode cX5_judge 144 = .ok (.ireturn, 1) := by decide +kernel
theorem dX5_image_0 : decode cX5_image 0 = .ok (.aload_n 0, 1) := by decide +kernel
theorem dX5_image_1 : decode cX5_image 1 = .ok (.getfield 9, 3) := by decide +kernel
theorem dX5_image_4 : decode cX5_image 4 = .ok (.aload_n 0, 1) := by decide +kernel
theorem dX5_image_5 : decode cX5_image 5 = .ok (.getfield 13, 3) := by decide +kernel
theorem dX5_image_8 : decode cX5_image 8 = .ok (.invokestatic 93, 3) := by decide +kernel
theorem dX5_image_11 : decode cX5_image 11 = .ok (.aload_n 0, 1) := by decide +kernel
theorem dX5_image_12 : decode cX5_image 12 = .ok (.iconst 1, 1) := by decide +kernel
theorem dX5_image_13 : decode cX5_image 13 = .ok (.putfield 348, 3) := by decide +kernel
theorem dX5_image_16 : decode cX5_image 16 = .ok (.iconst 1, 1) := by decide +kernel
theorem dX5_image_17 : decode cX5_image 17 = .ok (.ireturn, 1) := by decide +kernel
theorem dX5_undo_0 : decode cX5_undo 0 = .ok (.aload_n 0, 1) := by decide +kernel
theorem dX5_undo_1 : decode cX5_undo 1 = .ok (.getfield 348, 3) := by decide +kernel
theorem dX5_undo_4 : decode cX5_undo 4 = .ok (.ifCond .ne 10, 3) := by decide +kernel
theorem dX5_undo_7 : decode cX5_undo 7 = .ok (.aload_n 0, 1) := by decide +kernel
theorem dX5_undo_8 : decode cX5_undo 8 = .ok (.ldc 186, 2) := by decide +kernel
theorem dX5_undo_10 : decode cX5_undo 10 = .ok (.invokevirtual 109, 3) := by decide +kernel
theorem dX5_undo_13 : decode cX5_undo 13 = .ok (.ireturn, 1) := by decide +kernel
theorem dX5_undo_14 : decode cX5_undo 14 = .ok (.aload_n 0, 1) := by decide +kernel
theorem dX5_undo_15 : decode cX5_undo 15 = .ok (.getfield 13, 3) := by decide +kernel
theorem dX5_undo_18 : decode cX5_undo 18 = .ok (.aload_n 0, 1) := by decide +kernel
theorem dX5_undo_19 : decode cX5_undo 19 = .ok (.getfield 9, 3) := by decide +kernel
theorem dX5_undo_22 : decode cX5_undo 22 = .ok (.invokestatic 93, 3) := by decide +kernel
theorem dX5_undo_25 : decode cX5_undo 25 = .ok (.aload_n 0, 1) := by decide +kernel
theorem dX5_undo_26 : decode cX5_undo 26 = .ok (.getfield 9, 3) := by decide +kernel
theorem dX5_undo_29 : decode cX5_undo 29 = .ok (.iconst 0, 1) := by decide +kernel
theorem dX5_undo_30 : decode cX5_undo 30 = .ok (.iaload, 1) := by decide +kernel
theorem dX5_undo_31 : decode cX5_undo 31 = .ok (.ireturn, 1) := by decide +kernel
theorem dX5_tear_0 : decode cX5_tear 0 = .ok (.aload_n 0, 1) := by decide +kernel
theorem dX5_tear_1 : decode cX5_tear 1 = .ok (.getfield 348, 3) := by decide +kernel
theorem dX5_tear_4 : decode cX5_tear 4 = .ok (.ifCond .eq 7, 3) := by decide +kernel
theorem dX5_tear_7 : decode cX5_tear 7 = .ok (.iconst 1, 1) := by decide +kernel
theorem dX5_tear_8 : decode cX5_tear 8 = .ok (.goto 4, 3) := by decide +kernel
theorem dX5_tear_11 : decode cX5_tear 11 = .ok (.iconst 0, 1) := by decide +kernel
theorem dX5_tear_12 : decode cX5_tear 12 = .ok (.istore_n 1, 1) := by decide +kernel
theorem dX5_tear_13 : decode cX5_tear 13 = .ok (.aload_n 0, 1) := by decide +kernel
theorem dX5_tear_14 : decode cX5_tear 14 = .ok (.iconst 0, 1) := by decide +kernel
theorem dX5_tear_15 : decode cX5_tear 15 = .ok (.putfield 348, 3) := by decide +kernel
theorem dX5_tear_18 : decode cX5_tear 18 = .ok (.iload_n 1, 1) := by decide +kernel
theorem dX5_tear_19 : decode cX5_tear 19 = .ok (.ireturn, 1) := by decide +kernel
theorem dX5_count_0 : decode cX5_count 0 = .ok (.iconst 0, 1) := by decide +kernel
theorem dX5_count_1 : decode cX5_count 1 = .ok (.istore_n 2, 1) := by decide +kernel
theorem dX5_count_2 : decode cX5_count 2 = .ok (.iload_n 1, 1) := by decide +kernel
theorem dX5_count_3 : decode cX5_count 3 = .ok (.tableswitch 124 0 7 #[45, 52, 59, 65, 71, 77, 82, 89], 45) := by decide +kernel
theorem dX5_count_48 : decode cX5_count 48 = .ok (.aload_n 0, 1) := by decide +kernel
theorem dX5_count_49 : decode cX5_count 49 = .ok (.getfield 9, 3) := by decide +kernel
theorem dX5_count_52 : decode cX5_count 52 = .ok (.iconst 0, 1) := by decide +kernel
theorem dX5_count_53 : decode cX5_count 53 = .ok (.iaload, 1) := by decide +kernel
theorem dX5_count_54 : decode cX5_count 54 = .ok (.ireturn, 1) := by decide +kernel
theorem dX5_count_55 : decode cX5_count 55 = .ok (.aload_n 0, 1) := by decide +kernel
theorem dX5_count_56 : decode cX5_count 56 = .ok (.getfield 9, 3) := by decide +kernel
theorem dX5_count_59 : decode cX5_count 59 = .ok (.iconst 2, 1) := by decide +kernel
theorem dX5_count_60 : decode cX5_count 60 = .ok (.iaload, 1) := by decide +kernel
theorem dX5_count_61 : decode cX5_count 61 = .ok (.ireturn, 1) := by decide +kernel
theorem dX5_count_62 : decode cX5_count 62 = .ok (.aload_n 0, 1) := by decide +kernel
theorem dX5_count_63 : decode cX5_count 63 = .ok (.iconst 2, 1) := by decide +kernel
theorem dX5_count_64 : decode cX5_count 64 = .ok (.invokevirtual 173, 3) := by decide +kernel
theorem dX5_count_67 : decode cX5_count 67 = .ok (.ireturn, 1) := by decide +kernel
theorem dX5_count_68 : decode cX5_count 68 = .ok (.aload_n 0, 1) := by decide +kernel
theorem dX5_count_69 : decode cX5_count 69 = .ok (.iconst 1, 1) := by decide +kernel
theorem dX5_count_70 : decode cX5_count 70 = .ok (.invokevirtual 173, 3) := by decide +kernel
theorem dX5_count_73 : decode cX5_count 73 = .ok (.ireturn, 1) := by decide +kernel
theorem dX5_count_74 : decode cX5_count 74 = .ok (.aload_n 0, 1) := by decide +kernel
theorem dX5_count_75 : decode cX5_count 75 = .ok (.iconst 5, 1) := by decide +kernel
theorem dX5_count_76 : decode cX5_count 76 = .ok (.invokevirtual 173, 3) := by decide +kernel
theorem dX5_count_79 : decode cX5_count 79 = .ok (.ireturn, 1) := by decide +kernel
theorem dX5_count_80 : decode cX5_count 80 = .ok (.aload_n 0, 1) := by decide +kernel
theorem dX5_count_81 : decode cX5_count 81 = .ok (.getfield 260, 3) := by decide +kernel
theorem dX5_count_84 : decode cX5_count 84 = .ok (.ireturn, 1) := by decide +kernel
theorem dX5_count_85 : decode cX5_count 85 = .ok (.aload_n 0, 1) := by decide +kernel
theorem dX5_count_86 : decode cX5_count 86 = .ok (.getfield 9, 3) := by decide +kernel
theorem dX5_count_89 : decode cX5_count 89 = .ok (.iconst 3, 1) := by decide +kernel
theorem dX5_count_90 : decode cX5_count 90 = .ok (.iaload, 1) := by decide +kernel
theorem dX5_count_91 : decode cX5_count 91 = .ok (.ireturn, 1) := by decide +kernel
theorem dX5_count_92 : decode cX5_count 92 = .ok (.iconst 0, 1) := by decide +kernel
theorem dX5_count_93 : decode cX5_count 93 = .ok (.istore_n 3, 1) := by decide +kernel
theorem dX5_count_94 : decode cX5_count 94 = .ok (.iload_n 3, 1) := by decide +kernel
theorem dX5_count_95 : decode cX5_count 95 = .ok (.bipush 10, 2) := by decide +kernel
theorem dX5_count_97 : decode cX5_count 97 = .ok (.if_icmp .ge 28, 3) := by decide +kernel
theorem dX5_count_100 : decode cX5_count 100 = .ok (.iload_n 2, 1) := by decide +kernel
theorem dX5_count_101 : decode cX5_count 101 = .ok (.aload_n 0, 1) := by decide +kernel
theorem dX5_count_102 : decode cX5_count 102 = .ok (.getfield 9, 3) := by decide +kernel
theorem dX5_count_105 : decode cX5_count 105 = .ok (.iconst 4, 1) := by decide +kernel
theorem dX5_count_106 : decode cX5_count 106 = .ok (.iload_n 3, 1) := by decide +kernel
theorem dX5_count_107 : decode cX5_count 107 = .ok (.iadd, 1) := by decide +kernel
theorem dX5_count_108 : decode cX5_count 108 = .ok (.iaload, 1) := by decide +kernel
theorem dX5_count_109 : decode cX5_count 109 = .ok (.ifCond .ge 7, 3) := by decide +kernel
theorem dX5_count_112 : decode cX5_count 112 = .ok (.iconst 0, 1) := by decide +kernel
theorem dX5_count_113 : decode cX5_count 113 = .ok (.goto 4, 3) := by decide +kernel
theorem dX5_count_116 : decode cX5_count 116 = .ok (.iconst 1, 1) := by decide +kernel
theorem dX5_count_117 : decode cX5_count 117 = .ok (.iadd, 1) := by decide +kernel
theorem dX5_count_118 : decode cX5_count 118 = .ok (.istore_n 2, 1) := by decide +kernel
theorem dX5_count_119 : decode cX5_count 119 = .ok (.iinc 3 1, 3) := by decide +kernel
theorem dX5_count_122 : decode cX5_count 122 = .ok (.goto (-28), 3) := by decide +kernel
theorem dX5_count_125 : decode cX5_count 125 = .ok (.iload_n 2, 1) := by decide +kernel
theorem dX5_count_126 : decode cX5_count 126 = .ok (.ireturn, 1) := by decide +kernel
theorem dX5_count_127 : decode cX5_count 127 = .ok (.aload_n 0, 1) := by decide +kernel
theorem dX5_count_128 : decode cX5_count 128 = .ok (.ldc 92, 2) := by decide +kernel
theorem dX5_count_130 : decode cX5_count 130 = .ok (.invokevirtual 109, 3) := by decide +kernel
theorem dX5_count_133 : decode cX5_count 133 = .ok (.ireturn, 1) := by decide +kernel
theorem dX5_status_0 : decode cX5_status 0 = .ok (.iload_n 1, 1) := by decide +kernel
theorem dX5_status_1 : decode cX5_status 1 = .ok (.iconst (-1), 1) := by decide +kernel
theorem dX5_status_2 : decode cX5_status 2 = .ok (.bipush 6, 2) := by decide +kernel
theorem dX5_status_4 : decode cX5_status 4 = .ok (.invokestatic 97, 3) := by decide +kernel
theorem dX5_status_7 : decode cX5_status 7 = .ok (.ifCond .eq 14, 3) := by decide +kernel
theorem dX5_status_10 : decode cX5_status 10 = .ok (.aload_n 0, 1) := by decide +kernel
theorem dX5_status_11 : decode cX5_status 11 = .ok (.getfield 19, 3) := by decide +kernel
theorem dX5_status_14 : decode cX5_status 14 = .ok (.iload_n 1, 1) := by decide +kernel
theorem dX5_status_15 : decode cX5_status 15 = .ok (.iconst 1, 1) := by decide +kernel
theorem dX5_status_16 : decode cX5_status 16 = .ok (.iadd, 1) := by decide +kernel
theorem dX5_status_17 : decode cX5_status 17 = .ok (.iaload, 1) := by decide +kernel
theorem dX5_status_18 : decode cX5_status 18 = .ok (.goto 9, 3) := by decide +kernel
theorem dX5_status_21 : decode cX5_status 21 = .ok (.aload_n 0, 1) := by decide +kernel
theorem dX5_status_22 : decode cX5_status 22 = .ok (.ldc 92, 2) := by decide +kernel
theorem dX5_status_24 : decode cX5_status 24 = .ok (.invokevirtual 109, 3) := by decide +kernel
theorem dX5_status_27 : decode cX5_status 27 = .ok (.ireturn, 1) := by decide +kernel
