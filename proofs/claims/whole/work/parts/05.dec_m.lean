theorem dX12_init_0 : decode cX12_init 0 = .ok (.aload_n 0, 1) := by decide +kernel
theorem dX12_init_1 : decode cX12_init 1 = .ok (.invokespecial 1, 3) := by decide +kernel
theorem dX12_init_4 : decode cX12_init 4 = .ok (.aload_n 0, 1) := by decide +kernel
theorem dX12_init_5 : decode cX12_init 5 = .ok (.sipush 1000, 3) := by decide +kernel
theorem dX12_init_8 : decode cX12_init 8 = .ok (.newarray .byte, 2) := by decide +kernel
theorem dX12_init_10 : decode cX12_init 10 = .ok (.putfield 7, 3) := by decide +kernel
theorem dX12_init_13 : decode cX12_init 13 = .ok (.aload_n 0, 1) := by decide +kernel
theorem dX12_init_14 : decode cX12_init 14 = .ok (.sipush 1000, 3) := by decide +kernel
theorem dX12_init_17 : decode cX12_init 17 = .ok (.newarray .byte, 2) := by decide +kernel
theorem dX12_init_19 : decode cX12_init 19 = .ok (.putfield 13, 3) := by decide +kernel
theorem dX12_init_22 : decode cX12_init 22 = .ok (.aload_n 0, 1) := by decide +kernel
theorem dX12_init_23 : decode cX12_init 23 = .ok (.sipush 1100, 3) := by decide +kernel
theorem dX12_init_26 : decode cX12_init 26 = .ok (.newarray .byte, 2) := by decide +kernel
theorem dX12_init_28 : decode cX12_init 28 = .ok (.putfield 16, 3) := by decide +kernel
theorem dX12_init_31 : decode cX12_init 31 = .ok (.aload_n 0, 1) := by decide +kernel
theorem dX12_init_32 : decode cX12_init 32 = .ok (.sipush 1000, 3) := by decide +kernel
theorem dX12_init_35 : decode cX12_init 35 = .ok (.newarray .byte, 2) := by decide +kernel
theorem dX12_init_37 : decode cX12_init 37 = .ok (.putfield 19, 3) := by decide +kernel
theorem dX12_init_40 : decode cX12_init 40 = .ok (.aload_n 0, 1) := by decide +kernel
theorem dX12_init_41 : decode cX12_init 41 = .ok (.sipush 256, 3) := by decide +kernel
theorem dX12_init_44 : decode cX12_init 44 = .ok (.newarray .byte, 2) := by decide +kernel
theorem dX12_init_46 : decode cX12_init 46 = .ok (.putfield 22, 3) := by decide +kernel
theorem dX12_init_49 : decode cX12_init 49 = .ok (.aload_n 0, 1) := by decide +kernel
theorem dX12_init_50 : decode cX12_init 50 = .ok (.bipush 64, 2) := by decide +kernel
theorem dX12_init_52 : decode cX12_init 52 = .ok (.newarray .int, 2) := by decide +kernel
theorem dX12_init_54 : decode cX12_init 54 = .ok (.dup, 1) := by decide +kernel
theorem dX12_init_55 : decode cX12_init 55 = .ok (.iconst 0, 1) := by decide +kernel
theorem dX12_init_56 : decode cX12_init 56 = .ok (.ldc 25, 2) := by decide +kernel
theorem dX12_init_58 : decode cX12_init 58 = .ok (.iastore, 1) := by decide +kernel
theorem dX12_init_59 : decode cX12_init 59 = .ok (.dup, 1) := by decide +kernel
theorem dX12_init_60 : decode cX12_init 60 = .ok (.iconst 1, 1) := by decide +kernel
theorem dX12_init_61 : decode cX12_init 61 = .ok (.ldc 26, 2) := by decide +kernel
theorem dX12_init_63 : decode cX12_init 63 = .ok (.iastore, 1) := by decide +kernel
theorem dX12_init_64 : decode cX12_init 64 = .ok (.dup, 1) := by decide +kernel
theorem dX12_init_65 : decode cX12_init 65 = .ok (.iconst 2, 1) := by decide +kernel
theorem dX12_init_66 : decode cX12_init 66 = .ok (.ldc 27, 2) := by decide +kernel
theorem dX12_init_68 : decode cX12_init 68 = .ok (.iastore, 1) := by decide +kernel
theorem dX12_init_69 : decode cX12_init 69 = .ok (.dup, 1) := by decide +kernel
theorem dX12_init_70 : decode cX12_init 70 = .ok (.iconst 3, 1) := by decide +kernel
theorem dX12_init_71 : decode cX12_init 71 = .ok (.ldc 28, 2) := by decide +kernel
theorem dX12_init_73 : decode cX12_init 73 = .ok (.iastore, 1) := by decide +kernel
theorem dX12_init_74 : decode cX12_init 74 = .ok (.dup, 1) := by decide +kernel
theorem dX12_init_75 : decode cX12_init 75 = .ok (.iconst 4, 1) := by decide +kernel
theorem dX12_init_76 : decode cX12_init 76 = .ok (.ldc 29, 2) := by decide +kernel
theorem dX12_init_78 : decode cX12_init 78 = .ok (.iastore, 1) := by decide +kernel
theorem dX12_init_79 : decode cX12_init 79 = .ok (.dup, 1) := by decide +kernel
theorem dX12_init_80 : decode cX12_init 80 = .ok (.iconst 5, 1) := by decide +kernel
theorem dX12_init_81 : decode cX12_init 81 = .ok (.ldc 30, 2) := by decide +kernel
theorem dX12_init_83 : decode cX12_init 83 = .ok (.iastore, 1) := by decide +kernel
theorem dX12_init_84 : decode cX12_init 84 = .ok (.dup, 1) := by decide +kernel
theorem dX12_init_85 : decode cX12_init 85 = .ok (.bipush 6, 2) := by decide +kernel
theorem dX12_init_87 : decode cX12_init 87 = .ok (.ldc 31, 2) := by decide +kernel
theorem dX12_init_89 : decode cX12_init 89 = .ok (.iastore, 1) := by decide +kernel
theorem dX12_init_90 : decode cX12_init 90 = .ok (.dup, 1) := by decide +kernel
theorem dX12_init_91 : decode cX12_init 91 = .ok (.bipush 7, 2) := by decide +kernel
theorem dX12_init_93 : decode cX12_init 93 = .ok (.ldc 32, 2) := by decide +kernel
theorem dX12_init_95 : decode cX12_init 95 = .ok (.iastore, 1) := by decide +kernel
theorem dX12_init_96 : decode cX12_init 96 = .ok (.dup, 1) := by decide +kernel
theorem dX12_init_97 : decode cX12_init 97 = .ok (.bipush 8, 2) := by decide +kernel
theorem dX12_init_99 : decode cX12_init 99 = .ok (.ldc 33, 2) := by decide +kernel
theorem dX12_init_101 : decode cX12_init 101 = .ok (.iastore, 1) := by decide +kernel
theorem dX12_init_102 : decode cX12_init 102 = .ok (.dup, 1) := by decide +kernel
theorem dX12_init_103 : decode cX12_init 103 = .ok (.bipush 9, 2) := by decide +kernel
theorem dX12_init_105 : decode cX12_init 105 = .ok (.ldc 34, 2) := by decide +kernel
theorem dX12_init_107 : decode cX12_init 107 = .ok (.iastore, 1) := by decide +kernel
theorem dX12_init_108 : decode cX12_init 108 = .ok (.dup, 1) := by decide +kernel
theorem dX12_init_109 : decode cX12_init 109 = .ok (.bipush 10, 2) := by decide +kernel
theorem dX12_init_111 : decode cX12_init 111 = .ok (.ldc 35, 2) := by decide +kernel
theorem dX12_init_113 : decode cX12_init 113 = .ok (.iastore, 1) := by decide +kernel
theorem dX12_init_114 : decode cX12_init 114 = .ok (.dup, 1) := by decide +kernel
theorem dX12_init_115 : decode cX12_init 115 = .ok (.bipush 11, 2) := by decide +kernel
theorem dX12_init_117 : decode cX12_init 117 = .ok (.ldc 36, 2) := by decide +kernel
theorem dX12_init_119 : decode cX12_init 119 = .ok (.iastore, 1) := by decide +kernel
theorem dX12_init_120 : decode cX12_init 120 = .ok (.dup, 1) := by decide +kernel
theorem dX12_init_121 : decode cX12_init 121 = .ok (.bipush 12, 2) := by decide +kernel
theorem dX12_init_123 : decode cX12_init 123 = .ok (.ldc 37, 2) := by decide +kernel
theorem dX12_init_125 : decode cX12_init 125 = .ok (.iastore, 1) := by decide +kernel
theorem dX12_init_126 : decode cX12_init 126 = .ok (.dup, 1) := by decide +kernel
theorem dX12_init_127 : decode cX12_init 127 = .ok (.bipush 13, 2) := by decide +kernel
theorem dX12_init_129 : decode cX12_init 129 = .ok (.ldc 38, 2) := by decide +kernel
theorem dX12_init_131 : decode cX12_init 131 = .ok (.iastore, 1) := by decide +kernel
theorem dX12_init_132 : decode cX12_init 132 = .ok (.dup, 1) := by decide +kernel
theorem dX12_init_133 : decode cX12_init 133 = .ok (.bipush 14, 2) := by decide +kernel
theorem dX12_init_135 : decode cX12_init 135 = .ok (.ldc 39, 2) := by decide +kernel
theorem dX12_init_137 : decode cX12_init 137 = .ok (.iastore, 1) := by decide +kernel
theorem dX12_init_138 : decode cX12_init 138 = .ok (.dup, 1) := by decide +kernel
theorem dX12_init_139 : decode cX12_init 139 = .ok (.bipush 15, 2) := by decide +kernel
theorem dX12_init_141 : decode cX12_init 141 = .ok (.ldc 40, 2) := by decide +kernel
theorem dX12_init_143 : decode cX12_init 143 = .ok (.iastore, 1) := by decide +kernel
theorem dX12_init_144 : decode cX12_init 144 = .ok (.dup, 1) := by decide +kernel
theorem dX12_init_145 : decode cX12_init 145 = .ok (.bipush 16, 2) := by decide +kernel
theorem dX12_init_147 : decode cX12_init 147 = .ok (.ldc 41, 2) := by decide +kernel
theorem dX12_init_149 : decode cX12_init 149 = .ok (.iastore, 1) := by decide +kernel
theorem dX12_init_150 : decode cX12_init 150 = .ok (.dup, 1) := by decide +kernel
theorem dX12_init_151 : decode cX12_init 151 = .ok (.bipush 17, 2) := by decide +kernel
theorem dX12_init_153 : decode cX12_init 153 = .ok (.ldc 42, 2) := by decide +kernel
theorem dX12_init_155 : decode cX12_init 155 = .ok (.iastore, 1) := by decide +kernel
theorem dX12_init_156 : decode cX12_init 156 = .ok (.dup, 1) := by decide +kernel
theorem dX12_init_157 : decode cX12_init 157 = .ok (.bipush 18, 2) := by decide +kernel
theorem dX12_init_159 : decode cX12_init 159 = .ok (.ldc 43, 2) := by decide +kernel
theorem dX12_init_161 : decode cX12_init 161 = .ok (.iastore, 1) := by decide +kernel
theorem dX12_init_162 : decode cX12_init 162 = .ok (.dup, 1) := by decide +kernel
theorem dX12_init_163 : decode cX12_init 163 = .ok (.bipush 19, 2) := by decide +kernel
theorem dX12_init_165 : decode cX12_init 165 = .ok (.ldc 44, 2) := by decide +kernel
theorem dX12_init_167 : decode cX12_init 167 = .ok (.iastore, 1) := by decide +kernel
theorem dX12_init_168 : decode cX12_init 168 = .ok (.dup, 1) := by decide +kernel
theorem dX12_init_169 : decode cX12_init 169 = .ok (.bipush 20, 2) := by decide +kernel
theorem dX12_init_171 : decode cX12_init 171 = .ok (.ldc 45, 2) := by decide +kernel
theorem dX12_init_173 : decode cX12_init 173 = .ok (.iastore, 1) := by decide +kernel
theorem dX12_init_174 : decode cX12_init 174 = .ok (.dup, 1) := by decide +kernel
theorem dX12_init_175 : decode cX12_init 175 = .ok (.bipush 21, 2) := by decide +kernel
theorem dX12_init_177 : decode cX12_init 177 = .ok (.ldc 46, 2) := by decide +kernel
theorem dX12_init_179 : decode cX12_init 179 = .ok (.iastore, 1) := by decide +kernel
theorem dX12_init_180 : decode cX12_init 180 = .ok (.dup, 1) := by decide +kernel
theorem dX12_init_181 : decode cX12_init 181 = .ok (.bipush 22, 2) := by decide +kernel
theorem dX12_init_183 : decode cX12_init 183 = .ok (.ldc 47, 2) := by decide +kernel
theorem dX12_init_185 : decode cX12_init 185 = .ok (.iastore, 1) := by decide +kernel
theorem dX12_init_186 : decode cX12_init 186 = .ok (.dup, 1) := by decide +kernel
theorem dX12_init_187 : decode cX12_init 187 = .ok (.bipush 23, 2) := by decide +kernel
theorem dX12_init_189 : decode cX12_init 189 = .ok (.ldc 48, 2) := by decide +kernel
theorem dX12_init_191 : decode cX12_init 191 = .ok (.iastore, 1) := by decide +kernel
theorem dX12_init_192 : decode cX12_init 192 = .ok (.dup, 1) := by decide +kernel
theorem dX12_init_193 : decode cX12_init 193 = .ok (.bipush 24, 2) := by decide +kernel
theorem dX12_init_195 : decode cX12_init 195 = .ok (.ldc 49, 2) := by decide +kernel
theorem dX12_init_197 : decode cX12_init 197 = .ok (.iastore, 1) := by decide +kernel
theorem dX12_init_198 : decode cX12_init 198 = .ok (.dup, 1) := by decide +kernel
theorem dX12_init_199 : decode cX12_init 199 = .ok (.bipush 25, 2) := by decide +kernel
theorem dX12_init_201 : decode cX12_init 201 = .ok (.ldc 50, 2) := by decide +kernel
theorem dX12_init_203 : decode cX12_init 203 = .ok (.iastore, 1) := by decide +kernel
theorem dX12_init_204 : decode cX12_init 204 = .ok (.dup, 1) := by decide +kernel
theorem dX12_init_205 : decode cX12_init 205 = .ok (.bipush 26, 2) := by decide +kernel
theorem dX12_init_207 : decode cX12_init 207 = .ok (.ldc 51, 2) := by decide +kernel
theorem dX12_init_209 : decode cX12_init 209 = .ok (.iastore, 1) := by decide +kernel
theorem dX12_init_210 : decode cX12_init 210 = .ok (.dup, 1) := by decide +kernel
theorem dX12_init_211 : decode cX12_init 211 = .ok (.bipush 27, 2) := by decide +kernel
theorem dX12_init_213 : decode cX12_init 213 = .ok (.ldc 52, 2) := by decide +kernel
theorem dX12_init_215 : decode cX12_init 215 = .ok (.iastore, 1) := by decide +kernel
theorem dX12_init_216 : decode cX12_init 216 = .ok (.dup, 1) := by decide +kernel
theorem dX12_init_217 : decode cX12_init 217 = .ok (.bipush 28, 2) := by decide +kernel
theorem dX12_init_219 : decode cX12_init 219 = .ok (.ldc 53, 2) := by decide +kernel
theorem dX12_init_221 : decode cX12_init 221 = .ok (.iastore, 1) := by decide +kernel
theorem dX12_init_222 : decode cX12_init 222 = .ok (.dup, 1) := by decide +kernel
theorem dX12_init_223 : decode cX12_init 223 = .ok (.bipush 29, 2) := by decide +kernel
theorem dX12_init_225 : decode cX12_init 225 = .ok (.ldc 54, 2) := by decide +kernel
theorem dX12_init_227 : decode cX12_init 227 = .ok (.iastore, 1) := by decide +kernel
theorem dX12_init_228 : decode cX12_init 228 = .ok (.dup, 1) := by decide +kernel
theorem dX12_init_229 : decode cX12_init 229 = .ok (.bipush 30, 2) := by decide +kernel
theorem dX12_init_231 : decode cX12_init 231 = .ok (.ldc 55, 2) := by decide +kernel
theorem dX12_init_233 : decode cX12_init 233 = .ok (.iastore, 1) := by decide +kernel
theorem dX12_init_234 : decode cX12_init 234 = .ok (.dup, 1) := by decide +kernel
theorem dX12_init_235 : decode cX12_init 235 = .ok (.bipush 31, 2) := by decide +kernel
theorem dX12_init_237 : decode cX12_init 237 = .ok (.ldc 56, 2) := by decide +kernel
theorem dX12_init_239 : decode cX12_init 239 = .ok (.iastore, 1) := by decide +kernel
theorem dX12_init_240 : decode cX12_init 240 = .ok (.dup, 1) := by decide +kernel
theorem dX12_init_241 : decode cX12_init 241 = .ok (.bipush 32, 2) := by decide +kernel
theorem dX12_init_243 : decode cX12_init 243 = .ok (.ldc 57, 2) := by decide +kernel
theorem dX12_init_245 : decode cX12_init 245 = .ok (.iastore, 1) := by decide +kernel
theorem dX12_init_246 : decode cX12_init 246 = .ok (.dup, 1) := by decide +kernel
theorem dX12_init_247 : decode cX12_init 247 = .ok (.bipush 33, 2) := by decide +kernel
theorem dX12_init_249 : decode cX12_init 249 = .ok (.ldc 58, 2) := by decide +kernel
theorem dX12_init_251 : decode cX12_init 251 = .ok (.iastore, 1) := by decide +kernel
theorem dX12_init_252 : decode cX12_init 252 = .ok (.dup, 1) := by decide +kernel
theorem dX12_init_253 : decode cX12_init 253 = .ok (.bipush 34, 2) := by decide +kernel
theorem dX12_init_255 : decode cX12_init 255 = .ok (.ldc 59, 2) := by decide +kernel
theorem dX12_init_257 : decode cX12_init 257 = .ok (.iastore, 1) := by decide +kernel
theorem dX12_init_258 : decode cX12_init 258 = .ok (.dup, 1) := by decide +kernel
theorem dX12_init_259 : decode cX12_init 259 = .ok (.bipush 35, 2) := by decide +kernel
theorem dX12_init_261 : decode cX12_init 261 = .ok (.ldc 60, 2) := by decide +kernel
theorem dX12_init_263 : decode cX12_init 263 = .ok (.iastore, 1) := by decide +kernel
theorem dX12_init_264 : decode cX12_init 264 = .ok (.dup, 1) := by decide +kernel
theorem dX12_init_265 : decode cX12_init 265 = .ok (.bipush 36, 2) := by decide +kernel
theorem dX12_init_267 : decode cX12_init 267 = .ok (.ldc 61, 2) := by decide +kernel
theorem dX12_init_269 : decode cX12_init 269 = .ok (.iastore, 1) := by decide +kernel
theorem dX12_init_270 : decode cX12_init 270 = .ok (.dup, 1) := by decide +kernel
theorem dX12_init_271 : decode cX12_init 271 = .ok (.bipush 37, 2) := by decide +kernel
theorem dX12_init_273 : decode cX12_init 273 = .ok (.ldc 62, 2) := by decide +kernel
theorem dX12_init_275 : decode cX12_init 275 = .ok (.iastore, 1) := by decide +kernel
theorem dX12_init_276 : decode cX12_init 276 = .ok (.dup, 1) := by decide +kernel
theorem dX12_init_277 : decode cX12_init 277 = .ok (.bipush 38, 2) := by decide +kernel
theorem dX12_init_279 : decode cX12_init 279 = .ok (.ldc 63, 2) := by decide +kernel
theorem dX12_init_281 : decode cX12_init 281 = .ok (.iastore, 1) := by decide +kernel
theorem dX12_init_282 : decode cX12_init 282 = .ok (.dup, 1) := by decide +kernel
theorem dX12_init_283 : decode cX12_init 283 = .ok (.bipush 39, 2) := by decide +kernel
theorem dX12_init_285 : decode cX12_init 285 = .ok (.ldc 64, 2) := by decide +kernel
theorem dX12_init_287 : decode cX12_init 287 = .ok (.iastore, 1) := by decide +kernel
theorem dX12_init_288 : decode cX12_init 288 = .ok (.dup, 1) := by decide +kernel
theorem dX12_init_289 : decode cX12_init 289 = .ok (.bipush 40, 2) := by decide +kernel
theorem dX12_init_291 : decode cX12_init 291 = .ok (.ldc 65, 2) := by decide +kernel
theorem dX12_init_293 : decode cX12_init 293 = .ok (.iastore, 1) := by decide +kernel
theorem dX12_init_294 : decode cX12_init 294 = .ok (.dup, 1) := by decide +kernel
theorem dX12_init_295 : decode cX12_init 295 = .ok (.bipush 41, 2) := by decide +kernel
theorem dX12_init_297 : decode cX12_init 297 = .ok (.ldc 66, 2) := by decide +kernel
theorem dX12_init_299 : decode cX12_init 299 = .ok (.iastore, 1) := by decide +kernel
theorem dX12_init_300 : decode cX12_init 300 = .ok (.dup, 1) := by decide +kernel
theorem dX12_init_301 : decode cX12_init 301 = .ok (.bipush 42, 2) := by decide +kernel
theorem dX12_init_303 : decode cX12_init 303 = .ok (.ldc 67, 2) := by decide +kernel
theorem dX12_init_305 : decode cX12_init 305 = .ok (.iastore, 1) := by decide +kernel
theorem dX12_init_306 : decode cX12_init 306 = .ok (.dup, 1) := by decide +kernel
theorem dX12_init_307 : decode cX12_init 307 = .ok (.bipush 43, 2) := by decide +kernel
theorem dX12_init_309 : decode cX12_init 309 = .ok (.ldc 68, 2) := by decide +kernel
theorem dX12_init_311 : decode cX12_init 311 = .ok (.iastore, 1) := by decide +kernel
theorem dX12_init_312 : decode cX12_init 312 = .ok (.dup, 1) := by decide +kernel
theorem dX12_init_313 : decode cX12_init 313 = .ok (.bipush 44, 2) := by decide +kernel
theorem dX12_init_315 : decode cX12_init 315 = .ok (.ldc 69, 2) := by decide +kernel
theorem dX12_init_317 : decode cX12_init 317 = .ok (.iastore, 1) := by decide +kernel
theorem dX12_init_318 : decode cX12_init 318 = .ok (.dup, 1) := by decide +kernel
theorem dX12_init_319 : decode cX12_init 319 = .ok (.bipush 45, 2) := by decide +kernel
theorem dX12_init_321 : decode cX12_init 321 = .ok (.ldc 70, 2) := by decide +kernel
theorem dX12_init_323 : decode cX12_init 323 = .ok (.iastore, 1) := by decide +kernel
theorem dX12_init_324 : decode cX12_init 324 = .ok (.dup, 1) := by decide +kernel
theorem dX12_init_325 : decode cX12_init 325 = .ok (.bipush 46, 2) := by decide +kernel
theorem dX12_init_327 : decode cX12_init 327 = .ok (.ldc 71, 2) := by decide +kernel
theorem dX12_init_329 : decode cX12_init 329 = .ok (.iastore, 1) := by decide +kernel
theorem dX12_init_330 : decode cX12_init 330 = .ok (.dup, 1) := by decide +kernel
theorem dX12_init_331 : decode cX12_init 331 = .ok (.bipush 47, 2) := by decide +kernel
theorem dX12_init_333 : decode cX12_init 333 = .ok (.ldc 72, 2) := by decide +kernel
theorem dX12_init_335 : decode cX12_init 335 = .ok (.iastore, 1) := by decide +kernel
theorem dX12_init_336 : decode cX12_init 336 = .ok (.dup, 1) := by decide +kernel
theorem dX12_init_337 : decode cX12_init 337 = .ok (.bipush 48, 2) := by decide +kernel
theorem dX12_init_339 : decode cX12_init 339 = .ok (.ldc 73, 2) := by decide +kernel
theorem dX12_init_341 : decode cX12_init 341 = .ok (.iastore, 1) := by decide +kernel
theorem dX12_init_342 : decode cX12_init 342 = .ok (.dup, 1) := by decide +kernel
theorem dX12_init_343 : decode cX12_init 343 = .ok (.bipush 49, 2) := by decide +kernel
theorem dX12_init_345 : decode cX12_init 345 = .ok (.ldc 74, 2) := by decide +kernel
theorem dX12_init_347 : decode cX12_init 347 = .ok (.iastore, 1) := by decide +kernel
theorem dX12_init_348 : decode cX12_init 348 = .ok (.dup, 1) := by decide +kernel
theorem dX12_init_349 : decode cX12_init 349 = .ok (.bipush 50, 2) := by decide +kernel
theorem dX12_init_351 : decode cX12_init 351 = .ok (.ldc 75, 2) := by decide +kernel
theorem dX12_init_353 : decode cX12_init 353 = .ok (.iastore, 1) := by decide +kernel
theorem dX12_init_354 : decode cX12_init 354 = .ok (.dup, 1) := by decide +kernel
theorem dX12_init_355 : decode cX12_init 355 = .ok (.bipush 51, 2) := by decide +kernel
theorem dX12_init_357 : decode cX12_init 357 = .ok (.ldc 76, 2) := by decide +kernel
theorem dX12_init_359 : decode cX12_init 359 = .ok (.iastore, 1) := by decide +kernel
theorem dX12_init_360 : decode cX12_init 360 = .ok (.dup, 1) := by decide +kernel
theorem dX12_init_361 : decode cX12_init 361 = .ok (.bipush 52, 2) := by decide +kernel
theorem dX12_init_363 : decode cX12_init 363 = .ok (.ldc 77, 2) := by decide +kernel
theorem dX12_init_365 : decode cX12_init 365 = .ok (.iastore, 1) := by decide +kernel
theorem dX12_init_366 : decode cX12_init 366 = .ok (.dup, 1) := by decide +kernel
theorem dX12_init_367 : decode cX12_init 367 = .ok (.bipush 53, 2) := by decide +kernel
theorem dX12_init_369 : decode cX12_init 369 = .ok (.ldc 78, 2) := by decide +kernel
theorem dX12_init_371 : decode cX12_init 371 = .ok (.iastore, 1) := by decide +kernel
theorem dX12_init_372 : decode cX12_init 372 = .ok (.dup, 1) := by decide +kernel
theorem dX12_init_373 : decode cX12_init 373 = .ok (.bipush 54, 2) := by decide +kernel
theorem dX12_init_375 : decode cX12_init 375 = .ok (.ldc 79, 2) := by decide +kernel
theorem dX12_init_377 : decode cX12_init 377 = .ok (.iastore, 1) := by decide +kernel
theorem dX12_init_378 : decode cX12_init 378 = .ok (.dup, 1) := by decide +kernel
theorem dX12_init_379 : decode cX12_init 379 = .ok (.bipush 55, 2) := by decide +kernel
theorem dX12_init_381 : decode cX12_init 381 = .ok (.ldc 80, 2) := by decide +kernel
theorem dX12_init_383 : decode cX12_init 383 = .ok (.iastore, 1) := by decide +kernel
theorem dX12_init_384 : decode cX12_init 384 = .ok (.dup, 1) := by decide +kernel
theorem dX12_init_385 : decode cX12_init 385 = .ok (.bipush 56, 2) := by decide +kernel
theorem dX12_init_387 : decode cX12_init 387 = .ok (.ldc 81, 2) := by decide +kernel
theorem dX12_init_389 : decode cX12_init 389 = .ok (.iastore, 1) := by decide +kernel
theorem dX12_init_390 : decode cX12_init 390 = .ok (.dup, 1) := by decide +kernel
theorem dX12_init_391 : decode cX12_init 391 = .ok (.bipush 57, 2) := by decide +kernel
theorem dX12_init_393 : decode cX12_init 393 = .ok (.ldc 82, 2) := by decide +kernel
theorem dX12_init_395 : decode cX12_init 395 = .ok (.iastore, 1) := by decide +kernel
theorem dX12_init_396 : decode cX12_init 396 = .ok (.dup, 1) := by decide +kernel
theorem dX12_init_397 : decode cX12_init 397 = .ok (.bipush 58, 2) := by decide +kernel
theorem dX12_init_399 : decode cX12_init 399 = .ok (.ldc 83, 2) := by decide +kernel
theorem dX12_init_401 : decode cX12_init 401 = .ok (.iastore, 1) := by decide +kernel
theorem dX12_init_402 : decode cX12_init 402 = .ok (.dup, 1) := by decide +kernel
theorem dX12_init_403 : decode cX12_init 403 = .ok (.bipush 59, 2) := by decide +kernel
theorem dX12_init_405 : decode cX12_init 405 = .ok (.ldc 84, 2) := by decide +kernel
theorem dX12_init_407 : decode cX12_init 407 = .ok (.iastore, 1) := by decide +kernel
theorem dX12_init_408 : decode cX12_init 408 = .ok (.dup, 1) := by decide +kernel
theorem dX12_init_409 : decode cX12_init 409 = .ok (.bipush 60, 2) := by decide +kernel
theorem dX12_init_411 : decode cX12_init 411 = .ok (.ldc 85, 2) := by decide +kernel
theorem dX12_init_413 : decode cX12_init 413 = .ok (.iastore, 1) := by decide +kernel
theorem dX12_init_414 : decode cX12_init 414 = .ok (.dup, 1) := by decide +kernel
theorem dX12_init_415 : decode cX12_init 415 = .ok (.bipush 61, 2) := by decide +kernel
theorem dX12_init_417 : decode cX12_init 417 = .ok (.ldc 86, 2) := by decide +kernel
theorem dX12_init_419 : decode cX12_init 419 = .ok (.iastore, 1) := by decide +kernel
theorem dX12_init_420 : decode cX12_init 420 = .ok (.dup, 1) := by decide +kernel
theorem dX12_init_421 : decode cX12_init 421 = .ok (.bipush 62, 2) := by decide +kernel
theorem dX12_init_423 : decode cX12_init 423 = .ok (.ldc 87, 2) := by decide +kernel
theorem dX12_init_425 : decode cX12_init 425 = .ok (.iastore, 1) := by decide +kernel
theorem dX12_init_426 : decode cX12_init 426 = .ok (.dup, 1) := by decide +kernel
theorem dX12_init_427 : decode cX12_init 427 = .ok (.bipush 63, 2) := by decide +kernel
theorem dX12_init_429 : decode cX12_init 429 = .ok (.ldc 88, 2) := by decide +kernel
theorem dX12_init_431 : decode cX12_init 431 = .ok (.iastore, 1) := by decide +kernel
theorem dX12_init_432 : decode cX12_init 432 = .ok (.putfield 89, 3) := by decide +kernel
theorem dX12_init_435 : decode cX12_init 435 = .ok (.aload_n 0, 1) := by decide +kernel
theorem dX12_init_436 : decode cX12_init 436 = .ok (.bipush 8, 2) := by decide +kernel
theorem dX12_init_438 : decode cX12_init 438 = .ok (.newarray .int, 2) := by decide +kernel
theorem dX12_init_440 : decode cX12_init 440 = .ok (.dup, 1) := by decide +kernel
theorem dX12_init_441 : decode cX12_init 441 = .ok (.iconst 0, 1) := by decide +kernel
theorem dX12_init_442 : decode cX12_init 442 = .ok (.ldc 93, 2) := by decide +kernel
theorem dX12_init_444 : decode cX12_init 444 = .ok (.iastore, 1) := by decide +kernel
theorem dX12_init_445 : decode cX12_init 445 = .ok (.dup, 1) := by decide +kernel
theorem dX12_init_446 : decode cX12_init 446 = .ok (.iconst 1, 1) := by decide +kernel
theorem dX12_init_447 : decode cX12_init 447 = .ok (.ldc 94, 2) := by decide +kernel
theorem dX12_init_449 : decode cX12_init 449 = .ok (.iastore, 1) := by decide +kernel
theorem dX12_init_450 : decode cX12_init 450 = .ok (.dup, 1) := by decide +kernel
theorem dX12_init_451 : decode cX12_init 451 = .ok (.iconst 2, 1) := by decide +kernel
theorem dX12_init_452 : decode cX12_init 452 = .ok (.ldc 95, 2) := by decide +kernel
theorem dX12_init_454 : decode cX12_init 454 = .ok (.iastore, 1) := by decide +kernel
theorem dX12_init_455 : decode cX12_init 455 = .ok (.dup, 1) := by decide +kernel
theorem dX12_init_456 : decode cX12_init 456 = .ok (.iconst 3, 1) := by decide +kernel
theorem dX12_init_457 : decode cX12_init 457 = .ok (.ldc 96, 2) := by decide +kernel
theorem dX12_init_459 : decode cX12_init 459 = .ok (.iastore, 1) := by decide +kernel
theorem dX12_init_460 : decode cX12_init 460 = .ok (.dup, 1) := by decide +kernel
theorem dX12_init_461 : decode cX12_init 461 = .ok (.iconst 4, 1) := by decide +kernel
theorem dX12_init_462 : decode cX12_init 462 = .ok (.ldc 97, 2) := by decide +kernel
theorem dX12_init_464 : decode cX12_init 464 = .ok (.iastore, 1) := by decide +kernel
theorem dX12_init_465 : decode cX12_init 465 = .ok (.dup, 1) := by decide +kernel
theorem dX12_init_466 : decode cX12_init 466 = .ok (.iconst 5, 1) := by decide +kernel
theorem dX12_init_467 : decode cX12_init 467 = .ok (.ldc 98, 2) := by decide +kernel
theorem dX12_init_469 : decode cX12_init 469 = .ok (.iastore, 1) := by decide +kernel
theorem dX12_init_470 : decode cX12_init 470 = .ok (.dup, 1) := by decide +kernel
theorem dX12_init_471 : decode cX12_init 471 = .ok (.bipush 6, 2) := by decide +kernel
theorem dX12_init_473 : decode cX12_init 473 = .ok (.ldc 99, 2) := by decide +kernel
theorem dX12_init_475 : decode cX12_init 475 = .ok (.iastore, 1) := by decide +kernel
theorem dX12_init_476 : decode cX12_init 476 = .ok (.dup, 1) := by decide +kernel
theorem dX12_init_477 : decode cX12_init 477 = .ok (.bipush 7, 2) := by decide +kernel
theorem dX12_init_479 : decode cX12_init 479 = .ok (.ldc 100, 2) := by decide +kernel
theorem dX12_init_481 : decode cX12_init 481 = .ok (.iastore, 1) := by decide +kernel
theorem dX12_init_482 : decode cX12_init 482 = .ok (.putfield 101, 3) := by decide +kernel
theorem dX12_init_485 : decode cX12_init 485 = .ok (.aload_n 0, 1) := by decide +kernel
theorem dX12_init_486 : decode cX12_init 486 = .ok (.bipush 64, 2) := by decide +kernel
theorem dX12_init_488 : decode cX12_init 488 = .ok (.newarray .int, 2) := by decide +kernel
theorem dX12_init_490 : decode cX12_init 490 = .ok (.putfield 104, 3) := by decide +kernel
theorem dX12_init_493 : decode cX12_init 493 = .ok (.aload_n 0, 1) := by decide +kernel
theorem dX12_init_494 : decode cX12_init 494 = .ok (.bipush 8, 2) := by decide +kernel
theorem dX12_init_496 : decode cX12_init 496 = .ok (.newarray .int, 2) := by decide +kernel
theorem dX12_init_498 : decode cX12_init 498 = .ok (.putfield 107, 3) := by decide +kernel
theorem dX12_init_501 : decode cX12_init 501 = .ok (.aload_n 0, 1) := by decide +kernel
theorem dX12_init_502 : decode cX12_init 502 = .ok (.bipush 8, 2) := by decide +kernel
theorem dX12_init_504 : decode cX12_init 504 = .ok (.newarray .int, 2) := by decide +kernel
theorem dX12_init_506 : decode cX12_init 506 = .ok (.putfield 110, 3) := by decide +kernel
theorem dX12_init_509 : decode cX12_init 509 = .ok (.aload_n 0, 1) := by decide +kernel
theorem dX12_init_510 : decode cX12_init 510 = .ok (.sipush 1300, 3) := by decide +kernel
theorem dX12_init_513 : decode cX12_init 513 = .ok (.newarray .byte, 2) := by decide +kernel
theorem dX12_init_515 : decode cX12_init 515 = .ok (.putfield 113, 3) := by decide +kernel
theorem dX12_init_518 : decode cX12_init 518 = .ok (.aload_n 0, 1) := by decide +kernel
theorem dX12_init_519 : decode cX12_init 519 = .ok (.bipush 32, 2) := by decide +kernel
theorem dX12_init_521 : decode cX12_init 521 = .ok (.newarray .byte, 2) := by decide +kernel
theorem dX12_init_523 : decode cX12_init 523 = .ok (.putfield 116, 3) := by decide +kernel
theorem dX12_init_526 : decode cX12_init 526 = .ok (.aload_n 0, 1) := by decide +kernel
theorem dX12_init_527 : decode cX12_init 527 = .ok (.bipush 32, 2) := by decide +kernel
theorem dX12_init_529 : decode cX12_init 529 = .ok (.newarray .byte, 2) := by decide +kernel
theorem dX12_init_531 : decode cX12_init 531 = .ok (.putfield 119, 3) := by decide +kernel
theorem dX12_init_534 : decode cX12_init 534 = .ok (.aload_n 0, 1) := by decide +kernel
theorem dX12_init_535 : decode cX12_init 535 = .ok (.bipush 32, 2) := by decide +kernel
theorem dX12_init_537 : decode cX12_init 537 = .ok (.newarray .byte, 2) := by decide +kernel
theorem dX12_init_539 : decode cX12_init 539 = .ok (.putfield 122, 3) := by decide +kernel
theorem dX12_init_542 : decode cX12_init 542 = .ok (.aload_n 0, 1) := by decide +kernel
theorem dX12_init_543 : decode cX12_init 543 = .ok (.bipush 16, 2) := by decide +kernel
theorem dX12_init_545 : decode cX12_init 545 = .ok (.newarray .long, 2) := by decide +kernel
theorem dX12_init_547 : decode cX12_init 547 = .ok (.putfield 125, 3) := by decide +kernel
theorem dX12_init_550 : decode cX12_init 550 = .ok (.aload_n 0, 1) := by decide +kernel
theorem dX12_init_551 : decode cX12_init 551 = .ok (.bipush 16, 2) := by decide +kernel
theorem dX12_init_553 : decode cX12_init 553 = .ok (.newarray .long, 2) := by decide +kernel
theorem dX12_init_555 : decode cX12_init 555 = .ok (.putfield 129, 3) := by decide +kernel
theorem dX12_init_558 : decode cX12_init 558 = .ok (.aload_n 0, 1) := by decide +kernel
theorem dX12_init_559 : decode cX12_init 559 = .ok (.bipush 16, 2) := by decide +kernel
theorem dX12_init_561 : decode cX12_init 561 = .ok (.newarray .long, 2) := by decide +kernel
theorem dX12_init_563 : decode cX12_init 563 = .ok (.putfield 132, 3) := by decide +kernel
theorem dX12_init_566 : decode cX12_init 566 = .ok (.aload_n 0, 1) := by decide +kernel
theorem dX12_init_567 : decode cX12_init 567 = .ok (.bipush 16, 2) := by decide +kernel
theorem dX12_init_569 : decode cX12_init 569 = .ok (.newarray .long, 2) := by decide +kernel
theorem dX12_init_571 : decode cX12_init 571 = .ok (.putfield 135, 3) := by decide +kernel
theorem dX12_init_574 : decode cX12_init 574 = .ok (.aload_n 0, 1) := by decide +kernel
theorem dX12_init_575 : decode cX12_init 575 = .ok (.bipush 16, 2) := by decide +kernel
theorem dX12_init_577 : decode cX12_init 577 = .ok (.newarray .long, 2) := by decide +kernel
theorem dX12_init_579 : decode cX12_init 579 = .ok (.putfield 138, 3) := by decide +kernel
theorem dX12_init_582 : decode cX12_init 582 = .ok (.aload_n 0, 1) := by decide +kernel
theorem dX12_init_583 : decode cX12_init 583 = .ok (.bipush 16, 2) := by decide +kernel
theorem dX12_init_585 : decode cX12_init 585 = .ok (.newarray .long, 2) := by decide +kernel
theorem dX12_init_587 : decode cX12_init 587 = .ok (.putfield 141, 3) := by decide +kernel
theorem dX12_init_590 : decode cX12_init 590 = .ok (.aload_n 0, 1) := by decide +kernel
theorem dX12_init_591 : decode cX12_init 591 = .ok (.bipush 16, 2) := by decide +kernel
theorem dX12_init_593 : decode cX12_init 593 = .ok (.newarray .long, 2) := by decide +kernel
theorem dX12_init_595 : decode cX12_init 595 = .ok (.putfield 144, 3) := by decide +kernel
theorem dX12_init_598 : decode cX12_init 598 = .ok (.aload_n 0, 1) := by decide +kernel
theorem dX12_init_599 : decode cX12_init 599 = .ok (.bipush 16, 2) := by decide +kernel
theorem dX12_init_601 : decode cX12_init 601 = .ok (.newarray .long, 2) := by decide +kernel
theorem dX12_init_603 : decode cX12_init 603 = .ok (.putfield 147, 3) := by decide +kernel
theorem dX12_init_606 : decode cX12_init 606 = .ok (.aload_n 0, 1) := by decide +kernel
theorem dX12_init_607 : decode cX12_init 607 = .ok (.bipush 16, 2) := by decide +kernel
theorem dX12_init_609 : decode cX12_init 609 = .ok (.newarray .long, 2) := by decide +kernel
theorem dX12_init_611 : decode cX12_init 611 = .ok (.putfield 150, 3) := by decide +kernel
theorem dX12_init_614 : decode cX12_init 614 = .ok (.aload_n 0, 1) := by decide +kernel
theorem dX12_init_615 : decode cX12_init 615 = .ok (.bipush 16, 2) := by decide +kernel
theorem dX12_init_617 : decode cX12_init 617 = .ok (.newarray .long, 2) := by decide +kernel
theorem dX12_init_619 : decode cX12_init 619 = .ok (.putfield 153, 3) := by decide +kernel
theorem dX12_init_622 : decode cX12_init 622 = .ok (.aload_n 0, 1) := by decide +kernel
theorem dX12_init_623 : decode cX12_init 623 = .ok (.bipush 16, 2) := by decide +kernel
theorem dX12_init_625 : decode cX12_init 625 = .ok (.newarray .long, 2) := by decide +kernel
theorem dX12_init_627 : decode cX12_init 627 = .ok (.putfield 156, 3) := by decide +kernel
theorem dX12_init_630 : decode cX12_init 630 = .ok (.aload_n 0, 1) := by decide +kernel
theorem dX12_init_631 : decode cX12_init 631 = .ok (.bipush 31, 2) := by decide +kernel
theorem dX12_init_633 : decode cX12_init 633 = .ok (.newarray .long, 2) := by decide +kernel
theorem dX12_init_635 : decode cX12_init 635 = .ok (.putfield 159, 3) := by decide +kernel
theorem dX12_init_638 : decode cX12_init 638 = .ok (.aload_n 0, 1) := by decide +kernel
theorem dX12_init_639 : decode cX12_init 639 = .ok (.bipush 32, 2) := by decide +kernel
theorem dX12_init_641 : decode cX12_init 641 = .ok (.newarray .byte, 2) := by decide +kernel
theorem dX12_init_643 : decode cX12_init 643 = .ok (.putfield 162, 3) := by decide +kernel
theorem dX12_init_646 : decode cX12_init 646 = .ok (.aload_n 0, 1) := by decide +kernel
theorem dX12_init_647 : decode cX12_init 647 = .ok (.bipush 32, 2) := by decide +kernel
theorem dX12_init_649 : decode cX12_init 649 = .ok (.newarray .byte, 2) := by decide +kernel
theorem dX12_init_651 : decode cX12_init 651 = .ok (.putfield 165, 3) := by decide +kernel
theorem dX12_init_654 : decode cX12_init 654 = .ok (.aload_n 0, 1) := by decide +kernel
theorem dX12_init_655 : decode cX12_init 655 = .ok (.bipush 32, 2) := by decide +kernel
theorem dX12_init_657 : decode cX12_init 657 = .ok (.newarray .byte, 2) := by decide +kernel
theorem dX12_init_659 : decode cX12_init 659 = .ok (.putfield 168, 3) := by decide +kernel
theorem dX12_init_662 : decode cX12_init 662 = .ok (.aload_n 0, 1) := by decide +kernel
theorem dX12_init_663 : decode cX12_init 663 = .ok (.bipush 16, 2) := by decide +kernel
theorem dX12_init_665 : decode cX12_init 665 = .ok (.newarray .int, 2) := by decide +kernel
theorem dX12_init_667 : decode cX12_init 667 = .ok (.putfield 171, 3) := by decide +kernel
theorem dX12_init_670 : decode cX12_init 670 = .ok (.aload_n 0, 1) := by decide +kernel
theorem dX12_init_671 : decode cX12_init 671 = .ok (.bipush 16, 2) := by decide +kernel
theorem dX12_init_673 : decode cX12_init 673 = .ok (.newarray .int, 2) := by decide +kernel
theorem dX12_init_675 : decode cX12_init 675 = .ok (.putfield 174, 3) := by decide +kernel
theorem dX12_init_678 : decode cX12_init 678 = .ok (.aload_n 0, 1) := by decide +kernel
theorem dX12_init_679 : decode cX12_init 679 = .ok (.bipush 64, 2) := by decide +kernel
theorem dX12_init_681 : decode cX12_init 681 = .ok (.newarray .byte, 2) := by decide +kernel
theorem dX12_init_683 : decode cX12_init 683 = .ok (.putfield 177, 3) := by decide +kernel
theorem dX12_init_686 : decode cX12_init 686 = .ok (.aload_n 0, 1) := by decide +kernel
theorem dX12_init_687 : decode cX12_init 687 = .ok (.bipush 17, 2) := by decide +kernel
theorem dX12_init_689 : decode cX12_init 689 = .ok (.newarray .int, 2) := by decide +kernel
theorem dX12_init_691 : decode cX12_init 691 = .ok (.putfield 180, 3) := by decide +kernel
theorem dX12_init_694 : decode cX12_init 694 = .ok (.aload_n 0, 1) := by decide +kernel
theorem dX12_init_695 : decode cX12_init 695 = .ok (.bipush 17, 2) := by decide +kernel
theorem dX12_init_697 : decode cX12_init 697 = .ok (.newarray .int, 2) := by decide +kernel
theorem dX12_init_699 : decode cX12_init 699 = .ok (.putfield 183, 3) := by decide +kernel
theorem dX12_init_702 : decode cX12_init 702 = .ok (.aload_n 0, 1) := by decide +kernel
theorem dX12_init_703 : decode cX12_init 703 = .ok (.bipush 17, 2) := by decide +kernel
theorem dX12_init_705 : decode cX12_init 705 = .ok (.newarray .int, 2) := by decide +kernel
theorem dX12_init_707 : decode cX12_init 707 = .ok (.putfield 186, 3) := by decide +kernel
theorem dX12_init_710 : decode cX12_init 710 = .ok (.aload_n 0, 1) := by decide +kernel
theorem dX12_init_711 : decode cX12_init 711 = .ok (.bipush 17, 2) := by decide +kernel
theorem dX12_init_713 : decode cX12_init 713 = .ok (.newarray .int, 2) := by decide +kernel
theorem dX12_init_715 : decode cX12_init 715 = .ok (.putfield 189, 3) := by decide +kernel
theorem dX12_init_718 : decode cX12_init 718 = .ok (.aload_n 0, 1) := by decide +kernel
theorem dX12_init_719 : decode cX12_init 719 = .ok (.bipush 17, 2) := by decide +kernel
theorem dX12_init_721 : decode cX12_init 721 = .ok (.newarray .int, 2) := by decide +kernel
theorem dX12_init_723 : decode cX12_init 723 = .ok (.putfield 192, 3) := by decide +kernel
theorem dX12_init_726 : decode cX12_init 726 = .ok (.aload_n 0, 1) := by decide +kernel
theorem dX12_init_727 : decode cX12_init 727 = .ok (.bipush 32, 2) := by decide +kernel
theorem dX12_init_729 : decode cX12_init 729 = .ok (.newarray .byte, 2) := by decide +kernel
theorem dX12_init_731 : decode cX12_init 731 = .ok (.putfield 195, 3) := by decide +kernel
theorem dX12_init_734 : decode cX12_init 734 = .ok (.aload_n 0, 1) := by decide +kernel
theorem dX12_init_735 : decode cX12_init 735 = .ok (.bipush 16, 2) := by decide +kernel
theorem dX12_init_737 : decode cX12_init 737 = .ok (.newarray .byte, 2) := by decide +kernel
theorem dX12_init_739 : decode cX12_init 739 = .ok (.putfield 198, 3) := by decide +kernel
theorem dX12_init_742 : decode cX12_init 742 = .ok (.aload_n 0, 1) := by decide +kernel
theorem dX12_init_743 : decode cX12_init 743 = .ok (.sipush 1408, 3) := by decide +kernel
theorem dX12_init_746 : decode cX12_init 746 = .ok (.newarray .byte, 2) := by decide +kernel
theorem dX12_init_748 : decode cX12_init 748 = .ok (.putfield 201, 3) := by decide +kernel
theorem dX12_init_751 : decode cX12_init 751 = .ok (.aload_n 0, 1) := by decide +kernel
theorem dX12_init_752 : decode cX12_init 752 = .ok (.sipush 352, 3) := by decide +kernel
theorem dX12_init_755 : decode cX12_init 755 = .ok (.newarray .byte, 2) := by decide +kernel
theorem dX12_init_757 : decode cX12_init 757 = .ok (.putfield 204, 3) := by decide +kernel
theorem dX12_init_760 : decode cX12_init 760 = .ok (.aload_n 0, 1) := by decide +kernel
theorem dX12_init_761 : decode cX12_init 761 = .ok (.iconst 4, 1) := by decide +kernel
theorem dX12_init_762 : decode cX12_init 762 = .ok (.newarray .boolean, 2) := by decide +kernel
theorem dX12_init_764 : decode cX12_init 764 = .ok (.putfield 207, 3) := by decide +kernel
theorem dX12_init_767 : decode cX12_init 767 = .ok (.aload_n 0, 1) := by decide +kernel
theorem dX12_init_768 : decode cX12_init 768 = .ok (.iconst 4, 1) := by decide +kernel
theorem dX12_init_769 : decode cX12_init 769 = .ok (.newarray .boolean, 2) := by decide +kernel
theorem dX12_init_771 : decode cX12_init 771 = .ok (.putfield 211, 3) := by decide +kernel
theorem dX12_init_774 : decode cX12_init 774 = .ok (.aload_n 0, 1) := by decide +kernel
theorem dX12_init_775 : decode cX12_init 775 = .ok (.iconst 4, 1) := by decide +kernel
theorem dX12_init_776 : decode cX12_init 776 = .ok (.newarray .boolean, 2) := by decide +kernel
theorem dX12_init_778 : decode cX12_init 778 = .ok (.putfield 214, 3) := by decide +kernel
theorem dX12_init_781 : decode cX12_init 781 = .ok (.aload_n 0, 1) := by decide +kernel
theorem dX12_init_782 : decode cX12_init 782 = .ok (.iconst 4, 1) := by decide +kernel
theorem dX12_init_783 : decode cX12_init 783 = .ok (.newarray .boolean, 2) := by decide +kernel
theorem dX12_init_785 : decode cX12_init 785 = .ok (.putfield 217, 3) := by decide +kernel
theorem dX12_init_788 : decode cX12_init 788 = .ok (.aload_n 0, 1) := by decide +kernel
theorem dX12_init_789 : decode cX12_init 789 = .ok (.iconst 4, 1) := by decide +kernel
theorem dX12_init_790 : decode cX12_init 790 = .ok (.newarray .boolean, 2) := by decide +kernel
theorem dX12_init_792 : decode cX12_init 792 = .ok (.putfield 220, 3) := by decide +kernel
theorem dX12_init_795 : decode cX12_init 795 = .ok (.aload_n 0, 1) := by decide +kernel
theorem dX12_init_796 : decode cX12_init 796 = .ok (.iconst 4, 1) := by decide +kernel
theorem dX12_init_797 : decode cX12_init 797 = .ok (.newarray .int, 2) := by decide +kernel
theorem dX12_init_799 : decode cX12_init 799 = .ok (.putfield 223, 3) := by decide +kernel
theorem dX12_init_802 : decode cX12_init 802 = .ok (.aload_n 0, 1) := by decide +kernel
theorem dX12_init_803 : decode cX12_init 803 = .ok (.iconst 4, 1) := by decide +kernel
theorem dX12_init_804 : decode cX12_init 804 = .ok (.newarray .int, 2) := by decide +kernel
theorem dX12_init_806 : decode cX12_init 806 = .ok (.putfield 226, 3) := by decide +kernel
theorem dX12_init_809 : decode cX12_init 809 = .ok (.aload_n 0, 1) := by decide +kernel
theorem dX12_init_810 : decode cX12_init 810 = .ok (.iconst 4, 1) := by decide +kernel
theorem dX12_init_811 : decode cX12_init 811 = .ok (.newarray .long, 2) := by decide +kernel
theorem dX12_init_813 : decode cX12_init 813 = .ok (.putfield 229, 3) := by decide +kernel
theorem dX12_init_816 : decode cX12_init 816 = .ok (.aload_n 0, 1) := by decide +kernel
theorem dX12_init_817 : decode cX12_init 817 = .ok (.iconst 4, 1) := by decide +kernel
theorem dX12_init_818 : decode cX12_init 818 = .ok (.newarray .long, 2) := by decide +kernel
theorem dX12_init_820 : decode cX12_init 820 = .ok (.putfield 232, 3) := by decide +kernel
theorem dX12_init_823 : decode cX12_init 823 = .ok (.aload_n 0, 1) := by decide +kernel
theorem dX12_init_824 : decode cX12_init 824 = .ok (.iconst 4, 1) := by decide +kernel
theorem dX12_init_825 : decode cX12_init 825 = .ok (.newarray .long, 2) := by decide +kernel
theorem dX12_init_827 : decode cX12_init 827 = .ok (.putfield 235, 3) := by decide +kernel
theorem dX12_init_830 : decode cX12_init 830 = .ok (.aload_n 0, 1) := by decide +kernel
theorem dX12_init_831 : decode cX12_init 831 = .ok (.bipush 32, 2) := by decide +kernel
theorem dX12_init_833 : decode cX12_init 833 = .ok (.newarray .byte, 2) := by decide +kernel
theorem dX12_init_835 : decode cX12_init 835 = .ok (.putfield 238, 3) := by decide +kernel
theorem dX12_init_838 : decode cX12_init 838 = .ok (.aload_n 0, 1) := by decide +kernel
theorem dX12_init_839 : decode cX12_init 839 = .ok (.bipush 33, 2) := by decide +kernel
theorem dX12_init_841 : decode cX12_init 841 = .ok (.newarray .byte, 2) := by decide +kernel
theorem dX12_init_843 : decode cX12_init 843 = .ok (.putfield 241, 3) := by decide +kernel
theorem dX12_init_846 : decode cX12_init 846 = .ok (.aload_n 0, 1) := by decide +kernel
theorem dX12_init_847 : decode cX12_init 847 = .ok (.bipush 32, 2) := by decide +kernel
theorem dX12_init_849 : decode cX12_init 849 = .ok (.newarray .byte, 2) := by decide +kernel
theorem dX12_init_851 : decode cX12_init 851 = .ok (.putfield 244, 3) := by decide +kernel
theorem dX12_init_854 : decode cX12_init 854 = .ok (.aload_n 0, 1) := by decide +kernel
theorem dX12_init_855 : decode cX12_init 855 = .ok (.iconst 1, 1) := by decide +kernel
theorem dX12_init_856 : decode cX12_init 856 = .ok (.newarray .byte, 2) := by decide +kernel
theorem dX12_init_858 : decode cX12_init 858 = .ok (.putfield 247, 3) := by decide +kernel
theorem dX12_init_861 : decode cX12_init 861 = .ok (.return_, 1) := by decide +kernel
theorem dX12_in_0 : decode cX12_in 0 = .ok (.iload_n 0, 1) := by decide +kernel
theorem dX12_in_1 : decode cX12_in 1 = .ok (.iload_n 1, 1) := by decide +kernel
theorem dX12_in_2 : decode cX12_in 2 = .ok (.if_icmp .lt 12, 3) := by decide +kernel
theorem dX12_in_5 : decode cX12_in 5 = .ok (.iload_n 0, 1) := by decide +kernel
theorem dX12_in_6 : decode cX12_in 6 = .ok (.iload_n 2, 1) := by decide +kernel
theorem dX12_in_7 : decode cX12_in 7 = .ok (.if_icmp .gt 7, 3) := by decide +kernel
theorem dX12_in_10 : decode cX12_in 10 = .ok (.iconst 1, 1) := by decide +kernel
theorem dX12_in_11 : decode cX12_in 11 = .ok (.goto 4, 3) := by decide +kernel
theorem dX12_in_14 : decode cX12_in 14 = .ok (.iconst 0, 1) := by decide +kernel
theorem dX12_in_15 : decode cX12_in 15 = .ok (.ireturn, 1) := by decide +kernel
theorem dX12_copy_0 : decode cX12_copy 0 = .ok (.iconst 0, 1) := by decide +kernel
theorem dX12_copy_1 : decode cX12_copy 1 = .ok (.istore 5, 2) := by decide +kernel
theorem dX12_copy_3 : decode cX12_copy 3 = .ok (.iload 5, 2) := by decide +kernel
theorem dX12_copy_5 : decode cX12_copy 5 = .ok (.iload 4, 2) := by decide +kernel
theorem dX12_copy_7 : decode cX12_copy 7 = .ok (.if_icmp .ge 21, 3) := by decide +kernel
theorem dX12_copy_10 : decode cX12_copy 10 = .ok (.aload_n 2, 1) := by decide +kernel
theorem dX12_copy_11 : decode cX12_copy 11 = .ok (.iload_n 3, 1) := by decide +kernel
theorem dX12_copy_12 : decode cX12_copy 12 = .ok (.iload 5, 2) := by decide +kernel
theorem dX12_copy_14 : decode cX12_copy 14 = .ok (.iadd, 1) := by decide +kernel
theorem dX12_copy_15 : decode cX12_copy 15 = .ok (.aload_n 0, 1) := by decide +kernel
theorem dX12_copy_16 : decode cX12_copy 16 = .ok (.iload_n 1, 1) := by decide +kernel
theorem dX12_copy_17 : decode cX12_copy 17 = .ok (.iload 5, 2) := by decide +kernel
theorem dX12_copy_19 : decode cX12_copy 19 = .ok (.iadd, 1) := by decide +kernel
theorem dX12_copy_20 : decode cX12_copy 20 = .ok (.baload, 1) := by decide +kernel
theorem dX12_copy_21 : decode cX12_copy 21 = .ok (.bastore, 1) := by decide +kernel
theorem dX12_copy_22 : decode cX12_copy 22 = .ok (.iinc 5 1, 3) := by decide +kernel
theorem dX12_copy_25 : decode cX12_copy 25 = .ok (.goto (-22), 3) := by decide +kernel
theorem dX12_copy_28 : decode cX12_copy 28 = .ok (.return_, 1) := by decide +kernel
theorem dX12_start_0 : decode cX12_start 0 = .ok (.aload_n 0, 1) := by decide +kernel
theorem dX12_start_1 : decode cX12_start 1 = .ok (.iconst 0, 1) := by decide +kernel
theorem dX12_start_2 : decode cX12_start 2 = .ok (.putfield 250, 3) := by decide +kernel
theorem dX12_start_5 : decode cX12_start 5 = .ok (.return_, 1) := by decide +kernel
theorem dX12_put_0 : decode cX12_put 0 = .ok (.aload_n 0, 1) := by decide +kernel
theorem dX12_put_1 : decode cX12_put 1 = .ok (.getfield 113, 3) := by decide +kernel
theorem dX12_put_4 : decode cX12_put 4 = .ok (.aload_n 0, 1) := by decide +kernel
theorem dX12_put_5 : decode cX12_put 5 = .ok (.getfield 250, 3) := by decide +kernel
theorem dX12_put_8 : decode cX12_put 8 = .ok (.iload_n 1, 1) := by decide +kernel
theorem dX12_put_9 : decode cX12_put 9 = .ok (.i2b, 1) := by decide +kernel
theorem dX12_put_10 : decode cX12_put 10 = .ok (.bastore, 1) := by decide +kernel
theorem dX12_put_11 : decode cX12_put 11 = .ok (.aload_n 0, 1) := by decide +kernel
theorem dX12_put_12 : decode cX12_put 12 = .ok (.dup, 1) := by decide +kernel
theorem dX12_put_13 : decode cX12_put 13 = .ok (.getfield 250, 3) := by decide +kernel
theorem dX12_put_16 : decode cX12_put 16 = .ok (.iconst 1, 1) := by decide +kernel
theorem dX12_put_17 : decode cX12_put 17 = .ok (.iadd, 1) := by decide +kernel
theorem dX12_put_18 : decode cX12_put 18 = .ok (.putfield 250, 3) := by decide +kernel
theorem dX12_put_21 : decode cX12_put 21 = .ok (.return_, 1) := by decide +kernel
theorem dX12_putRow_0 : decode cX12_putRow 0 = .ok (.iconst 0, 1) := by decide +kernel
theorem dX12_putRow_1 : decode cX12_putRow 1 = .ok (.istore 4, 2) := by decide +kernel
theorem dX12_putRow_3 : decode cX12_putRow 3 = .ok (.iload 4, 2) := by decide +kernel
theorem dX12_putRow_5 : decode cX12_putRow 5 = .ok (.iload_n 3, 1) := by decide +kernel
theorem dX12_putRow_6 : decode cX12_putRow 6 = .ok (.if_icmp .ge 19, 3) := by decide +kernel
theorem dX12_putRow_9 : decode cX12_putRow 9 = .ok (.aload_n 0, 1) := by decide +kernel
theorem dX12_putRow_10 : decode cX12_putRow 10 = .ok (.aload_n 1, 1) := by decide +kernel
theorem dX12_putRow_11 : decode cX12_putRow 11 = .ok (.iload_n 2, 1) := by decide +kernel
theorem dX12_putRow_12 : decode cX12_putRow 12 = .ok (.iload 4, 2) := by decide +kernel
theorem dX12_putRow_14 : decode cX12_putRow 14 = .ok (.iadd, 1) := by decide +kernel
theorem dX12_putRow_15 : decode cX12_putRow 15 = .ok (.baload, 1) := by decide +kernel
theorem dX12_putRow_16 : decode cX12_putRow 16 = .ok (.invokevirtual 254, 3) := by decide +kernel
theorem dX12_putRow_19 : decode cX12_putRow 19 = .ok (.iinc 4 1, 3) := by decide +kernel
theorem dX12_putRow_22 : decode cX12_putRow 22 = .ok (.goto (-19), 3) := by decide +kernel
theorem dX12_putRow_25 : decode cX12_putRow 25 = .ok (.return_, 1) := by decide +kernel
theorem dX12_turned_0 : decode cX12_turned 0 = .ok (.iload_n 0, 1) := by decide +kernel
theorem dX12_turned_1 : decode cX12_turned 1 = .ok (.iload_n 1, 1) := by decide +kernel
theorem dX12_turned_2 : decode cX12_turned 2 = .ok (.iushr, 1) := by decide +kernel
theorem dX12_turned_3 : decode cX12_turned 3 = .ok (.iload_n 0, 1) := by decide +kernel
theorem dX12_turned_4 : decode cX12_turned 4 = .ok (.bipush 32, 2) := by decide +kernel
theorem dX12_turned_6 : decode cX12_turned 6 = .ok (.iload_n 1, 1) := by decide +kernel
theorem dX12_turned_7 : decode cX12_turned 7 = .ok (.isub, 1) := by decide +kernel
theorem dX12_turned_8 : decode cX12_turned 8 = .ok (.ishl, 1) := by decide +kernel
theorem dX12_turned_9 : decode cX12_turned 9 = .ok (.ior, 1) := by decide +kernel
theorem dX12_turned_10 : decode cX12_turned 10 = .ok (.ireturn, 1) := by decide +kernel
theorem dX12_sums_0 : decode cX12_sums 0 = .ok (.bipush 8, 2) := by decide +kernel
theorem dX12_sums_2 : decode cX12_sums 2 = .ok (.aload_n 0, 1) := by decide +kernel
theorem dX12_sums_3 : decode cX12_sums 3 = .ok (.getfield 250, 3) := by decide +kernel
theorem dX12_sums_6 : decode cX12_sums 6 = .ok (.imul, 1) := by decide +kernel
theorem dX12_sums_7 : decode cX12_sums 7 = .ok (.istore_n 1, 1) := by decide +kernel
theorem dX12_sums_8 : decode cX12_sums 8 = .ok (.aload_n 0, 1) := by decide +kernel
theorem dX12_sums_9 : decode cX12_sums 9 = .ok (.sipush 128, 3) := by decide +kernel
theorem dX12_sums_12 : decode cX12_sums 12 = .ok (.invokevirtual 254, 3) := by decide +kernel
theorem dX12_sums_15 : decode cX12_sums 15 = .ok (.aload_n 0, 1) := by decide +kernel
theorem dX12_sums_16 : decode cX12_sums 16 = .ok (.getfield 250, 3) := by decide +kernel
theorem dX12_sums_19 : decode cX12_sums 19 = .ok (.bipush 64, 2) := by decide +kernel
theorem dX12_sums_21 : decode cX12_sums 21 = .ok (.irem, 1) := by decide +kernel
theorem dX12_sums_22 : decode cX12_sums 22 = .ok (.bipush 56, 2) := by decide +kernel
theorem dX12_sums_24 : decode cX12_sums 24 = .ok (.if_icmp .eq 11, 3) := by decide +kernel
theorem dX12_sums_27 : decode cX12_sums 27 = .ok (.aload_n 0, 1) := by decide +kernel
theorem dX12_sums_28 : decode cX12_sums 28 = .ok (.iconst 0, 1) := by decide +kernel
theorem dX12_sums_29 : decode cX12_sums 29 = .ok (.invokevirtual 254, 3) := by decide +kernel
theorem dX12_sums_32 : decode cX12_sums 32 = .ok (.goto (-17), 3) := by decide +kernel
theorem dX12_sums_35 : decode cX12_sums 35 = .ok (.iconst 0, 1) := by decide +kernel
theorem dX12_sums_36 : decode cX12_sums 36 = .ok (.istore_n 2, 1) := by decide +kernel
theorem dX12_sums_37 : decode cX12_sums 37 = .ok (.iload_n 2, 1) := by decide +kernel
theorem dX12_sums_38 : decode cX12_sums 38 = .ok (.iconst 4, 1) := by decide +kernel
theorem dX12_sums_39 : decode cX12_sums 39 = .ok (.if_icmp .ge 14, 3) := by decide +kernel
theorem dX12_sums_42 : decode cX12_sums 42 = .ok (.aload_n 0, 1) := by decide +kernel
theorem dX12_sums_43 : decode cX12_sums 43 = .ok (.iconst 0, 1) := by decide +kernel
theorem dX12_sums_44 : decode cX12_sums 44 = .ok (.invokevirtual 254, 3) := by decide +kernel
theorem dX12_sums_47 : decode cX12_sums 47 = .ok (.iinc 2 1, 3) := by decide +kernel
theorem dX12_sums_50 : decode cX12_sums 50 = .ok (.goto (-13), 3) := by decide +kernel
theorem dX12_sums_53 : decode cX12_sums 53 = .ok (.bipush 24, 2) := by decide +kernel
theorem dX12_sums_55 : decode cX12_sums 55 = .ok (.istore_n 2, 1) := by decide +kernel
theorem dX12_sums_56 : decode cX12_sums 56 = .ok (.iload_n 2, 1) := by decide +kernel
theorem dX12_sums_57 : decode cX12_sums 57 = .ok (.ifCond .lt 16, 3) := by decide +kernel
theorem dX12_sums_60 : decode cX12_sums 60 = .ok (.aload_n 0, 1) := by decide +kernel
theorem dX12_sums_61 : decode cX12_sums 61 = .ok (.iload_n 1, 1) := by decide +kernel
theorem dX12_sums_62 : decode cX12_sums 62 = .ok (.iload_n 2, 1) := by decide +kernel
theorem dX12_sums_63 : decode cX12_sums 63 = .ok (.ishr, 1) := by decide +kernel
theorem dX12_sums_64 : decode cX12_sums 64 = .ok (.invokevirtual 254, 3) := by decide +kernel
theorem dX12_sums_67 : decode cX12_sums 67 = .ok (.iinc 2 (-8), 3) := by decide +kernel
theorem dX12_sums_70 : decode cX12_sums 70 = .ok (.goto (-14), 3) := by decide +kernel
theorem dX12_sums_73 : decode cX12_sums 73 = .ok (.iconst 0, 1) := by decide +kernel
theorem dX12_sums_74 : decode cX12_sums 74 = .ok (.istore_n 2, 1) := by decide +kernel
theorem dX12_sums_75 : decode cX12_sums 75 = .ok (.iload_n 2, 1) := by decide +kernel
theorem dX12_sums_76 : decode cX12_sums 76 = .ok (.bipush 8, 2) := by decide +kernel
theorem dX12_sums_78 : decode cX12_sums 78 = .ok (.if_icmp .ge 21, 3) := by decide +kernel
theorem dX12_sums_81 : decode cX12_sums 81 = .ok (.aload_n 0, 1) := by decide +kernel
theorem dX12_sums_82 : decode cX12_sums 82 = .ok (.getfield 107, 3) := by decide +kernel
theorem dX12_sums_85 : decode cX12_sums 85 = .ok (.iload_n 2, 1) := by decide +kernel
theorem dX12_sums_86 : decode cX12_sums 86 = .ok (.aload_n 0, 1) := by decide +kernel
theorem dX12_sums_87 : decode cX12_sums 87 = .ok (.getfield 101, 3) := by decide +kernel
theorem dX12_sums_90 : decode cX12_sums 90 = .ok (.iload_n 2, 1) := by decide +kernel
theorem dX12_sums_91 : decode cX12_sums 91 = .ok (.iaload, 1) := by decide +kernel
theorem dX12_sums_92 : decode cX12_sums 92 = .ok (.iastore, 1) := by decide +kernel
theorem dX12_sums_93 : decode cX12_sums 93 = .ok (.iinc 2 1, 3) := by decide +kernel
theorem dX12_sums_96 : decode cX12_sums 96 = .ok (.goto (-21), 3) := by decide +kernel
theorem dX12_sums_99 : decode cX12_sums 99 = .ok (.iconst 0, 1) := by decide +kernel
theorem dX12_sums_100 : decode cX12_sums 100 = .ok (.istore_n 2, 1) := by decide +kernel
theorem dX12_sums_101 : decode cX12_sums 101 = .ok (.iload_n 2, 1) := by decide +kernel
theorem dX12_sums_102 : decode cX12_sums 102 = .ok (.aload_n 0, 1) := by decide +kernel
theorem dX12_sums_103 : decode cX12_sums 103 = .ok (.getfield 250, 3) := by decide +kernel
theorem dX12_sums_106 : decode cX12_sums 106 = .ok (.if_icmp .ge 14, 3) := by decide +kernel
theorem dX12_sums_109 : decode cX12_sums 109 = .ok (.aload_n 0, 1) := by decide +kernel
theorem dX12_sums_110 : decode cX12_sums 110 = .ok (.iload_n 2, 1) := by decide +kernel
theorem dX12_sums_111 : decode cX12_sums 111 = .ok (.invokevirtual 258, 3) := by decide +kernel
theorem dX12_sums_114 : decode cX12_sums 114 = .ok (.iinc 2 64, 3) := by decide +kernel
theorem dX12_sums_117 : decode cX12_sums 117 = .ok (.goto (-16), 3) := by decide +kernel
theorem dX12_sums_120 : decode cX12_sums 120 = .ok (.iconst 0, 1) := by decide +kernel
theorem dX12_sums_121 : decode cX12_sums 121 = .ok (.istore_n 2, 1) := by decide +kernel
theorem dX12_sums_122 : decode cX12_sums 122 = .ok (.iload_n 2, 1) := by decide +kernel
theorem dX12_sums_123 : decode cX12_sums 123 = .ok (.bipush 32, 2) := by decide +kernel
theorem dX12_sums_125 : decode cX12_sums 125 = .ok (.if_icmp .ge 34, 3) := by decide +kernel
theorem dX12_sums_128 : decode cX12_sums 128 = .ok (.aload_n 0, 1) := by decide +kernel
theorem dX12_sums_129 : decode cX12_sums 129 = .ok (.getfield 116, 3) := by decide +kernel
theorem dX12_sums_132 : decode cX12_sums 132 = .ok (.iload_n 2, 1) := by decide +kernel
theorem dX12_sums_133 : decode cX12_sums 133 = .ok (.aload_n 0, 1) := by decide +kernel
theorem dX12_sums_134 : decode cX12_sums 134 = .ok (.getfield 107, 3) := by decide +kernel
theorem dX12_sums_137 : decode cX12_sums 137 = .ok (.iload_n 2, 1) := by decide +kernel
theorem dX12_sums_138 : decode cX12_sums 138 = .ok (.iconst 4, 1) := by decide +kernel
theorem dX12_sums_139 : decode cX12_sums 139 = .ok (.idiv, 1) := by decide +kernel
theorem dX12_sums_140 : decode cX12_sums 140 = .ok (.iaload, 1) := by decide +kernel
theorem dX12_sums_141 : decode cX12_sums 141 = .ok (.bipush 24, 2) := by decide +kernel
theorem dX12_sums_143 : decode cX12_sums 143 = .ok (.bipush 8, 2) := by decide +kernel
theorem dX12_sums_145 : decode cX12_sums 145 = .ok (.iload_n 2, 1) := by decide +kernel
theorem dX12_sums_146 : decode cX12_sums 146 = .ok (.iconst 4, 1) := by decide +kernel
theorem dX12_sums_147 : decode cX12_sums 147 = .ok (.irem, 1) := by decide +kernel
theorem dX12_sums_148 : decode cX12_sums 148 = .ok (.imul, 1) := by decide +kernel
theorem dX12_sums_149 : decode cX12_sums 149 = .ok (.isub, 1) := by decide +kernel
theorem dX12_sums_150 : decode cX12_sums 150 = .ok (.ishr, 1) := by decide +kernel
theorem dX12_sums_151 : decode cX12_sums 151 = .ok (.i2b, 1) := by decide +kernel
theorem dX12_sums_152 : decode cX12_sums 152 = .ok (.bastore, 1) := by decide +kernel
theorem dX12_sums_153 : decode cX12_sums 153 = .ok (.iinc 2 1, 3) := by decide +kernel
theorem dX12_sums_156 : decode cX12_sums 156 = .ok (.goto (-34), 3) := by decide +kernel
theorem dX12_sums_159 : decode cX12_sums 159 = .ok (.return_, 1) := by decide +kernel
theorem dX12_block_0 : decode cX12_block 0 = .ok (.iconst 0, 1) := by decide +kernel
theorem dX12_block_1 : decode cX12_block 1 = .ok (.istore_n 2, 1) := by decide +kernel
theorem dX12_block_2 : decode cX12_block 2 = .ok (.iload_n 2, 1) := by decide +kernel
theorem dX12_block_3 : decode cX12_block 3 = .ok (.bipush 16, 2) := by decide +kernel
theorem dX12_block_5 : decode cX12_block 5 = .ok (.if_icmp .ge 89, 3) := by decide +kernel
theorem dX12_block_8 : decode cX12_block 8 = .ok (.aload_n 0, 1) := by decide +kernel
theorem dX12_block_9 : decode cX12_block 9 = .ok (.getfield 104, 3) := by decide +kernel
theorem dX12_block_12 : decode cX12_block 12 = .ok (.iload_n 2, 1) := by decide +kernel
theorem dX12_block_13 : decode cX12_block 13 = .ok (.aload_n 0, 1) := by decide +kernel
theorem dX12_block_14 : decode cX12_block 14 = .ok (.getfield 113, 3) := by decide +kernel
theorem dX12_block_17 : decode cX12_block 17 = .ok (.iload_n 1, 1) := by decide +kernel
theorem dX12_block_18 : decode cX12_block 18 = .ok (.iconst 4, 1) := by decide +kernel
theorem dX12_block_19 : decode cX12_block 19 = .ok (.iload_n 2, 1) := by decide +kernel
theorem dX12_block_20 : decode cX12_block 20 = .ok (.imul, 1) := by decide +kernel
theorem dX12_block_21 : decode cX12_block 21 = .ok (.iadd, 1) := by decide +kernel
theorem dX12_block_22 : decode cX12_block 22 = .ok (.baload, 1) := by decide +kernel
theorem dX12_block_23 : decode cX12_block 23 = .ok (.sipush 255, 3) := by decide +kernel
theorem dX12_block_26 : decode cX12_block 26 = .ok (.iand, 1) := by decide +kernel
theorem dX12_block_27 : decode cX12_block 27 = .ok (.bipush 24, 2) := by decide +kernel
theorem dX12_block_29 : decode cX12_block 29 = .ok (.ishl, 1) := by decide +kernel
theorem dX12_block_30 : decode cX12_block 30 = .ok (.aload_n 0, 1) := by decide +kernel
theorem dX12_block_31 : decode cX12_block 31 = .ok (.getfield 113, 3) := by decide +kernel
theorem dX12_block_34 : decode cX12_block 34 = .ok (.iload_n 1, 1) := by decide +kernel
theorem dX12_block_35 : decode cX12_block 35 = .ok (.iconst 4, 1) := by decide +kernel
theorem dX12_block_36 : decode cX12_block 36 = .ok (.iload_n 2, 1) := by decide +kernel
theorem dX12_block_37 : decode cX12_block 37 = .ok (.imul, 1) := by decide +kernel
theorem dX12_block_38 : decode cX12_block 38 = .ok (.iadd, 1) := by decide +kernel
theorem dX12_block_39 : decode cX12_block 39 = .ok (.iconst 1, 1) := by decide +kernel
theorem dX12_block_40 : decode cX12_block 40 = .ok (.iadd, 1) := by decide +kernel
theorem dX12_block_41 : decode cX12_block 41 = .ok (.baload, 1) := by decide +kernel
theorem dX12_block_42 : decode cX12_block 42 = .ok (.sipush 255, 3) := by decide +kernel
theorem dX12_block_45 : decode cX12_block 45 = .ok (.iand, 1) := by decide +kernel
theorem dX12_block_46 : decode cX12_block 46 = .ok (.bipush 16, 2) := by decide +kernel
theorem dX12_block_48 : decode cX12_block 48 = .ok (.ishl, 1) := by decide +kernel
theorem dX12_block_49 : decode cX12_block 49 = .ok (.ior, 1) := by decide +kernel
theorem dX12_block_50 : decode cX12_block 50 = .ok (.aload_n 0, 1) := by decide +kernel
theorem dX12_block_51 : decode cX12_block 51 = .ok (.getfield 113, 3) := by decide +kernel
theorem dX12_block_54 : decode cX12_block 54 = .ok (.iload_n 1, 1) := by decide +kernel
theorem dX12_block_55 : decode cX12_block 55 = .ok (.iconst 4, 1) := by decide +kernel
theorem dX12_block_56 : decode cX12_block 56 = .ok (.iload_n 2, 1) := by decide +kernel
theorem dX12_block_57 : decode cX12_block 57 = .ok (.imul, 1) := by decide +kernel
theorem dX12_block_58 : decode cX12_block 58 = .ok (.iadd, 1) := by decide +kernel
theorem dX12_block_59 : decode cX12_block 59 = .ok (.iconst 2, 1) := by decide +kernel
theorem dX12_block_60 : decode cX12_block 60 = .ok (.iadd, 1) := by decide +kernel
theorem dX12_block_61 : decode cX12_block 61 = .ok (.baload, 1) := by decide +kernel
theorem dX12_block_62 : decode cX12_block 62 = .ok (.sipush 255, 3) := by decide +kernel
theorem dX12_block_65 : decode cX12_block 65 = .ok (.iand, 1) := by decide +kernel
theorem dX12_block_66 : decode cX12_block 66 = .ok (.bipush 8, 2) := by decide +kernel
theorem dX12_block_68 : decode cX12_block 68 = .ok (.ishl, 1) := by decide +kernel
theorem dX12_block_69 : decode cX12_block 69 = .ok (.ior, 1) := by decide +kernel
theorem dX12_block_70 : decode cX12_block 70 = .ok (.aload_n 0, 1) := by decide +kernel
theorem dX12_block_71 : decode cX12_block 71 = .ok (.getfield 113, 3) := by decide +kernel
theorem dX12_block_74 : decode cX12_block 74 = .ok (.iload_n 1, 1) := by decide +kernel
theorem dX12_block_75 : decode cX12_block 75 = .ok (.iconst 4, 1) := by decide +kernel
theorem dX12_block_76 : decode cX12_block 76 = .ok (.iload_n 2, 1) := by decide +kernel
theorem dX12_block_77 : decode cX12_block 77 = .ok (.imul, 1) := by decide +kernel
theorem dX12_block_78 : decode cX12_block 78 = .ok (.iadd, 1) := by decide +kernel
theorem dX12_block_79 : decode cX12_block 79 = .ok (.iconst 3, 1) := by decide +kernel
theorem dX12_block_80 : decode cX12_block 80 = .ok (.iadd, 1) := by decide +kernel
theorem dX12_block_81 : decode cX12_block 81 = .ok (.baload, 1) := by decide +kernel
theorem dX12_block_82 : decode cX12_block 82 = .ok (.sipush 255, 3) := by decide +kernel
theorem dX12_block_85 : decode cX12_block 85 = .ok (.iand, 1) := by decide +kernel
theorem dX12_block_86 : decode cX12_block 86 = .ok (.ior, 1) := by decide +kernel
theorem dX12_block_87 : decode cX12_block 87 = .ok (.iastore, 1) := by decide +kernel
theorem dX12_block_88 : decode cX12_block 88 = .ok (.iinc 2 1, 3) := by decide +kernel
theorem dX12_block_91 : decode cX12_block 91 = .ok (.goto (-89), 3) := by decide +kernel
theorem dX12_block_94 : decode cX12_block 94 = .ok (.bipush 16, 2) := by decide +kernel
theorem dX12_block_96 : decode cX12_block 96 = .ok (.istore_n 2, 1) := by decide +kernel
theorem dX12_block_97 : decode cX12_block 97 = .ok (.iload_n 2, 1) := by decide +kernel
theorem dX12_block_98 : decode cX12_block 98 = .ok (.bipush 64, 2) := by decide +kernel
theorem dX12_block_100 : decode cX12_block 100 = .ok (.if_icmp .ge 122, 3) := by decide +kernel
theorem dX12_block_103 : decode cX12_block 103 = .ok (.aload_n 0, 1) := by decide +kernel
theorem dX12_block_104 : decode cX12_block 104 = .ok (.getfield 104, 3) := by decide +kernel
theorem dX12_block_107 : decode cX12_block 107 = .ok (.iload_n 2, 1) := by decide +kernel
theorem dX12_block_108 : decode cX12_block 108 = .ok (.bipush 15, 2) := by decide +kernel
theorem dX12_block_110 : decode cX12_block 110 = .ok (.isub, 1) := by decide +kernel
theorem dX12_block_111 : decode cX12_block 111 = .ok (.iaload, 1) := by decide +kernel
theorem dX12_block_112 : decode cX12_block 112 = .ok (.bipush 7, 2) := by decide +kernel
theorem dX12_block_114 : decode cX12_block 114 = .ok (.invokestatic 261, 3) := by decide +kernel
theorem dX12_block_117 : decode cX12_block 117 = .ok (.aload_n 0, 1) := by decide +kernel
theorem dX12_block_118 : decode cX12_block 118 = .ok (.getfield 104, 3) := by decide +kernel
theorem dX12_block_121 : decode cX12_block 121 = .ok (.iload_n 2, 1) := by decide +kernel
theorem dX12_block_122 : decode cX12_block 122 = .ok (.bipush 15, 2) := by decide +kernel
theorem dX12_block_124 : decode cX12_block 124 = .ok (.isub, 1) := by decide +kernel
theorem dX12_block_125 : decode cX12_block 125 = .ok (.iaload, 1) := by decide +kernel
theorem dX12_block_126 : decode cX12_block 126 = .ok (.bipush 18, 2) := by decide +kernel
theorem dX12_block_128 : decode cX12_block 128 = .ok (.invokestatic 261, 3) := by decide +kernel
theorem dX12_block_131 : decode cX12_block 131 = .ok (.ixor, 1) := by decide +kernel
theorem dX12_block_132 : decode cX12_block 132 = .ok (.aload_n 0, 1) := by decide +kernel
theorem dX12_block_133 : decode cX12_block 133 = .ok (.getfield 104, 3) := by decide +kernel
theorem dX12_block_136 : decode cX12_block 136 = .ok (.iload_n 2, 1) := by decide +kernel
theorem dX12_block_137 : decode cX12_block 137 = .ok (.bipush 15, 2) := by decide +kernel
theorem dX12_block_139 : decode cX12_block 139 = .ok (.isub, 1) := by decide +kernel
theorem dX12_block_140 : decode cX12_block 140 = .ok (.iaload, 1) := by decide +kernel
theorem dX12_block_141 : decode cX12_block 141 = .ok (.iconst 3, 1) := by decide +kernel
theorem dX12_block_142 : decode cX12_block 142 = .ok (.iushr, 1) := by decide +kernel
theorem dX12_block_143 : decode cX12_block 143 = .ok (.ixor, 1) := by decide +kernel
theorem dX12_block_144 : decode cX12_block 144 = .ok (.istore_n 3, 1) := by decide +kernel
theorem dX12_block_145 : decode cX12_block 145 = .ok (.aload_n 0, 1) := by decide +kernel
theorem dX12_block_146 : decode cX12_block 146 = .ok (.getfield 104, 3) := by decide +kernel
theorem dX12_block_149 : decode cX12_block 149 = .ok (.iload_n 2, 1) := by decide +kernel
theorem dX12_block_150 : decode cX12_block 150 = .ok (.iconst 2, 1) := by decide +kernel
theorem dX12_block_151 : decode cX12_block 151 = .ok (.isub, 1) := by decide +kernel
theorem dX12_block_152 : decode cX12_block 152 = .ok (.iaload, 1) := by decide +kernel
theorem dX12_block_153 : decode cX12_block 153 = .ok (.bipush 17, 2) := by decide +kernel
theorem dX12_block_155 : decode cX12_block 155 = .ok (.invokestatic 261, 3) := by decide +kernel
theorem dX12_block_158 : decode cX12_block 158 = .ok (.aload_n 0, 1) := by decide +kernel
theorem dX12_block_159 : decode cX12_block 159 = .ok (.getfield 104, 3) := by decide +kernel
theorem dX12_block_162 : decode cX12_block 162 = .ok (.iload_n 2, 1) := by decide +kernel
theorem dX12_block_163 : decode cX12_block 163 = .ok (.iconst 2, 1) := by decide +kernel
theorem dX12_block_164 : decode cX12_block 164 = .ok (.isub, 1) := by decide +kernel
theorem dX12_block_165 : decode cX12_block 165 = .ok (.iaload, 1) := by decide +kernel
theorem dX12_block_166 : decode cX12_block 166 = .ok (.bipush 19, 2) := by decide +kernel
theorem dX12_block_168 : decode cX12_block 168 = .ok (.invokestatic 261, 3) := by decide +kernel
theorem dX12_block_171 : decode cX12_block 171 = .ok (.ixor, 1) := by decide +kernel
theorem dX12_block_172 : decode cX12_block 172 = .ok (.aload_n 0, 1) := by decide +kernel
theorem dX12_block_173 : decode cX12_block 173 = .ok (.getfield 104, 3) := by decide +kernel
theorem dX12_block_176 : decode cX12_block 176 = .ok (.iload_n 2, 1) := by decide +kernel
theorem dX12_block_177 : decode cX12_block 177 = .ok (.iconst 2, 1) := by decide +kernel
theorem dX12_block_178 : decode cX12_block 178 = .ok (.isub, 1) := by decide +kernel
theorem dX12_block_179 : decode cX12_block 179 = .ok (.iaload, 1) := by decide +kernel
theorem dX12_block_180 : decode cX12_block 180 = .ok (.bipush 10, 2) := by decide +kernel
theorem dX12_block_182 : decode cX12_block 182 = .ok (.iushr, 1) := by decide +kernel
theorem dX12_block_183 : decode cX12_block 183 = .ok (.ixor, 1) := by decide +kernel
theorem dX12_block_184 : decode cX12_block 184 = .ok (.istore 4, 2) := by decide +kernel
theorem dX12_block_186 : decode cX12_block 186 = .ok (.aload_n 0, 1) := by decide +kernel
theorem dX12_block_187 : decode cX12_block 187 = .ok (.getfield 104, 3) := by decide +kernel
theorem dX12_block_190 : decode cX12_block 190 = .ok (.iload_n 2, 1) := by decide +kernel
theorem dX12_block_191 : decode cX12_block 191 = .ok (.aload_n 0, 1) := by decide +kernel
theorem dX12_block_192 : decode cX12_block 192 = .ok (.getfield 104, 3) := by decide +kernel
theorem dX12_block_195 : decode cX12_block 195 = .ok (.iload_n 2, 1) := by decide +kernel
theorem dX12_block_196 : decode cX12_block 196 = .ok (.bipush 16, 2) := by decide +kernel
theorem dX12_block_198 : decode cX12_block 198 = .ok (.isub, 1) := by decide +kernel
theorem dX12_block_199 : decode cX12_block 199 = .ok (.iaload, 1) := by decide +kernel
theorem dX12_block_200 : decode cX12_block 200 = .ok (.iload_n 3, 1) := by decide +kernel
theorem dX12_block_201 : decode cX12_block 201 = .ok (.iadd, 1) := by decide +kernel
theorem dX12_block_202 : decode cX12_block 202 = .ok (.aload_n 0, 1) := by decide +kernel
theorem dX12_block_203 : decode cX12_block 203 = .ok (.getfield 104, 3) := by decide +kernel
theorem dX12_block_206 : decode cX12_block 206 = .ok (.iload_n 2, 1) := by decide +kernel
theorem dX12_block_207 : decode cX12_block 207 = .ok (.bipush 7, 2) := by decide +kernel
theorem dX12_block_209 : decode cX12_block 209 = .ok (.isub, 1) := by decide +kernel
theorem dX12_block_210 : decode cX12_block 210 = .ok (.iaload, 1) := by decide +kernel
theorem dX12_block_211 : decode cX12_block 211 = .ok (.iadd, 1) := by decide +kernel
theorem dX12_block_212 : decode cX12_block 212 = .ok (.iload 4, 2) := by decide +kernel
theorem dX12_block_214 : decode cX12_block 214 = .ok (.iadd, 1) := by decide +kernel
theorem dX12_block_215 : decode cX12_block 215 = .ok (.iastore, 1) := by decide +kernel
theorem dX12_block_216 : decode cX12_block 216 = .ok (.iinc 2 1, 3) := by decide +kernel
theorem dX12_block_219 : decode cX12_block 219 = .ok (.goto (-122), 3) := by decide +kernel
theorem dX12_block_222 : decode cX12_block 222 = .ok (.iconst 0, 1) := by decide +kernel
theorem dX12_block_223 : decode cX12_block 223 = .ok (.istore_n 2, 1) := by decide +kernel
theorem dX12_block_224 : decode cX12_block 224 = .ok (.iload_n 2, 1) := by decide +kernel
theorem dX12_block_225 : decode cX12_block 225 = .ok (.bipush 8, 2) := by decide +kernel
theorem dX12_block_227 : decode cX12_block 227 = .ok (.if_icmp .ge 21, 3) := by decide +kernel
theorem dX12_block_230 : decode cX12_block 230 = .ok (.aload_n 0, 1) := by decide +kernel
theorem dX12_block_231 : decode cX12_block 231 = .ok (.getfield 110, 3) := by decide +kernel
theorem dX12_block_234 : decode cX12_block 234 = .ok (.iload_n 2, 1) := by decide +kernel
theorem dX12_block_235 : decode cX12_block 235 = .ok (.aload_n 0, 1) := by decide +kernel
theorem dX12_block_236 : decode cX12_block 236 = .ok (.getfield 107, 3) := by decide +kernel
theorem dX12_block_239 : decode cX12_block 239 = .ok (.iload_n 2, 1) := by decide +kernel
theorem dX12_block_240 : decode cX12_block 240 = .ok (.iaload, 1) := by decide +kernel
theorem dX12_block_241 : decode cX12_block 241 = .ok (.iastore, 1) := by decide +kernel
theorem dX12_block_242 : decode cX12_block 242 = .ok (.iinc 2 1, 3) := by decide +kernel
theorem dX12_block_245 : decode cX12_block 245 = .ok (.goto (-21), 3) := by decide +kernel
theorem dX12_block_248 : decode cX12_block 248 = .ok (.iconst 0, 1) := by decide +kernel
theorem dX12_block_249 : decode cX12_block 249 = .ok (.istore_n 2, 1) := by decide +kernel
theorem dX12_block_250 : decode cX12_block 250 = .ok (.iload_n 2, 1) := by decide +kernel
theorem dX12_block_251 : decode cX12_block 251 = .ok (.bipush 64, 2) := by decide +kernel
theorem dX12_block_253 : decode cX12_block 253 = .ok (.if_icmp .ge 227, 3) := by decide +kernel
theorem dX12_block_256 : decode cX12_block 256 = .ok (.aload_n 0, 1) := by decide +kernel
theorem dX12_block_257 : decode cX12_block 257 = .ok (.getfield 110, 3) := by decide +kernel
theorem dX12_block_260 : decode cX12_block 260 = .ok (.bipush 7, 2) := by decide +kernel
theorem dX12_block_262 : decode cX12_block 262 = .ok (.iaload, 1) := by decide +kernel
theorem dX12_block_263 : decode cX12_block 263 = .ok (.aload_n 0, 1) := by decide +kernel
theorem dX12_block_264 : decode cX12_block 264 = .ok (.getfield 110, 3) := by decide +kernel
theorem dX12_block_267 : decode cX12_block 267 = .ok (.iconst 4, 1) := by decide +kernel
theorem dX12_block_268 : decode cX12_block 268 = .ok (.iaload, 1) := by decide +kernel
theorem dX12_block_269 : decode cX12_block 269 = .ok (.bipush 6, 2) := by decide +kernel
theorem dX12_block_271 : decode cX12_block 271 = .ok (.invokestatic 261, 3) := by decide +kernel
theorem dX12_block_274 : decode cX12_block 274 = .ok (.aload_n 0, 1) := by decide +kernel
theorem dX12_block_275 : decode cX12_block 275 = .ok (.getfield 110, 3) := by decide +kernel
theorem dX12_block_278 : decode cX12_block 278 = .ok (.iconst 4, 1) := by decide +kernel
theorem dX12_block_279 : decode cX12_block 279 = .ok (.iaload, 1) := by decide +kernel
theorem dX12_block_280 : decode cX12_block 280 = .ok (.bipush 11, 2) := by decide +kernel
theorem dX12_block_282 : decode cX12_block 282 = .ok (.invokestatic 261, 3) := by decide +kernel
theorem dX12_block_285 : decode cX12_block 285 = .ok (.ixor, 1) := by decide +kernel
theorem dX12_block_286 : decode cX12_block 286 = .ok (.aload_n 0, 1) := by decide +kernel
theorem dX12_block_287 : decode cX12_block 287 = .ok (.getfield 110, 3) := by decide +kernel
theorem dX12_block_290 : decode cX12_block 290 = .ok (.iconst 4, 1) := by decide +kernel
theorem dX12_block_291 : decode cX12_block 291 = .ok (.iaload, 1) := by decide +kernel
theorem dX12_block_292 : decode cX12_block 292 = .ok (.bipush 25, 2) := by decide +kernel
theorem dX12_block_294 : decode cX12_block 294 = .ok (.invokestatic 261, 3) := by decide +kernel
theorem dX12_block_297 : decode cX12_block 297 = .ok (.ixor, 1) := by decide +kernel
theorem dX12_block_298 : decode cX12_block 298 = .ok (.iadd, 1) := by decide +kernel
theorem dX12_block_299 : decode cX12_block 299 = .ok (.aload_n 0, 1) := by decide +kernel
theorem dX12_block_300 : decode cX12_block 300 = .ok (.getfield 110, 3) := by decide +kernel
theorem dX12_block_303 : decode cX12_block 303 = .ok (.iconst 4, 1) := by decide +kernel
theorem dX12_block_304 : decode cX12_block 304 = .ok (.iaload, 1) := by decide +kernel
theorem dX12_block_305 : decode cX12_block 305 = .ok (.aload_n 0, 1) := by decide +kernel
theorem dX12_block_306 : decode cX12_block 306 = .ok (.getfield 110, 3) := by decide +kernel
theorem dX12_block_309 : decode cX12_block 309 = .ok (.iconst 5, 1) := by decide +kernel
theorem dX12_block_310 : decode cX12_block 310 = .ok (.iaload, 1) := by decide +kernel
theorem dX12_block_311 : decode cX12_block 311 = .ok (.iand, 1) := by decide +kernel
theorem dX12_block_312 : decode cX12_block 312 = .ok (.aload_n 0, 1) := by decide +kernel
theorem dX12_block_313 : decode cX12_block 313 = .ok (.getfield 110, 3) := by decide +kernel
theorem dX12_block_316 : decode cX12_block 316 = .ok (.iconst 4, 1) := by decide +kernel
theorem dX12_block_317 : decode cX12_block 317 = .ok (.iaload, 1) := by decide +kernel
theorem dX12_block_318 : decode cX12_block 318 = .ok (.iconst (-1), 1) := by decide +kernel
theorem dX12_block_319 : decode cX12_block 319 = .ok (.ixor, 1) := by decide +kernel
theorem dX12_block_320 : decode cX12_block 320 = .ok (.aload_n 0, 1) := by decide +kernel
theorem dX12_block_321 : decode cX12_block 321 = .ok (.getfield 110, 3) := by decide +kernel
theorem dX12_block_324 : decode cX12_block 324 = .ok (.bipush 6, 2) := by decide +kernel
theorem dX12_block_326 : decode cX12_block 326 = .ok (.iaload, 1) := by decide +kernel
theorem dX12_block_327 : decode cX12_block 327 = .ok (.iand, 1) := by decide +kernel
theorem dX12_block_328 : decode cX12_block 328 = .ok (.ixor, 1) := by decide +kernel
theorem dX12_block_329 : decode cX12_block 329 = .ok (.iadd, 1) := by decide +kernel
theorem dX12_block_330 : decode cX12_block 330 = .ok (.aload_n 0, 1) := by decide +kernel
theorem dX12_block_331 : decode cX12_block 331 = .ok (.getfield 89, 3) := by decide +kernel
theorem dX12_block_334 : decode cX12_block 334 = .ok (.iload_n 2, 1) := by decide +kernel
theorem dX12_block_335 : decode cX12_block 335 = .ok (.iaload, 1) := by decide +kernel
theorem dX12_block_336 : decode cX12_block 336 = .ok (.iadd, 1) := by decide +kernel
theorem dX12_block_337 : decode cX12_block 337 = .ok (.aload_n 0, 1) := by decide +kernel
theorem dX12_block_338 : decode cX12_block 338 = .ok (.getfield 104, 3) := by decide +kernel
theorem dX12_block_341 : decode cX12_block 341 = .ok (.iload_n 2, 1) := by decide +kernel
theorem dX12_block_342 : decode cX12_block 342 = .ok (.iaload, 1) := by decide +kernel
theorem dX12_block_343 : decode cX12_block 343 = .ok (.iadd, 1) := by decide +kernel
theorem dX12_block_344 : decode cX12_block 344 = .ok (.istore_n 3, 1) := by decide +kernel
theorem dX12_block_345 : decode cX12_block 345 = .ok (.aload_n 0, 1) := by decide +kernel
theorem dX12_block_346 : decode cX12_block 346 = .ok (.getfield 110, 3) := by decide +kernel
theorem dX12_block_349 : decode cX12_block 349 = .ok (.iconst 0, 1) := by decide +kernel
theorem dX12_block_350 : decode cX12_block 350 = .ok (.iaload, 1) := by decide +kernel
theorem dX12_block_351 : decode cX12_block 351 = .ok (.iconst 2, 1) := by decide +kernel
theorem dX12_block_352 : decode cX12_block 352 = .ok (.invokestatic 261, 3) := by decide +kernel
theorem dX12_block_355 : decode cX12_block 355 = .ok (.aload_n 0, 1) := by decide +kernel
theorem dX12_block_356 : decode cX12_block 356 = .ok (.getfield 110, 3) := by decide +kernel
theorem dX12_block_359 : decode cX12_block 359 = .ok (.iconst 0, 1) := by decide +kernel
theorem dX12_block_360 : decode cX12_block 360 = .ok (.iaload, 1) := by decide +kernel
theorem dX12_block_361 : decode cX12_block 361 = .ok (.bipush 13, 2) := by decide +kernel
theorem dX12_block_363 : decode cX12_block 363 = .ok (.invokestatic 261, 3) := by decide +kernel
theorem dX12_block_366 : decode cX12_block 366 = .ok (.ixor, 1) := by decide +kernel
theorem dX12_block_367 : decode cX12_block 367 = .ok (.aload_n 0, 1) := by decide +kernel
theorem dX12_block_368 : decode cX12_block 368 = .ok (.getfield 110, 3) := by decide +kernel
theorem dX12_block_371 : decode cX12_block 371 = .ok (.iconst 0, 1) := by decide +kernel
theorem dX12_block_372 : decode cX12_block 372 = .ok (.iaload, 1) := by decide +kernel
theorem dX12_block_373 : decode cX12_block 373 = .ok (.bipush 22, 2) := by decide +kernel
theorem dX12_block_375 : decode cX12_block 375 = .ok (.invokestatic 261, 3) := by decide +kernel
theorem dX12_block_378 : decode cX12_block 378 = .ok (.ixor, 1) := by decide +kernel
theorem dX12_block_379 : decode cX12_block 379 = .ok (.aload_n 0, 1) := by decide +kernel
theorem dX12_block_380 : decode cX12_block 380 = .ok (.getfield 110, 3) := by decide +kernel
theorem dX12_block_383 : decode cX12_block 383 = .ok (.iconst 0, 1) := by decide +kernel
theorem dX12_block_384 : decode cX12_block 384 = .ok (.iaload, 1) := by decide +kernel
theorem dX12_block_385 : decode cX12_block 385 = .ok (.aload_n 0, 1) := by decide +kernel
theorem dX12_block_386 : decode cX12_block 386 = .ok (.getfield 110, 3) := by decide +kernel
theorem dX12_block_389 : decode cX12_block 389 = .ok (.iconst 1, 1) := by decide +kernel
theorem dX12_block_390 : decode cX12_block 390 = .ok (.iaload, 1) := by decide +kernel
theorem dX12_block_391 : decode cX12_block 391 = .ok (.iand, 1) := by decide +kernel
theorem dX12_block_392 : decode cX12_block 392 = .ok (.aload_n 0, 1) := by decide +kernel
theorem dX12_block_393 : decode cX12_block 393 = .ok (.getfield 110, 3) := by decide +kernel
theorem dX12_block_396 : decode cX12_block 396 = .ok (.iconst 0, 1) := by decide +kernel
theorem dX12_block_397 : decode cX12_block 397 = .ok (.iaload, 1) := by decide +kernel
theorem dX12_block_398 : decode cX12_block 398 = .ok (.aload_n 0, 1) := by decide +kernel
theorem dX12_block_399 : decode cX12_block 399 = .ok (.getfield 110, 3) := by decide +kernel
theorem dX12_block_402 : decode cX12_block 402 = .ok (.iconst 2, 1) := by decide +kernel
theorem dX12_block_403 : decode cX12_block 403 = .ok (.iaload, 1) := by decide +kernel
theorem dX12_block_404 : decode cX12_block 404 = .ok (.iand, 1) := by decide +kernel
theorem dX12_block_405 : decode cX12_block 405 = .ok (.ixor, 1) := by decide +kernel
theorem dX12_block_406 : decode cX12_block 406 = .ok (.aload_n 0, 1) := by decide +kernel
theorem dX12_block_407 : decode cX12_block 407 = .ok (.getfield 110, 3) := by decide +kernel
theorem dX12_block_410 : decode cX12_block 410 = .ok (.iconst 1, 1) := by decide +kernel
theorem dX12_block_411 : decode cX12_block 411 = .ok (.iaload, 1) := by decide +kernel
theorem dX12_block_412 : decode cX12_block 412 = .ok (.aload_n 0, 1) := by decide +kernel
theorem dX12_block_413 : decode cX12_block 413 = .ok (.getfield 110, 3) := by decide +kernel
theorem dX12_block_416 : decode cX12_block 416 = .ok (.iconst 2, 1) := by decide +kernel
theorem dX12_block_417 : decode cX12_block 417 = .ok (.iaload, 1) := by decide +kernel
theorem dX12_block_418 : decode cX12_block 418 = .ok (.iand, 1) := by decide +kernel
theorem dX12_block_419 : decode cX12_block 419 = .ok (.ixor, 1) := by decide +kernel
theorem dX12_block_420 : decode cX12_block 420 = .ok (.iadd, 1) := by decide +kernel
theorem dX12_block_421 : decode cX12_block 421 = .ok (.istore 4, 2) := by decide +kernel
theorem dX12_block_423 : decode cX12_block 423 = .ok (.bipush 7, 2) := by decide +kernel
theorem dX12_block_425 : decode cX12_block 425 = .ok (.istore 5, 2) := by decide +kernel
theorem dX12_block_427 : decode cX12_block 427 = .ok (.iload 5, 2) := by decide +kernel
theorem dX12_block_429 : decode cX12_block 429 = .ok (.ifCond .le 25, 3) := by decide +kernel
theorem dX12_block_432 : decode cX12_block 432 = .ok (.aload_n 0, 1) := by decide +kernel
theorem dX12_block_433 : decode cX12_block 433 = .ok (.getfield 110, 3) := by decide +kernel
theorem dX12_block_436 : decode cX12_block 436 = .ok (.iload 5, 2) := by decide +kernel
theorem dX12_block_438 : decode cX12_block 438 = .ok (.aload_n 0, 1) := by decide +kernel
theorem dX12_block_439 : decode cX12_block 439 = .ok (.getfield 110, 3) := by decide +kernel
theorem dX12_block_442 : decode cX12_block 442 = .ok (.iload 5, 2) := by decide +kernel
theorem dX12_block_444 : decode cX12_block 444 = .ok (.iconst 1, 1) := by decide +kernel
theorem dX12_block_445 : decode cX12_block 445 = .ok (.isub, 1) := by decide +kernel
theorem dX12_block_446 : decode cX12_block 446 = .ok (.iaload, 1) := by decide +kernel
theorem dX12_block_447 : decode cX12_block 447 = .ok (.iastore, 1) := by decide +kernel
theorem dX12_block_448 : decode cX12_block 448 = .ok (.iinc 5 (-1), 3) := by decide +kernel
theorem dX12_block_451 : decode cX12_block 451 = .ok (.goto (-24), 3) := by decide +kernel
theorem dX12_block_454 : decode cX12_block 454 = .ok (.aload_n 0, 1) := by decide +kernel
theorem dX12_block_455 : decode cX12_block 455 = .ok (.getfield 110, 3) := by decide +kernel
theorem dX12_block_458 : decode cX12_block 458 = .ok (.iconst 4, 1) := by decide +kernel
theorem dX12_block_459 : decode cX12_block 459 = .ok (.dup2, 1) := by decide +kernel
theorem dX12_block_460 : decode cX12_block 460 = .ok (.iaload, 1) := by decide +kernel
theorem dX12_block_461 : decode cX12_block 461 = .ok (.iload_n 3, 1) := by decide +kernel
theorem dX12_block_462 : decode cX12_block 462 = .ok (.iadd, 1) := by decide +kernel
theorem dX12_block_463 : decode cX12_block 463 = .ok (.iastore, 1) := by decide +kernel
theorem dX12_block_464 : decode cX12_block 464 = .ok (.aload_n 0, 1) := by decide +kernel
theorem dX12_block_465 : decode cX12_block 465 = .ok (.getfield 110, 3) := by decide +kernel
theorem dX12_block_468 : decode cX12_block 468 = .ok (.iconst 0, 1) := by decide +kernel
theorem dX12_block_469 : decode cX12_block 469 = .ok (.iload_n 3, 1) := by decide +kernel
theorem dX12_block_470 : decode cX12_block 470 = .ok (.iload 4, 2) := by decide +kernel
theorem dX12_block_472 : decode cX12_block 472 = .ok (.iadd, 1) := by decide +kernel
theorem dX12_block_473 : decode cX12_block 473 = .ok (.iastore, 1) := by decide +kernel
theorem dX12_block_474 : decode cX12_block 474 = .ok (.iinc 2 1, 3) := by decide +kernel
theorem dX12_block_477 : decode cX12_block 477 = .ok (.goto (-227), 3) := by decide +kernel
theorem dX12_block_480 : decode cX12_block 480 = .ok (.iconst 0, 1) := by decide +kernel
theorem dX12_block_481 : decode cX12_block 481 = .ok (.istore_n 2, 1) := by decide +kernel
theorem dX12_block_482 : decode cX12_block 482 = .ok (.iload_n 2, 1) := by decide +kernel
theorem dX12_block_483 : decode cX12_block 483 = .ok (.bipush 8, 2) := by decide +kernel
theorem dX12_block_485 : decode cX12_block 485 = .ok (.if_icmp .ge 24, 3) := by decide +kernel
theorem dX12_block_488 : decode cX12_block 488 = .ok (.aload_n 0, 1) := by decide +kernel
theorem dX12_block_489 : decode cX12_block 489 = .ok (.getfield 107, 3) := by decide +kernel
theorem dX12_block_492 : decode cX12_block 492 = .ok (.iload_n 2, 1) := by decide +kernel
theorem dX12_block_493 : decode cX12_block 493 = .ok (.dup2, 1) := by decide +kernel
theorem dX12_block_494 : decode cX12_block 494 = .ok (.iaload, 1) := by decide +kernel
theorem dX12_block_495 : decode cX12_block 495 = .ok (.aload_n 0, 1) := by decide +kernel
theorem dX12_block_496 : decode cX12_block 496 = .ok (.getfield 110, 3) := by decide +kernel
theorem dX12_block_499 : decode cX12_block 499 = .ok (.iload_n 2, 1) := by decide +kernel
theorem dX12_block_500 : decode cX12_block 500 = .ok (.iaload, 1) := by decide +kernel
theorem dX12_block_501 : decode cX12_block 501 = .ok (.iadd, 1) := by decide +kernel
theorem dX12_block_502 : decode cX12_block 502 = .ok (.iastore, 1) := by decide +kernel
theorem dX12_block_503 : decode cX12_block 503 = .ok (.iinc 2 1, 3) := by decide +kernel
theorem dX12_block_506 : decode cX12_block 506 = .ok (.goto (-24), 3) := by decide +kernel
theorem dX12_block_509 : decode cX12_block 509 = .ok (.return_, 1) := by decide +kernel
theorem dX12_macs_0 : decode cX12_macs 0 = .ok (.aload_n 1, 1) := by decide +kernel
theorem dX12_macs_1 : decode cX12_macs 1 = .ok (.iload_n 2, 1) := by decide +kernel
theorem dX12_macs_2 : decode cX12_macs 2 = .ok (.aload_n 0, 1) := by decide +kernel
theorem dX12_macs_3 : decode cX12_macs 3 = .ok (.getfield 119, 3) := by decide +kernel
theorem dX12_macs_6 : decode cX12_macs 6 = .ok (.iconst 0, 1) := by decide +kernel
theorem dX12_macs_7 : decode cX12_macs 7 = .ok (.bipush 32, 2) := by decide +kernel
theorem dX12_macs_9 : decode cX12_macs 9 = .ok (.invokestatic 265, 3) := by decide +kernel
theorem dX12_macs_12 : decode cX12_macs 12 = .ok (.aload_n 0, 1) := by decide +kernel
theorem dX12_macs_13 : decode cX12_macs 13 = .ok (.invokevirtual 269, 3) := by decide +kernel
theorem dX12_macs_16 : decode cX12_macs 16 = .ok (.iconst 0, 1) := by decide +kernel
theorem dX12_macs_17 : decode cX12_macs 17 = .ok (.istore 6, 2) := by decide +kernel
theorem dX12_macs_19 : decode cX12_macs 19 = .ok (.iload 6, 2) := by decide +kernel
theorem dX12_macs_21 : decode cX12_macs 21 = .ok (.bipush 64, 2) := by decide +kernel
theorem dX12_macs_23 : decode cX12_macs 23 = .ok (.if_icmp .ge 34, 3) := by decide +kernel
theorem dX12_macs_26 : decode cX12_macs 26 = .ok (.aload_n 0, 1) := by decide +kernel
theorem dX12_macs_27 : decode cX12_macs 27 = .ok (.iload 6, 2) := by decide +kernel
theorem dX12_macs_29 : decode cX12_macs 29 = .ok (.bipush 32, 2) := by decide +kernel
theorem dX12_macs_31 : decode cX12_macs 31 = .ok (.if_icmp .ge 13, 3) := by decide +kernel
theorem dX12_macs_34 : decode cX12_macs 34 = .ok (.aload_n 0, 1) := by decide +kernel
theorem dX12_macs_35 : decode cX12_macs 35 = .ok (.getfield 119, 3) := by decide +kernel
theorem dX12_macs_38 : decode cX12_macs 38 = .ok (.iload 6, 2) := by decide +kernel
theorem dX12_macs_40 : decode cX12_macs 40 = .ok (.baload, 1) := by decide +kernel
theorem dX12_macs_41 : decode cX12_macs 41 = .ok (.goto 4, 3) := by decide +kernel
theorem dX12_macs_44 : decode cX12_macs 44 = .ok (.iconst 0, 1) := by decide +kernel
theorem dX12_macs_45 : decode cX12_macs 45 = .ok (.bipush 54, 2) := by decide +kernel
theorem dX12_macs_47 : decode cX12_macs 47 = .ok (.ixor, 1) := by decide +kernel
theorem dX12_macs_48 : decode cX12_macs 48 = .ok (.invokevirtual 254, 3) := by decide +kernel
theorem dX12_macs_51 : decode cX12_macs 51 = .ok (.iinc 6 1, 3) := by decide +kernel
theorem dX12_macs_54 : decode cX12_macs 54 = .ok (.goto (-35), 3) := by decide +kernel
theorem dX12_macs_57 : decode cX12_macs 57 = .ok (.aload_n 0, 1) := by decide +kernel
theorem dX12_macs_58 : decode cX12_macs 58 = .ok (.aload_n 3, 1) := by decide +kernel
theorem dX12_macs_59 : decode cX12_macs 59 = .ok (.iload 4, 2) := by decide +kernel
theorem dX12_macs_61 : decode cX12_macs 61 = .ok (.iload 5, 2) := by decide +kernel
theorem dX12_macs_63 : decode cX12_macs 63 = .ok (.invokevirtual 272, 3) := by decide +kernel
theorem dX12_macs_66 : decode cX12_macs 66 = .ok (.aload_n 0, 1) := by decide +kernel
theorem dX12_macs_67 : decode cX12_macs 67 = .ok (.invokevirtual 276, 3) := by decide +kernel
theorem dX12_macs_70 : decode cX12_macs 70 = .ok (.aload_n 0, 1) := by decide +kernel
theorem dX12_macs_71 : decode cX12_macs 71 = .ok (.getfield 116, 3) := by decide +kernel
theorem dX12_macs_74 : decode cX12_macs 74 = .ok (.iconst 0, 1) := by decide +kernel
theorem dX12_macs_75 : decode cX12_macs 75 = .ok (.aload_n 0, 1) := by decide +kernel
theorem dX12_macs_76 : decode cX12_macs 76 = .ok (.getfield 122, 3) := by decide +kernel
theorem dX12_macs_79 : decode cX12_macs 79 = .ok (.iconst 0, 1) := by decide +kernel
theorem dX12_macs_80 : decode cX12_macs 80 = .ok (.bipush 32, 2) := by decide +kernel
theorem dX12_macs_82 : decode cX12_macs 82 = .ok (.invokestatic 265, 3) := by decide +kernel
theorem dX12_macs_85 : decode cX12_macs 85 = .ok (.aload_n 0, 1) := by decide +kernel
theorem dX12_macs_86 : decode cX12_macs 86 = .ok (.invokevirtual 269, 3) := by decide +kernel
theorem dX12_macs_89 : decode cX12_macs 89 = .ok (.iconst 0, 1) := by decide +kernel
theorem dX12_macs_90 : decode cX12_macs 90 = .ok (.istore 6, 2) := by decide +kernel
theorem dX12_macs_92 : decode cX12_macs 92 = .ok (.iload 6, 2) := by decide +kernel
theorem dX12_macs_94 : decode cX12_macs 94 = .ok (.bipush 64, 2) := by decide +kernel
theorem dX12_macs_96 : decode cX12_macs 96 = .ok (.if_icmp .ge 34, 3) := by decide +kernel
theorem dX12_macs_99 : decode cX12_macs 99 = .ok (.aload_n 0, 1) := by decide +kernel
theorem dX12_macs_100 : decode cX12_macs 100 = .ok (.iload 6, 2) := by decide +kernel
theorem dX12_macs_102 : decode cX12_macs 102 = .ok (.bipush 32, 2) := by decide +kernel
theorem dX12_macs_104 : decode cX12_macs 104 = .ok (.if_icmp .ge 13, 3) := by decide +kernel
theorem dX12_macs_107 : decode cX12_macs 107 = .ok (.aload_n 0, 1) := by decide +kernel
theorem dX12_macs_108 : decode cX12_macs 108 = .ok (.getfield 119, 3) := by decide +kernel
theorem dX12_macs_111 : decode cX12_macs 111 = .ok (.iload 6, 2) := by decide +kernel
theorem dX12_macs_113 : decode cX12_macs 113 = .ok (.baload, 1) := by decide +kernel
theorem dX12_macs_114 : decode cX12_macs 114 = .ok (.goto 4, 3) := by decide +kernel
theorem dX12_macs_117 : decode cX12_macs 117 = .ok (.iconst 0, 1) := by decide +kernel
theorem dX12_macs_118 : decode cX12_macs 118 = .ok (.bipush 92, 2) := by decide +kernel
theorem dX12_macs_120 : decode cX12_macs 120 = .ok (.ixor, 1) := by decide +kernel
theorem dX12_macs_121 : decode cX12_macs 121 = .ok (.invokevirtual 254, 3) := by decide +kernel
theorem dX12_macs_124 : decode cX12_macs 124 = .ok (.iinc 6 1, 3) := by decide +kernel
theorem dX12_macs_127 : decode cX12_macs 127 = .ok (.goto (-35), 3) := by decide +kernel
theorem dX12_macs_130 : decode cX12_macs 130 = .ok (.aload_n 0, 1) := by decide +kernel
theorem dX12_macs_131 : decode cX12_macs 131 = .ok (.aload_n 0, 1) := by decide +kernel
theorem dX12_macs_132 : decode cX12_macs 132 = .ok (.getfield 122, 3) := by decide +kernel
theorem dX12_macs_135 : decode cX12_macs 135 = .ok (.iconst 0, 1) := by decide +kernel
theorem dX12_macs_136 : decode cX12_macs 136 = .ok (.bipush 32, 2) := by decide +kernel
theorem dX12_macs_138 : decode cX12_macs 138 = .ok (.invokevirtual 272, 3) := by decide +kernel
theorem dX12_macs_141 : decode cX12_macs 141 = .ok (.aload_n 0, 1) := by decide +kernel
theorem dX12_macs_142 : decode cX12_macs 142 = .ok (.invokevirtual 276, 3) := by decide +kernel
theorem dX12_macs_145 : decode cX12_macs 145 = .ok (.return_, 1) := by decide +kernel
theorem dX12_carried_0 : decode cX12_carried 0 = .ok (.iconst 0, 1) := by decide +kernel
theorem dX12_carried_1 : decode cX12_carried 1 = .ok (.istore_n 1, 1) := by decide +kernel
theorem dX12_carried_2 : decode cX12_carried 2 = .ok (.iload_n 1, 1) := by decide +kernel
theorem dX12_carried_3 : decode cX12_carried 3 = .ok (.bipush 16, 2) := by decide +kernel
theorem dX12_carried_5 : decode cX12_carried 5 = .ok (.if_icmp .ge 68, 3) := by decide +kernel
theorem dX12_carried_8 : decode cX12_carried 8 = .ok (.aload_n 0, 1) := by decide +kernel
theorem dX12_carried_9 : decode cX12_carried 9 = .ok (.iload_n 1, 1) := by decide +kernel
theorem dX12_carried_10 : decode cX12_carried 10 = .ok (.dup2, 1) := by decide +kernel
theorem dX12_carried_11 : decode cX12_carried 11 = .ok (.laload, 1) := by decide +kernel
theorem dX12_carried_12 : decode cX12_carried 12 = .ok (.ldc2_w 279, 3) := by decide +kernel
theorem dX12_carried_15 : decode cX12_carried 15 = .ok (.ladd, 1) := by decide +kernel
theorem dX12_carried_16 : decode cX12_carried 16 = .ok (.lastore, 1) := by decide +kernel
theorem dX12_carried_17 : decode cX12_carried 17 = .ok (.aload_n 0, 1) := by decide +kernel
theorem dX12_carried_18 : decode cX12_carried 18 = .ok (.iload_n 1, 1) := by decide +kernel
theorem dX12_carried_19 : decode cX12_carried 19 = .ok (.laload, 1) := by decide +kernel
theorem dX12_carried_20 : decode cX12_carried 20 = .ok (.bipush 16, 2) := by decide +kernel
theorem dX12_carried_22 : decode cX12_carried 22 = .ok (.lshr, 1) := by decide +kernel
theorem dX12_carried_23 : decode cX12_carried 23 = .ok (.lstore_n 2, 1) := by decide +kernel
theorem dX12_carried_24 : decode cX12_carried 24 = .ok (.iload_n 1, 1) := by decide +kernel
theorem dX12_carried_25 : decode cX12_carried 25 = .ok (.bipush 15, 2) := by decide +kernel
theorem dX12_carried_27 : decode cX12_carried 27 = .ok (.if_icmp .ge 17, 3) := by decide +kernel
theorem dX12_carried_30 : decode cX12_carried 30 = .ok (.aload_n 0, 1) := by decide +kernel
theorem dX12_carried_31 : decode cX12_carried 31 = .ok (.iload_n 1, 1) := by decide +kernel
theorem dX12_carried_32 : decode cX12_carried 32 = .ok (.iconst 1, 1) := by decide +kernel
theorem dX12_carried_33 : decode cX12_carried 33 = .ok (.iadd, 1) := by decide +kernel
theorem dX12_carried_34 : decode cX12_carried 34 = .ok (.dup2, 1) := by decide +kernel
theorem dX12_carried_35 : decode cX12_carried 35 = .ok (.laload, 1) := by decide +kernel
theorem dX12_carried_36 : decode cX12_carried 36 = .ok (.lload_n 2, 1) := by decide +kernel
theorem dX12_carried_37 : decode cX12_carried 37 = .ok (.lconst 1, 1) := by decide +kernel
theorem dX12_carried_38 : decode cX12_carried 38 = .ok (.lsub, 1) := by decide +kernel
theorem dX12_carried_39 : decode cX12_carried 39 = .ok (.ladd, 1) := by decide +kernel
theorem dX12_carried_40 : decode cX12_carried 40 = .ok (.lastore, 1) := by decide +kernel
theorem dX12_carried_41 : decode cX12_carried 41 = .ok (.goto 16, 3) := by decide +kernel
theorem dX12_carried_44 : decode cX12_carried 44 = .ok (.aload_n 0, 1) := by decide +kernel
theorem dX12_carried_45 : decode cX12_carried 45 = .ok (.iconst 0, 1) := by decide +kernel
theorem dX12_carried_46 : decode cX12_carried 46 = .ok (.dup2, 1) := by decide +kernel
theorem dX12_carried_47 : decode cX12_carried 47 = .ok (.laload, 1) := by decide +kernel
theorem dX12_carried_48 : decode cX12_carried 48 = .ok (.ldc2_w 281, 3) := by decide +kernel
theorem dX12_carried_51 : decode cX12_carried 51 = .ok (.lload_n 2, 1) := by decide +kernel
theorem dX12_carried_52 : decode cX12_carried 52 = .ok (.lconst 1, 1) := by decide +kernel
theorem dX12_carried_53 : decode cX12_carried 53 = .ok (.lsub, 1) := by decide +kernel
theorem dX12_carried_54 : decode cX12_carried 54 = .ok (.lmul, 1) := by decide +kernel
theorem dX12_carried_55 : decode cX12_carried 55 = .ok (.ladd, 1) := by decide +kernel
theorem dX12_carried_56 : decode cX12_carried 56 = .ok (.lastore, 1) := by decide +kernel
theorem dX12_carried_57 : decode cX12_carried 57 = .ok (.aload_n 0, 1) := by decide +kernel
theorem dX12_carried_58 : decode cX12_carried 58 = .ok (.iload_n 1, 1) := by decide +kernel
theorem dX12_carried_59 : decode cX12_carried 59 = .ok (.dup2, 1) := by decide +kernel
theorem dX12_carried_60 : decode cX12_carried 60 = .ok (.laload, 1) := by decide +kernel
theorem dX12_carried_61 : decode cX12_carried 61 = .ok (.lload_n 2, 1) := by decide +kernel
theorem dX12_carried_62 : decode cX12_carried 62 = .ok (.bipush 16, 2) := by decide +kernel
theorem dX12_carried_64 : decode cX12_carried 64 = .ok (.lshl, 1) := by decide +kernel
theorem dX12_carried_65 : decode cX12_carried 65 = .ok (.lsub, 1) := by decide +kernel
theorem dX12_carried_66 : decode cX12_carried 66 = .ok (.lastore, 1) := by decide +kernel
theorem dX12_carried_67 : decode cX12_carried 67 = .ok (.iinc 1 1, 3) := by decide +kernel
theorem dX12_carried_70 : decode cX12_carried 70 = .ok (.goto (-68), 3) := by decide +kernel
theorem dX12_carried_73 : decode cX12_carried 73 = .ok (.return_, 1) := by decide +kernel
theorem dX12_swapped_0 : decode cX12_swapped 0 = .ok (.iconst 0, 1) := by decide +kernel
theorem dX12_swapped_1 : decode cX12_swapped 1 = .ok (.istore_n 3, 1) := by decide +kernel
theorem dX12_swapped_2 : decode cX12_swapped 2 = .ok (.iload_n 3, 1) := by decide +kernel
theorem dX12_swapped_3 : decode cX12_swapped 3 = .ok (.bipush 16, 2) := by decide +kernel
theorem dX12_swapped_5 : decode cX12_swapped 5 = .ok (.if_icmp .ge 30, 3) := by decide +kernel
theorem dX12_swapped_8 : decode cX12_swapped 8 = .ok (.iload_n 2, 1) := by decide +kernel
theorem dX12_swapped_9 : decode cX12_swapped 9 = .ok (.iconst 1, 1) := by decide +kernel
theorem dX12_swapped_10 : decode cX12_swapped 10 = .ok (.if_icmp .ne 25, 3) := by decide +kernel
theorem dX12_swapped_13 : decode cX12_swapped 13 = .ok (.aload_n 0, 1) := by decide +kernel
theorem dX12_swapped_14 : decode cX12_swapped 14 = .ok (.iload_n 3, 1) := by decide +kernel
theorem dX12_swapped_15 : decode cX12_swapped 15 = .ok (.laload, 1) := by decide +kernel
theorem dX12_swapped_16 : decode cX12_swapped 16 = .ok (.lstore 4, 2) := by decide +kernel
theorem dX12_swapped_18 : decode cX12_swapped 18 = .ok (.aload_n 0, 1) := by decide +kernel
theorem dX12_swapped_19 : decode cX12_swapped 19 = .ok (.iload_n 3, 1) := by decide +kernel
theorem dX12_swapped_20 : decode cX12_swapped 20 = .ok (.aload_n 1, 1) := by decide +kernel
theorem dX12_swapped_21 : decode cX12_swapped 21 = .ok (.iload_n 3, 1) := by decide +kernel
theorem dX12_swapped_22 : decode cX12_swapped 22 = .ok (.laload, 1) := by decide +kernel
theorem dX12_swapped_23 : decode cX12_swapped 23 = .ok (.lastore, 1) := by decide +kernel
theorem dX12_swapped_24 : decode cX12_swapped 24 = .ok (.aload_n 1, 1) := by decide +kernel
theorem dX12_swapped_25 : decode cX12_swapped 25 = .ok (.iload_n 3, 1) := by decide +kernel
theorem dX12_swapped_26 : decode cX12_swapped 26 = .ok (.lload 4, 2) := by decide +kernel
theorem dX12_swapped_28 : decode cX12_swapped 28 = .ok (.lastore, 1) := by decide +kernel
theorem dX12_swapped_29 : decode cX12_swapped 29 = .ok (.iinc 3 1, 3) := by decide +kernel
theorem dX12_swapped_32 : decode cX12_swapped 32 = .ok (.goto (-30), 3) := by decide +kernel
theorem dX12_swapped_35 : decode cX12_swapped 35 = .ok (.return_, 1) := by decide +kernel
theorem dX12_same_0 : decode cX12_same 0 = .ok (.iconst 0, 1) := by decide +kernel
theorem dX12_same_1 : decode cX12_same 1 = .ok (.istore_n 2, 1) := by decide +kernel
theorem dX12_same_2 : decode cX12_same 2 = .ok (.iload_n 2, 1) := by decide +kernel
theorem dX12_same_3 : decode cX12_same 3 = .ok (.bipush 16, 2) := by decide +kernel
theorem dX12_same_5 : decode cX12_same 5 = .ok (.if_icmp .ge 15, 3) := by decide +kernel
theorem dX12_same_8 : decode cX12_same 8 = .ok (.aload_n 0, 1) := by decide +kernel
theorem dX12_same_9 : decode cX12_same 9 = .ok (.iload_n 2, 1) := by decide +kernel
theorem dX12_same_10 : decode cX12_same 10 = .ok (.aload_n 1, 1) := by decide +kernel
theorem dX12_same_11 : decode cX12_same 11 = .ok (.iload_n 2, 1) := by decide +kernel
theorem dX12_same_12 : decode cX12_same 12 = .ok (.laload, 1) := by decide +kernel
theorem dX12_same_13 : decode cX12_same 13 = .ok (.lastore, 1) := by decide +kernel
theorem dX12_same_14 : decode cX12_same 14 = .ok (.iinc 2 1, 3) := by decide +kernel
theorem dX12_same_17 : decode cX12_same 17 = .ok (.goto (-15), 3) := by decide +kernel
theorem dX12_same_20 : decode cX12_same 20 = .ok (.return_, 1) := by decide +kernel
theorem dX12_added_0 : decode cX12_added 0 = .ok (.iconst 0, 1) := by decide +kernel
theorem dX12_added_1 : decode cX12_added 1 = .ok (.istore_n 3, 1) := by decide +kernel
theorem dX12_added_2 : decode cX12_added 2 = .ok (.iload_n 3, 1) := by decide +kernel
theorem dX12_added_3 : decode cX12_added 3 = .ok (.bipush 16, 2) := by decide +kernel
theorem dX12_added_5 : decode cX12_added 5 = .ok (.if_icmp .ge 19, 3) := by decide +kernel
theorem dX12_added_8 : decode cX12_added 8 = .ok (.aload_n 0, 1) := by decide +kernel
theorem dX12_added_9 : decode cX12_added 9 = .ok (.iload_n 3, 1) := by decide +kernel
theorem dX12_added_10 : decode cX12_added 10 = .ok (.aload_n 1, 1) := by decide +kernel
theorem dX12_added_11 : decode cX12_added 11 = .ok (.iload_n 3, 1) := by decide +kernel
theorem dX12_added_12 : decode cX12_added 12 = .ok (.laload, 1) := by decide +kernel
theorem dX12_added_13 : decode cX12_added 13 = .ok (.aload_n 2, 1) := by decide +kernel
theorem dX12_added_14 : decode cX12_added 14 = .ok (.iload_n 3, 1) := by decide +kernel
theorem dX12_added_15 : decode cX12_added 15 = .ok (.laload, 1) := by decide +kernel
theorem dX12_added_16 : decode cX12_added 16 = .ok (.ladd, 1) := by decide +kernel
theorem dX12_added_17 : decode cX12_added 17 = .ok (.lastore, 1) := by decide +kernel
theorem dX12_added_18 : decode cX12_added 18 = .ok (.iinc 3 1, 3) := by decide +kernel
theorem dX12_added_21 : decode cX12_added 21 = .ok (.goto (-19), 3) := by decide +kernel
theorem dX12_added_24 : decode cX12_added 24 = .ok (.return_, 1) := by decide +kernel
theorem dX12_less_0 : decode cX12_less 0 = .ok (.iconst 0, 1) := by decide +kernel
theorem dX12_less_1 : decode cX12_less 1 = .ok (.istore_n 3, 1) := by decide +kernel
theorem dX12_less_2 : decode cX12_less 2 = .ok (.iload_n 3, 1) := by decide +kernel
theorem dX12_less_3 : decode cX12_less 3 = .ok (.bipush 16, 2) := by decide +kernel
theorem dX12_less_5 : decode cX12_less 5 = .ok (.if_icmp .ge 19, 3) := by decide +kernel
theorem dX12_less_8 : decode cX12_less 8 = .ok (.aload_n 0, 1) := by decide +kernel
theorem dX12_less_9 : decode cX12_less 9 = .ok (.iload_n 3, 1) := by decide +kernel
theorem dX12_less_10 : decode cX12_less 10 = .ok (.aload_n 1, 1) := by decide +kernel
theorem dX12_less_11 : decode cX12_less 11 = .ok (.iload_n 3, 1) := by decide +kernel
theorem dX12_less_12 : decode cX12_less 12 = .ok (.laload, 1) := by decide +kernel
theorem dX12_less_13 : decode cX12_less 13 = .ok (.aload_n 2, 1) := by decide +kernel
theorem dX12_less_14 : decode cX12_less 14 = .ok (.iload_n 3, 1) := by decide +kernel
theorem dX12_less_15 : decode cX12_less 15 = .ok (.laload, 1) := by decide +kernel
theorem dX12_less_16 : decode cX12_less 16 = .ok (.lsub, 1) := by decide +kernel
theorem dX12_less_17 : decode cX12_less 17 = .ok (.lastore, 1) := by decide +kernel
theorem dX12_less_18 : decode cX12_less 18 = .ok (.iinc 3 1, 3) := by decide +kernel
theorem dX12_less_21 : decode cX12_less 21 = .ok (.goto (-19), 3) := by decide +kernel
theorem dX12_less_24 : decode cX12_less 24 = .ok (.return_, 1) := by decide +kernel
theorem dX12_times_0 : decode cX12_times 0 = .ok (.iconst 0, 1) := by decide +kernel
theorem dX12_times_1 : decode cX12_times 1 = .ok (.istore 4, 2) := by decide +kernel
theorem dX12_times_3 : decode cX12_times 3 = .ok (.iload 4, 2) := by decide +kernel
theorem dX12_times_5 : decode cX12_times 5 = .ok (.bipush 31, 2) := by decide +kernel
theorem dX12_times_7 : decode cX12_times 7 = .ok (.if_icmp .ge 17, 3) := by decide +kernel
theorem dX12_times_10 : decode cX12_times 10 = .ok (.aload_n 0, 1) := by decide +kernel
theorem dX12_times_11 : decode cX12_times 11 = .ok (.getfield 159, 3) := by decide +kernel
theorem dX12_times_14 : decode cX12_times 14 = .ok (.iload 4, 2) := by decide +kernel
theorem dX12_times_16 : decode cX12_times 16 = .ok (.lconst 0, 1) := by decide +kernel
theorem dX12_times_17 : decode cX12_times 17 = .ok (.lastore, 1) := by decide +kernel
theorem dX12_times_18 : decode cX12_times 18 = .ok (.iinc 4 1, 3) := by decide +kernel
theorem dX12_times_21 : decode cX12_times 21 = .ok (.goto (-18), 3) := by decide +kernel
theorem dX12_times_24 : decode cX12_times 24 = .ok (.iconst 0, 1) := by decide +kernel
theorem dX12_times_25 : decode cX12_times 25 = .ok (.istore 4, 2) := by decide +kernel
theorem dX12_times_27 : decode cX12_times 27 = .ok (.iload 4, 2) := by decide +kernel
theorem dX12_times_29 : decode cX12_times 29 = .ok (.bipush 16, 2) := by decide +kernel
theorem dX12_times_31 : decode cX12_times 31 = .ok (.if_icmp .ge 47, 3) := by decide +kernel
theorem dX12_times_34 : decode cX12_times 34 = .ok (.iconst 0, 1) := by decide +kernel
theorem dX12_times_35 : decode cX12_times 35 = .ok (.istore 5, 2) := by decide +kernel
theorem dX12_times_37 : decode cX12_times 37 = .ok (.iload 5, 2) := by decide +kernel
theorem dX12_times_39 : decode cX12_times 39 = .ok (.bipush 16, 2) := by decide +kernel
theorem dX12_times_41 : decode cX12_times 41 = .ok (.if_icmp .ge 31, 3) := by decide +kernel
theorem dX12_times_44 : decode cX12_times 44 = .ok (.aload_n 0, 1) := by decide +kernel
theorem dX12_times_45 : decode cX12_times 45 = .ok (.getfield 159, 3) := by decide +kernel
theorem dX12_times_48 : decode cX12_times 48 = .ok (.iload 4, 2) := by decide +kernel
theorem dX12_times_50 : decode cX12_times 50 = .ok (.iload 5, 2) := by decide +kernel
theorem dX12_times_52 : decode cX12_times 52 = .ok (.iadd, 1) := by decide +kernel
theorem dX12_times_53 : decode cX12_times 53 = .ok (.dup2, 1) := by decide +kernel
theorem dX12_times_54 : decode cX12_times 54 = .ok (.laload, 1) := by decide +kernel
theorem dX12_times_55 : decode cX12_times 55 = .ok (.aload_n 2, 1) := by decide +kernel
theorem dX12_times_56 : decode cX12_times 56 = .ok (.iload 4, 2) := by decide +kernel
theorem dX12_times_58 : decode cX12_times 58 = .ok (.laload, 1) := by decide +kernel
theorem dX12_times_59 : decode cX12_times 59 = .ok (.aload_n 3, 1) := by decide +kernel
theorem dX12_times_60 : decode cX12_times 60 = .ok (.iload 5, 2) := by decide +kernel
theorem dX12_times_62 : decode cX12_times 62 = .ok (.laload, 1) := by decide +kernel
theorem dX12_times_63 : decode cX12_times 63 = .ok (.lmul, 1) := by decide +kernel
theorem dX12_times_64 : decode cX12_times 64 = .ok (.ladd, 1) := by decide +kernel
theorem dX12_times_65 : decode cX12_times 65 = .ok (.lastore, 1) := by decide +kernel
theorem dX12_times_66 : decode cX12_times 66 = .ok (.iinc 5 1, 3) := by decide +kernel
theorem dX12_times_69 : decode cX12_times 69 = .ok (.goto (-32), 3) := by decide +kernel
theorem dX12_times_72 : decode cX12_times 72 = .ok (.iinc 4 1, 3) := by decide +kernel
theorem dX12_times_75 : decode cX12_times 75 = .ok (.goto (-48), 3) := by decide +kernel
theorem dX12_times_78 : decode cX12_times 78 = .ok (.iconst 0, 1) := by decide +kernel
theorem dX12_times_79 : decode cX12_times 79 = .ok (.istore 4, 2) := by decide +kernel
theorem dX12_times_81 : decode cX12_times 81 = .ok (.iload 4, 2) := by decide +kernel
theorem dX12_times_83 : decode cX12_times 83 = .ok (.bipush 15, 2) := by decide +kernel
theorem dX12_times_85 : decode cX12_times 85 = .ok (.if_icmp .ge 33, 3) := by decide +kernel
theorem dX12_times_88 : decode cX12_times 88 = .ok (.aload_n 0, 1) := by decide +kernel
theorem dX12_times_89 : decode cX12_times 89 = .ok (.getfield 159, 3) := by decide +kernel
theorem dX12_times_92 : decode cX12_times 92 = .ok (.iload 4, 2) := by decide +kernel
theorem dX12_times_94 : decode cX12_times 94 = .ok (.dup2, 1) := by decide +kernel
theorem dX12_times_95 : decode cX12_times 95 = .ok (.laload, 1) := by decide +kernel
theorem dX12_times_96 : decode cX12_times 96 = .ok (.ldc2_w 281, 3) := by decide +kernel
theorem dX12_times_99 : decode cX12_times 99 = .ok (.aload_n 0, 1) := by decide +kernel
theorem dX12_times_100 : decode cX12_times 100 = .ok (.getfield 159, 3) := by decide +kernel
theorem dX12_times_103 : decode cX12_times 103 = .ok (.iload 4, 2) := by decide +kernel
theorem dX12_times_105 : decode cX12_times 105 = .ok (.bipush 16, 2) := by decide +kernel
theorem dX12_times_107 : decode cX12_times 107 = .ok (.iadd, 1) := by decide +kernel
theorem dX12_times_108 : decode cX12_times 108 = .ok (.laload, 1) := by decide +kernel
theorem dX12_times_109 : decode cX12_times 109 = .ok (.lmul, 1) := by decide +kernel
theorem dX12_times_110 : decode cX12_times 110 = .ok (.ladd, 1) := by decide +kernel
theorem dX12_times_111 : decode cX12_times 111 = .ok (.lastore, 1) := by decide +kernel
theorem dX12_times_112 : decode cX12_times 112 = .ok (.iinc 4 1, 3) := by decide +kernel
theorem dX12_times_115 : decode cX12_times 115 = .ok (.goto (-34), 3) := by decide +kernel
theorem dX12_times_118 : decode cX12_times 118 = .ok (.iconst 0, 1) := by decide +kernel
theorem dX12_times_119 : decode cX12_times 119 = .ok (.istore 4, 2) := by decide +kernel
theorem dX12_times_121 : decode cX12_times 121 = .ok (.iload 4, 2) := by decide +kernel
theorem dX12_times_123 : decode cX12_times 123 = .ok (.bipush 16, 2) := by decide +kernel
theorem dX12_times_125 : decode cX12_times 125 = .ok (.if_icmp .ge 20, 3) := by decide +kernel
theorem dX12_times_128 : decode cX12_times 128 = .ok (.aload_n 1, 1) := by decide +kernel
theorem dX12_times_129 : decode cX12_times 129 = .ok (.iload 4, 2) := by decide +kernel
theorem dX12_times_131 : decode cX12_times 131 = .ok (.aload_n 0, 1) := by decide +kernel
theorem dX12_times_132 : decode cX12_times 132 = .ok (.getfield 159, 3) := by decide +kernel
theorem dX12_times_135 : decode cX12_times 135 = .ok (.iload 4, 2) := by decide +kernel
theorem dX12_times_137 : decode cX12_times 137 = .ok (.laload, 1) := by decide +kernel
theorem dX12_times_138 : decode cX12_times 138 = .ok (.lastore, 1) := by decide +kernel
theorem dX12_times_139 : decode cX12_times 139 = .ok (.iinc 4 1, 3) := by decide +kernel
theorem dX12_times_142 : decode cX12_times 142 = .ok (.goto (-21), 3) := by decide +kernel
theorem dX12_times_145 : decode cX12_times 145 = .ok (.aload_n 1, 1) := by decide +kernel
theorem dX12_times_146 : decode cX12_times 146 = .ok (.invokestatic 283, 3) := by decide +kernel
theorem dX12_times_149 : decode cX12_times 149 = .ok (.aload_n 1, 1) := by decide +kernel
theorem dX12_times_150 : decode cX12_times 150 = .ok (.invokestatic 283, 3) := by decide +kernel
theorem dX12_times_153 : decode cX12_times 153 = .ok (.return_, 1) := by decide +kernel
theorem dX12_inverted_0 : decode cX12_inverted 0 = .ok (.aload_n 0, 1) := by decide +kernel
theorem dX12_inverted_1 : decode cX12_inverted 1 = .ok (.getfield 156, 3) := by decide +kernel
theorem dX12_inverted_4 : decode cX12_inverted 4 = .ok (.aload_n 2, 1) := by decide +kernel
theorem dX12_inverted_5 : decode cX12_inverted 5 = .ok (.invokestatic 287, 3) := by decide +kernel
theorem dX12_inverted_8 : decode cX12_inverted 8 = .ok (.sipush 253, 3) := by decide +kernel
theorem dX12_inverted_11 : decode cX12_inverted 11 = .ok (.istore_n 3, 1) := by decide +kernel
theorem dX12_inverted_12 : decode cX12_inverted 12 = .ok (.iload_n 3, 1) := by decide +kernel
theorem dX12_inverted_13 : decode cX12_inverted 13 = .ok (.ifCond .lt 48, 3) := by decide +kernel
theorem dX12_inverted_16 : decode cX12_inverted 16 = .ok (.aload_n 0, 1) := by decide +kernel
theorem dX12_inverted_17 : decode cX12_inverted 17 = .ok (.aload_n 0, 1) := by decide +kernel
theorem dX12_inverted_18 : decode cX12_inverted 18 = .ok (.getfield 156, 3) := by decide +kernel
theorem dX12_inverted_21 : decode cX12_inverted 21 = .ok (.aload_n 0, 1) := by decide +kernel
theorem dX12_inverted_22 : decode cX12_inverted 22 = .ok (.getfield 156, 3) := by decide +kernel
theorem dX12_inverted_25 : decode cX12_inverted 25 = .ok (.aload_n 0, 1) := by decide +kernel
theorem dX12_inverted_26 : decode cX12_inverted 26 = .ok (.getfield 156, 3) := by decide +kernel
theorem dX12_inverted_29 : decode cX12_inverted 29 = .ok (.invokevirtual 291, 3) := by decide +kernel
theorem dX12_inverted_32 : decode cX12_inverted 32 = .ok (.iload_n 3, 1) := by decide +kernel
theorem dX12_inverted_33 : decode cX12_inverted 33 = .ok (.iconst 2, 1) := by decide +kernel
theorem dX12_inverted_34 : decode cX12_inverted 34 = .ok (.if_icmp .eq 21, 3) := by decide +kernel
theorem dX12_inverted_37 : decode cX12_inverted 37 = .ok (.iload_n 3, 1) := by decide +kernel
theorem dX12_inverted_38 : decode cX12_inverted 38 = .ok (.iconst 4, 1) := by decide +kernel
theorem dX12_inverted_39 : decode cX12_inverted 39 = .ok (.if_icmp .eq 16, 3) := by decide +kernel
theorem dX12_inverted_42 : decode cX12_inverted 42 = .ok (.aload_n 0, 1) := by decide +kernel
theorem dX12_inverted_43 : decode cX12_inverted 43 = .ok (.aload_n 0, 1) := by decide +kernel
theorem dX12_inverted_44 : decode cX12_inverted 44 = .ok (.getfield 156, 3) := by decide +kernel
theorem dX12_inverted_47 : decode cX12_inverted 47 = .ok (.aload_n 0, 1) := by decide +kernel
theorem dX12_inverted_48 : decode cX12_inverted 48 = .ok (.getfield 156, 3) := by decide +kernel
theorem dX12_inverted_51 : decode cX12_inverted 51 = .ok (.aload_n 2, 1) := by decide +kernel
theorem dX12_inverted_52 : decode cX12_inverted 52 = .ok (.invokevirtual 291, 3) := by decide +kernel
theorem dX12_inverted_55 : decode cX12_inverted 55 = .ok (.iinc 3 (-1), 3) := by decide +kernel
theorem dX12_inverted_58 : decode cX12_inverted 58 = .ok (.goto (-46), 3) := by decide +kernel
theorem dX12_inverted_61 : decode cX12_inverted 61 = .ok (.aload_n 1, 1) := by decide +kernel
theorem dX12_inverted_62 : decode cX12_inverted 62 = .ok (.aload_n 0, 1) := by decide +kernel
theorem dX12_inverted_63 : decode cX12_inverted 63 = .ok (.getfield 156, 3) := by decide +kernel
theorem dX12_inverted_66 : decode cX12_inverted 66 = .ok (.invokestatic 287, 3) := by decide +kernel
theorem dX12_inverted_69 : decode cX12_inverted 69 = .ok (.return_, 1) := by decide +kernel
theorem dX12_packed_0 : decode cX12_packed 0 = .ok (.aload_n 0, 1) := by decide +kernel
theorem dX12_packed_1 : decode cX12_packed 1 = .ok (.getfield 147, 3) := by decide +kernel
theorem dX12_packed_4 : decode cX12_packed 4 = .ok (.aload_n 2, 1) := by decide +kernel
theorem dX12_packed_5 : decode cX12_packed 5 = .ok (.invokestatic 287, 3) := by decide +kernel
theorem dX12_packed_8 : decode cX12_packed 8 = .ok (.aload_n 0, 1) := by decide +kernel
theorem dX12_packed_9 : decode cX12_packed 9 = .ok (.getfield 147, 3) := by decide +kernel
theorem dX12_packed_12 : decode cX12_packed 12 = .ok (.invokestatic 283, 3) := by decide +kernel
theorem dX12_packed_15 : decode cX12_packed 15 = .ok (.aload_n 0, 1) := by decide +kernel
theorem dX12_packed_16 : decode cX12_packed 16 = .ok (.getfield 147, 3) := by decide +kernel
theorem dX12_packed_19 : decode cX12_packed 19 = .ok (.invokestatic 283, 3) := by decide +kernel
theorem dX12_packed_22 : decode cX12_packed 22 = .ok (.aload_n 0, 1) := by decide +kernel
theorem dX12_packed_23 : decode cX12_packed 23 = .ok (.getfield 147, 3) := by decide +kernel
theorem dX12_packed_26 : decode cX12_packed 26 = .ok (.invokestatic 283, 3) := by decide +kernel
theorem dX12_packed_29 : decode cX12_packed 29 = .ok (.iconst 0, 1) := by decide +kernel
theorem dX12_packed_30 : decode cX12_packed 30 = .ok (.istore_n 3, 1) := by decide +kernel
theorem dX12_packed_31 : decode cX12_packed 31 = .ok (.iload_n 3, 1) := by decide +kernel
theorem dX12_packed_32 : decode cX12_packed 32 = .ok (.iconst 2, 1) := by decide +kernel
theorem dX12_packed_33 : decode cX12_packed 33 = .ok (.if_icmp .ge 173, 3) := by decide +kernel
theorem dX12_packed_36 : decode cX12_packed 36 = .ok (.aload_n 0, 1) := by decide +kernel
theorem dX12_packed_37 : decode cX12_packed 37 = .ok (.getfield 153, 3) := by decide +kernel
theorem dX12_packed_40 : decode cX12_packed 40 = .ok (.iconst 0, 1) := by decide +kernel
theorem dX12_packed_41 : decode cX12_packed 41 = .ok (.aload_n 0, 1) := by decide +kernel
theorem dX12_packed_42 : decode cX12_packed 42 = .ok (.getfield 147, 3) := by decide +kernel
theorem dX12_packed_45 : decode cX12_packed 45 = .ok (.iconst 0, 1) := by decide +kernel
theorem dX12_packed_46 : decode cX12_packed 46 = .ok (.laload, 1) := by decide +kernel
theorem dX12_packed_47 : decode cX12_packed 47 = .ok (.ldc2_w 295, 3) := by decide +kernel
theorem dX12_packed_50 : decode cX12_packed 50 = .ok (.lsub, 1) := by decide +kernel
theorem dX12_packed_51 : decode cX12_packed 51 = .ok (.lastore, 1) := by decide +kernel
theorem dX12_packed_52 : decode cX12_packed 52 = .ok (.iconst 1, 1) := by decide +kernel
theorem dX12_packed_53 : decode cX12_packed 53 = .ok (.istore 4, 2) := by decide +kernel
theorem dX12_packed_55 : decode cX12_packed 55 = .ok (.iload 4, 2) := by decide +kernel
theorem dX12_packed_57 : decode cX12_packed 57 = .ok (.bipush 15, 2) := by decide +kernel
theorem dX12_packed_59 : decode cX12_packed 59 = .ok (.if_icmp .ge 57, 3) := by decide +kernel
theorem dX12_packed_62 : decode cX12_packed 62 = .ok (.aload_n 0, 1) := by decide +kernel
theorem dX12_packed_63 : decode cX12_packed 63 = .ok (.getfield 153, 3) := by decide +kernel
theorem dX12_packed_66 : decode cX12_packed 66 = .ok (.iload 4, 2) := by decide +kernel
theorem dX12_packed_68 : decode cX12_packed 68 = .ok (.aload_n 0, 1) := by decide +kernel
theorem dX12_packed_69 : decode cX12_packed 69 = .ok (.getfield 147, 3) := by decide +kernel
theorem dX12_packed_72 : decode cX12_packed 72 = .ok (.iload 4, 2) := by decide +kernel
theorem dX12_packed_74 : decode cX12_packed 74 = .ok (.laload, 1) := by decide +kernel
theorem dX12_packed_75 : decode cX12_packed 75 = .ok (.ldc2_w 297, 3) := by decide +kernel
theorem dX12_packed_78 : decode cX12_packed 78 = .ok (.lsub, 1) := by decide +kernel
theorem dX12_packed_79 : decode cX12_packed 79 = .ok (.aload_n 0, 1) := by decide +kernel
theorem dX12_packed_80 : decode cX12_packed 80 = .ok (.getfield 153, 3) := by decide +kernel
theorem dX12_packed_83 : decode cX12_packed 83 = .ok (.iload 4, 2) := by decide +kernel
theorem dX12_packed_85 : decode cX12_packed 85 = .ok (.iconst 1, 1) := by decide +kernel
theorem dX12_packed_86 : decode cX12_packed 86 = .ok (.isub, 1) := by decide +kernel
theorem dX12_packed_87 : decode cX12_packed 87 = .ok (.laload, 1) := by decide +kernel
theorem dX12_packed_88 : decode cX12_packed 88 = .ok (.bipush 16, 2) := by decide +kernel
theorem dX12_packed_90 : decode cX12_packed 90 = .ok (.lshr, 1) := by decide +kernel
theorem dX12_packed_91 : decode cX12_packed 91 = .ok (.lconst 1, 1) := by decide +kernel
theorem dX12_packed_92 : decode cX12_packed 92 = .ok (.land, 1) := by decide +kernel
theorem dX12_packed_93 : decode cX12_packed 93 = .ok (.lsub, 1) := by decide +kernel
theorem dX12_packed_94 : decode cX12_packed 94 = .ok (.lastore, 1) := by decide +kernel
theorem dX12_packed_95 : decode cX12_packed 95 = .ok (.aload_n 0, 1) := by decide +kernel
theorem dX12_packed_96 : decode cX12_packed 96 = .ok (.getfield 153, 3) := by decide +kernel
theorem dX12_packed_99 : decode cX12_packed 99 = .ok (.iload 4, 2) := by decide +kernel
theorem dX12_packed_101 : decode cX12_packed 101 = .ok (.iconst 1, 1) := by decide +kernel
theorem dX12_packed_102 : decode cX12_packed 102 = .ok (.isub, 1) := by decide +kernel
theorem dX12_packed_103 : decode cX12_packed 103 = .ok (.dup2, 1) := by decide +kernel
theorem dX12_packed_104 : decode cX12_packed 104 = .ok (.laload, 1) := by decide +kernel
theorem dX12_packed_105 : decode cX12_packed 105 = .ok (.ldc2_w 297, 3) := by decide +kernel
theorem dX12_packed_108 : decode cX12_packed 108 = .ok (.land, 1) := by decide +kernel
theorem dX12_packed_109 : decode cX12_packed 109 = .ok (.lastore, 1) := by decide +kernel
theorem dX12_packed_110 : decode cX12_packed 110 = .ok (.iinc 4 1, 3) := by decide +kernel
theorem dX12_packed_113 : decode cX12_packed 113 = .ok (.goto (-58), 3) := by decide +kernel
theorem dX12_packed_116 : decode cX12_packed 116 = .ok (.aload_n 0, 1) := by decide +kernel
theorem dX12_packed_117 : decode cX12_packed 117 = .ok (.getfield 153, 3) := by decide +kernel
theorem dX12_packed_120 : decode cX12_packed 120 = .ok (.bipush 15, 2) := by decide +kernel
theorem dX12_packed_122 : decode cX12_packed 122 = .ok (.aload_n 0, 1) := by decide +kernel
theorem dX12_packed_123 : decode cX12_packed 123 = .ok (.getfield 147, 3) := by decide +kernel
theorem dX12_packed_126 : decode cX12_packed 126 = .ok (.bipush 15, 2) := by decide +kernel
theorem dX12_packed_128 : decode cX12_packed 128 = .ok (.laload, 1) := by decide +kernel
theorem dX12_packed_129 : decode cX12_packed 129 = .ok (.ldc2_w 299, 3) := by decide +kernel
theorem dX12_packed_132 : decode cX12_packed 132 = .ok (.lsub, 1) := by decide +kernel
theorem dX12_packed_133 : decode cX12_packed 133 = .ok (.aload_n 0, 1) := by decide +kernel
theorem dX12_packed_134 : decode cX12_packed 134 = .ok (.getfield 153, 3) := by decide +kernel
theorem dX12_packed_137 : decode cX12_packed 137 = .ok (.bipush 14, 2) := by decide +kernel
theorem dX12_packed_139 : decode cX12_packed 139 = .ok (.laload, 1) := by decide +kernel
theorem dX12_packed_140 : decode cX12_packed 140 = .ok (.bipush 16, 2) := by decide +kernel
theorem dX12_packed_142 : decode cX12_packed 142 = .ok (.lshr, 1) := by decide +kernel
theorem dX12_packed_143 : decode cX12_packed 143 = .ok (.lconst 1, 1) := by decide +kernel
theorem dX12_packed_144 : decode cX12_packed 144 = .ok (.land, 1) := by decide +kernel
theorem dX12_packed_145 : decode cX12_packed 145 = .ok (.lsub, 1) := by decide +kernel
theorem dX12_packed_146 : decode cX12_packed 146 = .ok (.lastore, 1) := by decide +kernel
theorem dX12_packed_147 : decode cX12_packed 147 = .ok (.aload_n 0, 1) := by decide +kernel
theorem dX12_packed_148 : decode cX12_packed 148 = .ok (.getfield 153, 3) := by decide +kernel
theorem dX12_packed_151 : decode cX12_packed 151 = .ok (.bipush 15, 2) := by decide +kernel
theorem dX12_packed_153 : decode cX12_packed 153 = .ok (.laload, 1) := by decide +kernel
theorem dX12_packed_154 : decode cX12_packed 154 = .ok (.bipush 16, 2) := by decide +kernel
theorem dX12_packed_156 : decode cX12_packed 156 = .ok (.lshr, 1) := by decide +kernel
theorem dX12_packed_157 : decode cX12_packed 157 = .ok (.lconst 1, 1) := by decide +kernel
theorem dX12_packed_158 : decode cX12_packed 158 = .ok (.land, 1) := by decide +kernel
theorem dX12_packed_159 : decode cX12_packed 159 = .ok (.lconst 1, 1) := by decide +kernel
theorem dX12_packed_160 : decode cX12_packed 160 = .ok (.lcmp, 1) := by decide +kernel
theorem dX12_packed_161 : decode cX12_packed 161 = .ok (.ifCond .ne 7, 3) := by decide +kernel
theorem dX12_packed_164 : decode cX12_packed 164 = .ok (.iconst 1, 1) := by decide +kernel
theorem dX12_packed_165 : decode cX12_packed 165 = .ok (.goto 4, 3) := by decide +kernel
theorem dX12_packed_168 : decode cX12_packed 168 = .ok (.iconst 0, 1) := by decide +kernel
theorem dX12_packed_169 : decode cX12_packed 169 = .ok (.istore 4, 2) := by decide +kernel
theorem dX12_packed_171 : decode cX12_packed 171 = .ok (.aload_n 0, 1) := by decide +kernel
theorem dX12_packed_172 : decode cX12_packed 172 = .ok (.getfield 153, 3) := by decide +kernel
theorem dX12_packed_175 : decode cX12_packed 175 = .ok (.bipush 14, 2) := by decide +kernel
theorem dX12_packed_177 : decode cX12_packed 177 = .ok (.dup2, 1) := by decide +kernel
theorem dX12_packed_178 : decode cX12_packed 178 = .ok (.laload, 1) := by decide +kernel
theorem dX12_packed_179 : decode cX12_packed 179 = .ok (.ldc2_w 297, 3) := by decide +kernel
theorem dX12_packed_182 : decode cX12_packed 182 = .ok (.land, 1) := by decide +kernel
theorem dX12_packed_183 : decode cX12_packed 183 = .ok (.lastore, 1) := by decide +kernel
theorem dX12_packed_184 : decode cX12_packed 184 = .ok (.iload 4, 2) := by decide +kernel
theorem dX12_packed_186 : decode cX12_packed 186 = .ok (.ifCond .ne 14, 3) := by decide +kernel
theorem dX12_packed_189 : decode cX12_packed 189 = .ok (.aload_n 0, 1) := by decide +kernel
theorem dX12_packed_190 : decode cX12_packed 190 = .ok (.getfield 147, 3) := by decide +kernel
theorem dX12_packed_193 : decode cX12_packed 193 = .ok (.aload_n 0, 1) := by decide +kernel
theorem dX12_packed_194 : decode cX12_packed 194 = .ok (.getfield 153, 3) := by decide +kernel
theorem dX12_packed_197 : decode cX12_packed 197 = .ok (.invokestatic 287, 3) := by decide +kernel
theorem dX12_packed_200 : decode cX12_packed 200 = .ok (.iinc 3 1, 3) := by decide +kernel
theorem dX12_packed_203 : decode cX12_packed 203 = .ok (.goto (-172), 3) := by decide +kernel
theorem dX12_packed_206 : decode cX12_packed 206 = .ok (.iconst 0, 1) := by decide +kernel
theorem dX12_packed_207 : decode cX12_packed 207 = .ok (.istore_n 3, 1) := by decide +kernel
theorem dX12_packed_208 : decode cX12_packed 208 = .ok (.iload_n 3, 1) := by decide +kernel
theorem dX12_packed_209 : decode cX12_packed 209 = .ok (.bipush 16, 2) := by decide +kernel
theorem dX12_packed_211 : decode cX12_packed 211 = .ok (.if_icmp .ge 40, 3) := by decide +kernel
theorem dX12_packed_214 : decode cX12_packed 214 = .ok (.aload_n 1, 1) := by decide +kernel
theorem dX12_packed_215 : decode cX12_packed 215 = .ok (.iconst 2, 1) := by decide +kernel
theorem dX12_packed_216 : decode cX12_packed 216 = .ok (.iload_n 3, 1) := by decide +kernel
theorem dX12_packed_217 : decode cX12_packed 217 = .ok (.imul, 1) := by decide +kernel
theorem dX12_packed_218 : decode cX12_packed 218 = .ok (.aload_n 0, 1) := by decide +kernel
theorem dX12_packed_219 : decode cX12_packed 219 = .ok (.getfield 147, 3) := by decide +kernel
theorem dX12_packed_222 : decode cX12_packed 222 = .ok (.iload_n 3, 1) := by decide +kernel
theorem dX12_packed_223 : decode cX12_packed 223 = .ok (.laload, 1) := by decide +kernel
theorem dX12_packed_224 : decode cX12_packed 224 = .ok (.l2i, 1) := by decide +kernel
theorem dX12_packed_225 : decode cX12_packed 225 = .ok (.i2b, 1) := by decide +kernel
theorem dX12_packed_226 : decode cX12_packed 226 = .ok (.bastore, 1) := by decide +kernel
theorem dX12_packed_227 : decode cX12_packed 227 = .ok (.aload_n 1, 1) := by decide +kernel
theorem dX12_packed_228 : decode cX12_packed 228 = .ok (.iconst 2, 1) := by decide +kernel
theorem dX12_packed_229 : decode cX12_packed 229 = .ok (.iload_n 3, 1) := by decide +kernel
theorem dX12_packed_230 : decode cX12_packed 230 = .ok (.imul, 1) := by decide +kernel
theorem dX12_packed_231 : decode cX12_packed 231 = .ok (.iconst 1, 1) := by decide +kernel
theorem dX12_packed_232 : decode cX12_packed 232 = .ok (.iadd, 1) := by decide +kernel
theorem dX12_packed_233 : decode cX12_packed 233 = .ok (.aload_n 0, 1) := by decide +kernel
theorem dX12_packed_234 : decode cX12_packed 234 = .ok (.getfield 147, 3) := by decide +kernel
theorem dX12_packed_237 : decode cX12_packed 237 = .ok (.iload_n 3, 1) := by decide +kernel
theorem dX12_packed_238 : decode cX12_packed 238 = .ok (.laload, 1) := by decide +kernel
theorem dX12_packed_239 : decode cX12_packed 239 = .ok (.bipush 8, 2) := by decide +kernel
theorem dX12_packed_241 : decode cX12_packed 241 = .ok (.lshr, 1) := by decide +kernel
theorem dX12_packed_242 : decode cX12_packed 242 = .ok (.l2i, 1) := by decide +kernel
theorem dX12_packed_243 : decode cX12_packed 243 = .ok (.i2b, 1) := by decide +kernel
theorem dX12_packed_244 : decode cX12_packed 244 = .ok (.bastore, 1) := by decide +kernel
theorem dX12_packed_245 : decode cX12_packed 245 = .ok (.iinc 3 1, 3) := by decide +kernel
theorem dX12_packed_248 : decode cX12_packed 248 = .ok (.goto (-40), 3) := by decide +kernel
theorem dX12_packed_251 : decode cX12_packed 251 = .ok (.return_, 1) := by decide +kernel
theorem dX12_curved_0 : decode cX12_curved 0 = .ok (.aload_n 1, 1) := by decide +kernel
theorem dX12_curved_1 : decode cX12_curved 1 = .ok (.iload_n 2, 1) := by decide +kernel
theorem dX12_curved_2 : decode cX12_curved 2 = .ok (.aload_n 0, 1) := by decide +kernel
theorem dX12_curved_3 : decode cX12_curved 3 = .ok (.getfield 162, 3) := by decide +kernel
theorem dX12_curved_6 : decode cX12_curved 6 = .ok (.iconst 0, 1) := by decide +kernel
theorem dX12_curved_7 : decode cX12_curved 7 = .ok (.bipush 32, 2) := by decide +kernel
theorem dX12_curved_9 : decode cX12_curved 9 = .ok (.invokestatic 265, 3) := by decide +kernel
theorem dX12_curved_12 : decode cX12_curved 12 = .ok (.aload_n 0, 1) := by decide +kernel
theorem dX12_curved_13 : decode cX12_curved 13 = .ok (.getfield 162, 3) := by decide +kernel
theorem dX12_curved_16 : decode cX12_curved 16 = .ok (.bipush 31, 2) := by decide +kernel
theorem dX12_curved_18 : decode cX12_curved 18 = .ok (.aload_n 0, 1) := by decide +kernel
theorem dX12_curved_19 : decode cX12_curved 19 = .ok (.getfield 162, 3) := by decide +kernel
theorem dX12_curved_22 : decode cX12_curved 22 = .ok (.bipush 31, 2) := by decide +kernel
theorem dX12_curved_24 : decode cX12_curved 24 = .ok (.baload, 1) := by decide +kernel
theorem dX12_curved_25 : decode cX12_curved 25 = .ok (.bipush 127, 2) := by decide +kernel
theorem dX12_curved_27 : decode cX12_curved 27 = .ok (.iand, 1) := by decide +kernel
theorem dX12_curved_28 : decode cX12_curved 28 = .ok (.bipush 64, 2) := by decide +kernel
theorem dX12_curved_30 : decode cX12_curved 30 = .ok (.ior, 1) := by decide +kernel
theorem dX12_curved_31 : decode cX12_curved 31 = .ok (.i2b, 1) := by decide +kernel
theorem dX12_curved_32 : decode cX12_curved 32 = .ok (.bastore, 1) := by decide +kernel
theorem dX12_curved_33 : decode cX12_curved 33 = .ok (.aload_n 0, 1) := by decide +kernel
theorem dX12_curved_34 : decode cX12_curved 34 = .ok (.getfield 162, 3) := by decide +kernel
theorem dX12_curved_37 : decode cX12_curved 37 = .ok (.iconst 0, 1) := by decide +kernel
theorem dX12_curved_38 : decode cX12_curved 38 = .ok (.aload_n 0, 1) := by decide +kernel
theorem dX12_curved_39 : decode cX12_curved 39 = .ok (.getfield 162, 3) := by decide +kernel
theorem dX12_curved_42 : decode cX12_curved 42 = .ok (.iconst 0, 1) := by decide +kernel
theorem dX12_curved_43 : decode cX12_curved 43 = .ok (.baload, 1) := by decide +kernel
theorem dX12_curved_44 : decode cX12_curved 44 = .ok (.sipush 248, 3) := by decide +kernel
theorem dX12_curved_47 : decode cX12_curved 47 = .ok (.iand, 1) := by decide +kernel
theorem dX12_curved_48 : decode cX12_curved 48 = .ok (.i2b, 1) := by decide +kernel
theorem dX12_curved_49 : decode cX12_curved 49 = .ok (.bastore, 1) := by decide +kernel
theorem dX12_curved_50 : decode cX12_curved 50 = .ok (.iconst 0, 1) := by decide +kernel
theorem dX12_curved_51 : decode cX12_curved 51 = .ok (.istore 5, 2) := by decide +kernel
theorem dX12_curved_53 : decode cX12_curved 53 = .ok (.iload 5, 2) := by decide +kernel
theorem dX12_curved_55 : decode cX12_curved 55 = .ok (.bipush 16, 2) := by decide +kernel
theorem dX12_curved_57 : decode cX12_curved 57 = .ok (.if_icmp .ge 90, 3) := by decide +kernel
theorem dX12_curved_60 : decode cX12_curved 60 = .ok (.aload_n 0, 1) := by decide +kernel
theorem dX12_curved_61 : decode cX12_curved 61 = .ok (.getfield 125, 3) := by decide +kernel
theorem dX12_curved_64 : decode cX12_curved 64 = .ok (.iload 5, 2) := by decide +kernel
theorem dX12_curved_66 : decode cX12_curved 66 = .ok (.aload_n 3, 1) := by decide +kernel
theorem dX12_curved_67 : decode cX12_curved 67 = .ok (.iload 4, 2) := by decide +kernel
theorem dX12_curved_69 : decode cX12_curved 69 = .ok (.iconst 2, 1) := by decide +kernel
theorem dX12_curved_70 : decode cX12_curved 70 = .ok (.iload 5, 2) := by decide +kernel
theorem dX12_curved_72 : decode cX12_curved 72 = .ok (.imul, 1) := by decide +kernel
theorem dX12_curved_73 : decode cX12_curved 73 = .ok (.iadd, 1) := by decide +kernel
theorem dX12_curved_74 : decode cX12_curved 74 = .ok (.baload, 1) := by decide +kernel
theorem dX12_curved_75 : decode cX12_curved 75 = .ok (.i2l, 1) := by decide +kernel
theorem dX12_curved_76 : decode cX12_curved 76 = .ok (.ldc2_w 301, 3) := by decide +kernel
theorem dX12_curved_79 : decode cX12_curved 79 = .ok (.land, 1) := by decide +kernel
theorem dX12_curved_80 : decode cX12_curved 80 = .ok (.aload_n 3, 1) := by decide +kernel
theorem dX12_curved_81 : decode cX12_curved 81 = .ok (.iload 4, 2) := by decide +kernel
theorem dX12_curved_83 : decode cX12_curved 83 = .ok (.iconst 2, 1) := by decide +kernel
theorem dX12_curved_84 : decode cX12_curved 84 = .ok (.iload 5, 2) := by decide +kernel
theorem dX12_curved_86 : decode cX12_curved 86 = .ok (.imul, 1) := by decide +kernel
theorem dX12_curved_87 : decode cX12_curved 87 = .ok (.iadd, 1) := by decide +kernel
theorem dX12_curved_88 : decode cX12_curved 88 = .ok (.iconst 1, 1) := by decide +kernel
theorem dX12_curved_89 : decode cX12_curved 89 = .ok (.iadd, 1) := by decide +kernel
theorem dX12_curved_90 : decode cX12_curved 90 = .ok (.baload, 1) := by decide +kernel
theorem dX12_curved_91 : decode cX12_curved 91 = .ok (.i2l, 1) := by decide +kernel
theorem dX12_curved_92 : decode cX12_curved 92 = .ok (.ldc2_w 301, 3) := by decide +kernel
theorem dX12_curved_95 : decode cX12_curved 95 = .ok (.land, 1) := by decide +kernel
theorem dX12_curved_96 : decode cX12_curved 96 = .ok (.bipush 8, 2) := by decide +kernel
theorem dX12_curved_98 : decode cX12_curved 98 = .ok (.lshl, 1) := by decide +kernel
theorem dX12_curved_99 : decode cX12_curved 99 = .ok (.ladd, 1) := by decide +kernel
theorem dX12_curved_100 : decode cX12_curved 100 = .ok (.lastore, 1) := by decide +kernel
theorem dX12_curved_101 : decode cX12_curved 101 = .ok (.aload_n 0, 1) := by decide +kernel
theorem dX12_curved_102 : decode cX12_curved 102 = .ok (.getfield 132, 3) := by decide +kernel
theorem dX12_curved_105 : decode cX12_curved 105 = .ok (.iload 5, 2) := by decide +kernel
theorem dX12_curved_107 : decode cX12_curved 107 = .ok (.lconst 0, 1) := by decide +kernel
theorem dX12_curved_108 : decode cX12_curved 108 = .ok (.lastore, 1) := by decide +kernel
theorem dX12_curved_109 : decode cX12_curved 109 = .ok (.aload_n 0, 1) := by decide +kernel
theorem dX12_curved_110 : decode cX12_curved 110 = .ok (.getfield 129, 3) := by decide +kernel
theorem dX12_curved_113 : decode cX12_curved 113 = .ok (.iload 5, 2) := by decide +kernel
theorem dX12_curved_115 : decode cX12_curved 115 = .ok (.lconst 0, 1) := by decide +kernel
theorem dX12_curved_116 : decode cX12_curved 116 = .ok (.lastore, 1) := by decide +kernel
theorem dX12_curved_117 : decode cX12_curved 117 = .ok (.aload_n 0, 1) := by decide +kernel
theorem dX12_curved_118 : decode cX12_curved 118 = .ok (.getfield 135, 3) := by decide +kernel
theorem dX12_curved_121 : decode cX12_curved 121 = .ok (.iload 5, 2) := by decide +kernel
theorem dX12_curved_123 : decode cX12_curved 123 = .ok (.lconst 0, 1) := by decide +kernel
theorem dX12_curved_124 : decode cX12_curved 124 = .ok (.lastore, 1) := by decide +kernel
theorem dX12_curved_125 : decode cX12_curved 125 = .ok (.aload_n 0, 1) := by decide +kernel
theorem dX12_curved_126 : decode cX12_curved 126 = .ok (.getfield 138, 3) := by decide +kernel
theorem dX12_curved_129 : decode cX12_curved 129 = .ok (.iload 5, 2) := by decide +kernel
theorem dX12_curved_131 : decode cX12_curved 131 = .ok (.lconst 0, 1) := by decide +kernel
theorem dX12_curved_132 : decode cX12_curved 132 = .ok (.lastore, 1) := by decide +kernel
theorem dX12_curved_133 : decode cX12_curved 133 = .ok (.aload_n 0, 1) := by decide +kernel
theorem dX12_curved_134 : decode cX12_curved 134 = .ok (.getfield 150, 3) := by decide +kernel
theorem dX12_curved_137 : decode cX12_curved 137 = .ok (.iload 5, 2) := by decide +kernel
theorem dX12_curved_139 : decode cX12_curved 139 = .ok (.lconst 0, 1) := by decide +kernel
theorem dX12_curved_140 : decode cX12_curved 140 = .ok (.lastore, 1) := by decide +kernel
theorem dX12_curved_141 : decode cX12_curved 141 = .ok (.iinc 5 1, 3) := by decide +kernel
theorem dX12_curved_144 : decode cX12_curved 144 = .ok (.goto (-91), 3) := by decide +kernel
theorem dX12_curved_147 : decode cX12_curved 147 = .ok (.aload_n 0, 1) := by decide +kernel
theorem dX12_curved_148 : decode cX12_curved 148 = .ok (.getfield 125, 3) := by decide +kernel
theorem dX12_curved_151 : decode cX12_curved 151 = .ok (.bipush 15, 2) := by decide +kernel
theorem dX12_curved_153 : decode cX12_curved 153 = .ok (.dup2, 1) := by decide +kernel
theorem dX12_curved_154 : decode cX12_curved 154 = .ok (.laload, 1) := by decide +kernel
theorem dX12_curved_155 : decode cX12_curved 155 = .ok (.ldc2_w 299, 3) := by decide +kernel
theorem dX12_curved_158 : decode cX12_curved 158 = .ok (.land, 1) := by decide +kernel
theorem dX12_curved_159 : decode cX12_curved 159 = .ok (.lastore, 1) := by decide +kernel
theorem dX12_curved_160 : decode cX12_curved 160 = .ok (.aload_n 0, 1) := by decide +kernel
theorem dX12_curved_161 : decode cX12_curved 161 = .ok (.getfield 132, 3) := by decide +kernel
theorem dX12_curved_164 : decode cX12_curved 164 = .ok (.aload_n 0, 1) := by decide +kernel
theorem dX12_curved_165 : decode cX12_curved 165 = .ok (.getfield 125, 3) := by decide +kernel
theorem dX12_curved_168 : decode cX12_curved 168 = .ok (.invokestatic 287, 3) := by decide +kernel
theorem dX12_curved_171 : decode cX12_curved 171 = .ok (.aload_n 0, 1) := by decide +kernel
theorem dX12_curved_172 : decode cX12_curved 172 = .ok (.getfield 129, 3) := by decide +kernel
theorem dX12_curved_175 : decode cX12_curved 175 = .ok (.iconst 0, 1) := by decide +kernel
theorem dX12_curved_176 : decode cX12_curved 176 = .ok (.lconst 1, 1) := by decide +kernel
theorem dX12_curved_177 : decode cX12_curved 177 = .ok (.lastore, 1) := by decide +kernel
theorem dX12_curved_178 : decode cX12_curved 178 = .ok (.aload_n 0, 1) := by decide +kernel
theorem dX12_curved_179 : decode cX12_curved 179 = .ok (.getfield 138, 3) := by decide +kernel
theorem dX12_curved_182 : decode cX12_curved 182 = .ok (.iconst 0, 1) := by decide +kernel
theorem dX12_curved_183 : decode cX12_curved 183 = .ok (.lconst 1, 1) := by decide +kernel
theorem dX12_curved_184 : decode cX12_curved 184 = .ok (.lastore, 1) := by decide +kernel
theorem dX12_curved_185 : decode cX12_curved 185 = .ok (.aload_n 0, 1) := by decide +kernel
theorem dX12_curved_186 : decode cX12_curved 186 = .ok (.getfield 150, 3) := by decide +kernel
theorem dX12_curved_189 : decode cX12_curved 189 = .ok (.iconst 0, 1) := by decide +kernel
theorem dX12_curved_190 : decode cX12_curved 190 = .ok (.ldc2_w 303, 3) := by decide +kernel
theorem dX12_curved_193 : decode cX12_curved 193 = .ok (.lastore, 1) := by decide +kernel
theorem dX12_curved_194 : decode cX12_curved 194 = .ok (.aload_n 0, 1) := by decide +kernel
theorem dX12_curved_195 : decode cX12_curved 195 = .ok (.getfield 150, 3) := by decide +kernel
theorem dX12_curved_198 : decode cX12_curved 198 = .ok (.iconst 1, 1) := by decide +kernel
theorem dX12_curved_199 : decode cX12_curved 199 = .ok (.lconst 1, 1) := by decide +kernel
theorem dX12_curved_200 : decode cX12_curved 200 = .ok (.lastore, 1) := by decide +kernel
theorem dX12_curved_201 : decode cX12_curved 201 = .ok (.sipush 254, 3) := by decide +kernel
theorem dX12_curved_204 : decode cX12_curved 204 = .ok (.istore 5, 2) := by decide +kernel
theorem dX12_curved_206 : decode cX12_curved 206 = .ok (.iload 5, 2) := by decide +kernel
theorem dX12_curved_208 : decode cX12_curved 208 = .ok (.ifCond .lt 360, 3) := by decide +kernel
theorem dX12_curved_211 : decode cX12_curved 211 = .ok (.aload_n 0, 1) := by decide +kernel
theorem dX12_curved_212 : decode cX12_curved 212 = .ok (.getfield 162, 3) := by decide +kernel
theorem dX12_curved_215 : decode cX12_curved 215 = .ok (.iload 5, 2) := by decide +kernel
theorem dX12_curved_217 : decode cX12_curved 217 = .ok (.iconst 3, 1) := by decide +kernel
theorem dX12_curved_218 : decode cX12_curved 218 = .ok (.ishr, 1) := by decide +kernel
theorem dX12_curved_219 : decode cX12_curved 219 = .ok (.baload, 1) := by decide +kernel
theorem dX12_curved_220 : decode cX12_curved 220 = .ok (.iload 5, 2) := by decide +kernel
theorem dX12_curved_222 : decode cX12_curved 222 = .ok (.bipush 7, 2) := by decide +kernel
theorem dX12_curved_224 : decode cX12_curved 224 = .ok (.iand, 1) := by decide +kernel
theorem dX12_curved_225 : decode cX12_curved 225 = .ok (.ishr, 1) := by decide +kernel
theorem dX12_curved_226 : decode cX12_curved 226 = .ok (.iconst 1, 1) := by decide +kernel
theorem dX12_curved_227 : decode cX12_curved 227 = .ok (.iand, 1) := by decide +kernel
theorem dX12_curved_228 : decode cX12_curved 228 = .ok (.istore 6, 2) := by decide +kernel
theorem dX12_curved_230 : decode cX12_curved 230 = .ok (.aload_n 0, 1) := by decide +kernel
theorem dX12_curved_231 : decode cX12_curved 231 = .ok (.getfield 129, 3) := by decide +kernel
theorem dX12_curved_234 : decode cX12_curved 234 = .ok (.aload_n 0, 1) := by decide +kernel
theorem dX12_curved_235 : decode cX12_curved 235 = .ok (.getfield 132, 3) := by decide +kernel
theorem dX12_curved_238 : decode cX12_curved 238 = .ok (.iload 6, 2) := by decide +kernel
theorem dX12_curved_240 : decode cX12_curved 240 = .ok (.invokestatic 305, 3) := by decide +kernel
theorem dX12_curved_243 : decode cX12_curved 243 = .ok (.aload_n 0, 1) := by decide +kernel
theorem dX12_curved_244 : decode cX12_curved 244 = .ok (.getfield 135, 3) := by decide +kernel
theorem dX12_curved_247 : decode cX12_curved 247 = .ok (.aload_n 0, 1) := by decide +kernel
theorem dX12_curved_248 : decode cX12_curved 248 = .ok (.getfield 138, 3) := by decide +kernel
theorem dX12_curved_251 : decode cX12_curved 251 = .ok (.iload 6, 2) := by decide +kernel
theorem dX12_curved_253 : decode cX12_curved 253 = .ok (.invokestatic 305, 3) := by decide +kernel
theorem dX12_curved_256 : decode cX12_curved 256 = .ok (.aload_n 0, 1) := by decide +kernel
theorem dX12_curved_257 : decode cX12_curved 257 = .ok (.getfield 141, 3) := by decide +kernel
theorem dX12_curved_260 : decode cX12_curved 260 = .ok (.aload_n 0, 1) := by decide +kernel
theorem dX12_curved_261 : decode cX12_curved 261 = .ok (.getfield 129, 3) := by decide +kernel
theorem dX12_curved_264 : decode cX12_curved 264 = .ok (.aload_n 0, 1) := by decide +kernel
theorem dX12_curved_265 : decode cX12_curved 265 = .ok (.getfield 135, 3) := by decide +kernel
theorem dX12_curved_268 : decode cX12_curved 268 = .ok (.invokestatic 309, 3) := by decide +kernel
theorem dX12_curved_271 : decode cX12_curved 271 = .ok (.aload_n 0, 1) := by decide +kernel
theorem dX12_curved_272 : decode cX12_curved 272 = .ok (.getfield 129, 3) := by decide +kernel
theorem dX12_curved_275 : decode cX12_curved 275 = .ok (.aload_n 0, 1) := by decide +kernel
theorem dX12_curved_276 : decode cX12_curved 276 = .ok (.getfield 129, 3) := by decide +kernel
theorem dX12_curved_279 : decode cX12_curved 279 = .ok (.aload_n 0, 1) := by decide +kernel
theorem dX12_curved_280 : decode cX12_curved 280 = .ok (.getfield 135, 3) := by decide +kernel
theorem dX12_curved_283 : decode cX12_curved 283 = .ok (.invokestatic 312, 3) := by decide +kernel
theorem dX12_curved_286 : decode cX12_curved 286 = .ok (.aload_n 0, 1) := by decide +kernel
theorem dX12_curved_287 : decode cX12_curved 287 = .ok (.getfield 135, 3) := by decide +kernel
theorem dX12_curved_290 : decode cX12_curved 290 = .ok (.aload_n 0, 1) := by decide +kernel
theorem dX12_curved_291 : decode cX12_curved 291 = .ok (.getfield 132, 3) := by decide +kernel
theorem dX12_curved_294 : decode cX12_curved 294 = .ok (.aload_n 0, 1) := by decide +kernel
theorem dX12_curved_295 : decode cX12_curved 295 = .ok (.getfield 138, 3) := by decide +kernel
theorem dX12_curved_298 : decode cX12_curved 298 = .ok (.invokestatic 309, 3) := by decide +kernel
theorem dX12_curved_301 : decode cX12_curved 301 = .ok (.aload_n 0, 1) := by decide +kernel
theorem dX12_curved_302 : decode cX12_curved 302 = .ok (.getfield 132, 3) := by decide +kernel
theorem dX12_curved_305 : decode cX12_curved 305 = .ok (.aload_n 0, 1) := by decide +kernel
theorem dX12_curved_306 : decode cX12_curved 306 = .ok (.getfield 132, 3) := by decide +kernel
theorem dX12_curved_309 : decode cX12_curved 309 = .ok (.aload_n 0, 1) := by decide +kernel
theorem dX12_curved_310 : decode cX12_curved 310 = .ok (.getfield 138, 3) := by decide +kernel
theorem dX12_curved_313 : decode cX12_curved 313 = .ok (.invokestatic 312, 3) := by decide +kernel
theorem dX12_curved_316 : decode cX12_curved 316 = .ok (.aload_n 0, 1) := by decide +kernel
theorem dX12_curved_317 : decode cX12_curved 317 = .ok (.aload_n 0, 1) := by decide +kernel
theorem dX12_curved_318 : decode cX12_curved 318 = .ok (.getfield 138, 3) := by decide +kernel
theorem dX12_curved_321 : decode cX12_curved 321 = .ok (.aload_n 0, 1) := by decide +kernel
theorem dX12_curved_322 : decode cX12_curved 322 = .ok (.getfield 141, 3) := by decide +kernel
theorem dX12_curved_325 : decode cX12_curved 325 = .ok (.aload_n 0, 1) := by decide +kernel
theorem dX12_curved_326 : decode cX12_curved 326 = .ok (.getfield 141, 3) := by decide +kernel
theorem dX12_curved_329 : decode cX12_curved 329 = .ok (.invokevirtual 291, 3) := by decide +kernel
theorem dX12_curved_332 : decode cX12_curved 332 = .ok (.aload_n 0, 1) := by decide +kernel
theorem dX12_curved_333 : decode cX12_curved 333 = .ok (.aload_n 0, 1) := by decide +kernel
theorem dX12_curved_334 : decode cX12_curved 334 = .ok (.getfield 144, 3) := by decide +kernel
theorem dX12_curved_337 : decode cX12_curved 337 = .ok (.aload_n 0, 1) := by decide +kernel
theorem dX12_curved_338 : decode cX12_curved 338 = .ok (.getfield 129, 3) := by decide +kernel
theorem dX12_curved_341 : decode cX12_curved 341 = .ok (.aload_n 0, 1) := by decide +kernel
theorem dX12_curved_342 : decode cX12_curved 342 = .ok (.getfield 129, 3) := by decide +kernel
theorem dX12_curved_345 : decode cX12_curved 345 = .ok (.invokevirtual 291, 3) := by decide +kernel
theorem dX12_curved_348 : decode cX12_curved 348 = .ok (.aload_n 0, 1) := by decide +kernel
theorem dX12_curved_349 : decode cX12_curved 349 = .ok (.aload_n 0, 1) := by decide +kernel
theorem dX12_curved_350 : decode cX12_curved 350 = .ok (.getfield 129, 3) := by decide +kernel
theorem dX12_curved_353 : decode cX12_curved 353 = .ok (.aload_n 0, 1) := by decide +kernel
theorem dX12_curved_354 : decode cX12_curved 354 = .ok (.getfield 135, 3) := by decide +kernel
theorem dX12_curved_357 : decode cX12_curved 357 = .ok (.aload_n 0, 1) := by decide +kernel
theorem dX12_curved_358 : decode cX12_curved 358 = .ok (.getfield 129, 3) := by decide +kernel
theorem dX12_curved_361 : decode cX12_curved 361 = .ok (.invokevirtual 291, 3) := by decide +kernel
theorem dX12_curved_364 : decode cX12_curved 364 = .ok (.aload_n 0, 1) := by decide +kernel
theorem dX12_curved_365 : decode cX12_curved 365 = .ok (.aload_n 0, 1) := by decide +kernel
theorem dX12_curved_366 : decode cX12_curved 366 = .ok (.getfield 135, 3) := by decide +kernel
theorem dX12_curved_369 : decode cX12_curved 369 = .ok (.aload_n 0, 1) := by decide +kernel
theorem dX12_curved_370 : decode cX12_curved 370 = .ok (.getfield 132, 3) := by decide +kernel
theorem dX12_curved_373 : decode cX12_curved 373 = .ok (.aload_n 0, 1) := by decide +kernel
theorem dX12_curved_374 : decode cX12_curved 374 = .ok (.getfield 141, 3) := by decide +kernel
theorem dX12_curved_377 : decode cX12_curved 377 = .ok (.invokevirtual 291, 3) := by decide +kernel
theorem dX12_curved_380 : decode cX12_curved 380 = .ok (.aload_n 0, 1) := by decide +kernel
theorem dX12_curved_381 : decode cX12_curved 381 = .ok (.getfield 141, 3) := by decide +kernel
theorem dX12_curved_384 : decode cX12_curved 384 = .ok (.aload_n 0, 1) := by decide +kernel
theorem dX12_curved_385 : decode cX12_curved 385 = .ok (.getfield 129, 3) := by decide +kernel
theorem dX12_curved_388 : decode cX12_curved 388 = .ok (.aload_n 0, 1) := by decide +kernel
theorem dX12_curved_389 : decode cX12_curved 389 = .ok (.getfield 135, 3) := by decide +kernel
theorem dX12_curved_392 : decode cX12_curved 392 = .ok (.invokestatic 309, 3) := by decide +kernel
theorem dX12_curved_395 : decode cX12_curved 395 = .ok (.aload_n 0, 1) := by decide +kernel
theorem dX12_curved_396 : decode cX12_curved 396 = .ok (.getfield 129, 3) := by decide +kernel
theorem dX12_curved_399 : decode cX12_curved 399 = .ok (.aload_n 0, 1) := by decide +kernel
theorem dX12_curved_400 : decode cX12_curved 400 = .ok (.getfield 129, 3) := by decide +kernel
theorem dX12_curved_403 : decode cX12_curved 403 = .ok (.aload_n 0, 1) := by decide +kernel
theorem dX12_curved_404 : decode cX12_curved 404 = .ok (.getfield 135, 3) := by decide +kernel
theorem dX12_curved_407 : decode cX12_curved 407 = .ok (.invokestatic 312, 3) := by decide +kernel
theorem dX12_curved_410 : decode cX12_curved 410 = .ok (.aload_n 0, 1) := by decide +kernel
theorem dX12_curved_411 : decode cX12_curved 411 = .ok (.aload_n 0, 1) := by decide +kernel
theorem dX12_curved_412 : decode cX12_curved 412 = .ok (.getfield 132, 3) := by decide +kernel
theorem dX12_curved_415 : decode cX12_curved 415 = .ok (.aload_n 0, 1) := by decide +kernel
theorem dX12_curved_416 : decode cX12_curved 416 = .ok (.getfield 129, 3) := by decide +kernel
theorem dX12_curved_419 : decode cX12_curved 419 = .ok (.aload_n 0, 1) := by decide +kernel
theorem dX12_curved_420 : decode cX12_curved 420 = .ok (.getfield 129, 3) := by decide +kernel
theorem dX12_curved_423 : decode cX12_curved 423 = .ok (.invokevirtual 291, 3) := by decide +kernel
theorem dX12_curved_426 : decode cX12_curved 426 = .ok (.aload_n 0, 1) := by decide +kernel
theorem dX12_curved_427 : decode cX12_curved 427 = .ok (.getfield 135, 3) := by decide +kernel
theorem dX12_curved_430 : decode cX12_curved 430 = .ok (.aload_n 0, 1) := by decide +kernel
theorem dX12_curved_431 : decode cX12_curved 431 = .ok (.getfield 138, 3) := by decide +kernel
theorem dX12_curved_434 : decode cX12_curved 434 = .ok (.aload_n 0, 1) := by decide +kernel
theorem dX12_curved_435 : decode cX12_curved 435 = .ok (.getfield 144, 3) := by decide +kernel
theorem dX12_curved_438 : decode cX12_curved 438 = .ok (.invokestatic 312, 3) := by decide +kernel
theorem dX12_curved_441 : decode cX12_curved 441 = .ok (.aload_n 0, 1) := by decide +kernel
theorem dX12_curved_442 : decode cX12_curved 442 = .ok (.aload_n 0, 1) := by decide +kernel
theorem dX12_curved_443 : decode cX12_curved 443 = .ok (.getfield 129, 3) := by decide +kernel
theorem dX12_curved_446 : decode cX12_curved 446 = .ok (.aload_n 0, 1) := by decide +kernel
theorem dX12_curved_447 : decode cX12_curved 447 = .ok (.getfield 135, 3) := by decide +kernel
theorem dX12_curved_450 : decode cX12_curved 450 = .ok (.aload_n 0, 1) := by decide +kernel
theorem dX12_curved_451 : decode cX12_curved 451 = .ok (.getfield 150, 3) := by decide +kernel
theorem dX12_curved_454 : decode cX12_curved 454 = .ok (.invokevirtual 291, 3) := by decide +kernel
theorem dX12_curved_457 : decode cX12_curved 457 = .ok (.aload_n 0, 1) := by decide +kernel
theorem dX12_curved_458 : decode cX12_curved 458 = .ok (.getfield 129, 3) := by decide +kernel
theorem dX12_curved_461 : decode cX12_curved 461 = .ok (.aload_n 0, 1) := by decide +kernel
theorem dX12_curved_462 : decode cX12_curved 462 = .ok (.getfield 129, 3) := by decide +kernel
theorem dX12_curved_465 : decode cX12_curved 465 = .ok (.aload_n 0, 1) := by decide +kernel
theorem dX12_curved_466 : decode cX12_curved 466 = .ok (.getfield 138, 3) := by decide +kernel
theorem dX12_curved_469 : decode cX12_curved 469 = .ok (.invokestatic 309, 3) := by decide +kernel
theorem dX12_curved_472 : decode cX12_curved 472 = .ok (.aload_n 0, 1) := by decide +kernel
theorem dX12_curved_473 : decode cX12_curved 473 = .ok (.aload_n 0, 1) := by decide +kernel
theorem dX12_curved_474 : decode cX12_curved 474 = .ok (.getfield 135, 3) := by decide +kernel
theorem dX12_curved_477 : decode cX12_curved 477 = .ok (.aload_n 0, 1) := by decide +kernel
theorem dX12_curved_478 : decode cX12_curved 478 = .ok (.getfield 135, 3) := by decide +kernel
theorem dX12_curved_481 : decode cX12_curved 481 = .ok (.aload_n 0, 1) := by decide +kernel
theorem dX12_curved_482 : decode cX12_curved 482 = .ok (.getfield 129, 3) := by decide +kernel
theorem dX12_curved_485 : decode cX12_curved 485 = .ok (.invokevirtual 291, 3) := by decide +kernel
theorem dX12_curved_488 : decode cX12_curved 488 = .ok (.aload_n 0, 1) := by decide +kernel
theorem dX12_curved_489 : decode cX12_curved 489 = .ok (.aload_n 0, 1) := by decide +kernel
theorem dX12_curved_490 : decode cX12_curved 490 = .ok (.getfield 129, 3) := by decide +kernel
theorem dX12_curved_493 : decode cX12_curved 493 = .ok (.aload_n 0, 1) := by decide +kernel
theorem dX12_curved_494 : decode cX12_curved 494 = .ok (.getfield 138, 3) := by decide +kernel
theorem dX12_curved_497 : decode cX12_curved 497 = .ok (.aload_n 0, 1) := by decide +kernel
theorem dX12_curved_498 : decode cX12_curved 498 = .ok (.getfield 144, 3) := by decide +kernel
theorem dX12_curved_501 : decode cX12_curved 501 = .ok (.invokevirtual 291, 3) := by decide +kernel
theorem dX12_curved_504 : decode cX12_curved 504 = .ok (.aload_n 0, 1) := by decide +kernel
theorem dX12_curved_505 : decode cX12_curved 505 = .ok (.aload_n 0, 1) := by decide +kernel
theorem dX12_curved_506 : decode cX12_curved 506 = .ok (.getfield 138, 3) := by decide +kernel
theorem dX12_curved_509 : decode cX12_curved 509 = .ok (.aload_n 0, 1) := by decide +kernel
theorem dX12_curved_510 : decode cX12_curved 510 = .ok (.getfield 132, 3) := by decide +kernel
theorem dX12_curved_513 : decode cX12_curved 513 = .ok (.aload_n 0, 1) := by decide +kernel
theorem dX12_curved_514 : decode cX12_curved 514 = .ok (.getfield 125, 3) := by decide +kernel
theorem dX12_curved_517 : decode cX12_curved 517 = .ok (.invokevirtual 291, 3) := by decide +kernel
theorem dX12_curved_520 : decode cX12_curved 520 = .ok (.aload_n 0, 1) := by decide +kernel
theorem dX12_curved_521 : decode cX12_curved 521 = .ok (.aload_n 0, 1) := by decide +kernel
theorem dX12_curved_522 : decode cX12_curved 522 = .ok (.getfield 132, 3) := by decide +kernel
theorem dX12_curved_525 : decode cX12_curved 525 = .ok (.aload_n 0, 1) := by decide +kernel
theorem dX12_curved_526 : decode cX12_curved 526 = .ok (.getfield 141, 3) := by decide +kernel
theorem dX12_curved_529 : decode cX12_curved 529 = .ok (.aload_n 0, 1) := by decide +kernel
theorem dX12_curved_530 : decode cX12_curved 530 = .ok (.getfield 141, 3) := by decide +kernel
theorem dX12_curved_533 : decode cX12_curved 533 = .ok (.invokevirtual 291, 3) := by decide +kernel
theorem dX12_curved_536 : decode cX12_curved 536 = .ok (.aload_n 0, 1) := by decide +kernel
theorem dX12_curved_537 : decode cX12_curved 537 = .ok (.getfield 129, 3) := by decide +kernel
theorem dX12_curved_540 : decode cX12_curved 540 = .ok (.aload_n 0, 1) := by decide +kernel
theorem dX12_curved_541 : decode cX12_curved 541 = .ok (.getfield 132, 3) := by decide +kernel
theorem dX12_curved_544 : decode cX12_curved 544 = .ok (.iload 6, 2) := by decide +kernel
theorem dX12_curved_546 : decode cX12_curved 546 = .ok (.invokestatic 305, 3) := by decide +kernel
theorem dX12_curved_549 : decode cX12_curved 549 = .ok (.aload_n 0, 1) := by decide +kernel
theorem dX12_curved_550 : decode cX12_curved 550 = .ok (.getfield 135, 3) := by decide +kernel
theorem dX12_curved_553 : decode cX12_curved 553 = .ok (.aload_n 0, 1) := by decide +kernel
theorem dX12_curved_554 : decode cX12_curved 554 = .ok (.getfield 138, 3) := by decide +kernel
theorem dX12_curved_557 : decode cX12_curved 557 = .ok (.iload 6, 2) := by decide +kernel
theorem dX12_curved_559 : decode cX12_curved 559 = .ok (.invokestatic 305, 3) := by decide +kernel
theorem dX12_curved_562 : decode cX12_curved 562 = .ok (.iinc 5 (-1), 3) := by decide +kernel
theorem dX12_curved_565 : decode cX12_curved 565 = .ok (.goto (-359), 3) := by decide +kernel
theorem dX12_curved_568 : decode cX12_curved 568 = .ok (.aload_n 0, 1) := by decide +kernel
theorem dX12_curved_569 : decode cX12_curved 569 = .ok (.aload_n 0, 1) := by decide +kernel
theorem dX12_curved_570 : decode cX12_curved 570 = .ok (.getfield 135, 3) := by decide +kernel
theorem dX12_curved_573 : decode cX12_curved 573 = .ok (.aload_n 0, 1) := by decide +kernel
theorem dX12_curved_574 : decode cX12_curved 574 = .ok (.getfield 135, 3) := by decide +kernel
theorem dX12_curved_577 : decode cX12_curved 577 = .ok (.invokevirtual 315, 3) := by decide +kernel
theorem dX12_curved_580 : decode cX12_curved 580 = .ok (.aload_n 0, 1) := by decide +kernel
theorem dX12_curved_581 : decode cX12_curved 581 = .ok (.aload_n 0, 1) := by decide +kernel
theorem dX12_curved_582 : decode cX12_curved 582 = .ok (.getfield 129, 3) := by decide +kernel
theorem dX12_curved_585 : decode cX12_curved 585 = .ok (.aload_n 0, 1) := by decide +kernel
theorem dX12_curved_586 : decode cX12_curved 586 = .ok (.getfield 129, 3) := by decide +kernel
theorem dX12_curved_589 : decode cX12_curved 589 = .ok (.aload_n 0, 1) := by decide +kernel
theorem dX12_curved_590 : decode cX12_curved 590 = .ok (.getfield 135, 3) := by decide +kernel
theorem dX12_curved_593 : decode cX12_curved 593 = .ok (.invokevirtual 291, 3) := by decide +kernel
theorem dX12_curved_596 : decode cX12_curved 596 = .ok (.aload_n 0, 1) := by decide +kernel
theorem dX12_curved_597 : decode cX12_curved 597 = .ok (.aload_n 0, 1) := by decide +kernel
theorem dX12_curved_598 : decode cX12_curved 598 = .ok (.getfield 165, 3) := by decide +kernel
theorem dX12_curved_601 : decode cX12_curved 601 = .ok (.aload_n 0, 1) := by decide +kernel
theorem dX12_curved_602 : decode cX12_curved 602 = .ok (.getfield 129, 3) := by decide +kernel
theorem dX12_curved_605 : decode cX12_curved 605 = .ok (.invokevirtual 318, 3) := by decide +kernel
theorem dX12_curved_608 : decode cX12_curved 608 = .ok (.return_, 1) := by decide +kernel
theorem dX12_curvedOwn_0 : decode cX12_curvedOwn 0 = .ok (.aload_n 0, 1) := by decide +kernel
theorem dX12_curvedOwn_1 : decode cX12_curvedOwn 1 = .ok (.getfield 168, 3) := by decide +kernel
theorem dX12_curvedOwn_4 : decode cX12_curvedOwn 4 = .ok (.iconst 0, 1) := by decide +kernel
theorem dX12_curvedOwn_5 : decode cX12_curvedOwn 5 = .ok (.bipush 9, 2) := by decide +kernel
theorem dX12_curvedOwn_7 : decode cX12_curvedOwn 7 = .ok (.bastore, 1) := by decide +kernel
theorem dX12_curvedOwn_8 : decode cX12_curvedOwn 8 = .ok (.aload_n 0, 1) := by decide +kernel
theorem dX12_curvedOwn_9 : decode cX12_curvedOwn 9 = .ok (.aload_n 1, 1) := by decide +kernel
theorem dX12_curvedOwn_10 : decode cX12_curvedOwn 10 = .ok (.iload_n 2, 1) := by decide +kernel
theorem dX12_curvedOwn_11 : decode cX12_curvedOwn 11 = .ok (.aload_n 0, 1) := by decide +kernel
theorem dX12_curvedOwn_12 : decode cX12_curvedOwn 12 = .ok (.getfield 168, 3) := by decide +kernel
theorem dX12_curvedOwn_15 : decode cX12_curvedOwn 15 = .ok (.iconst 0, 1) := by decide +kernel
theorem dX12_curvedOwn_16 : decode cX12_curvedOwn 16 = .ok (.invokevirtual 322, 3) := by decide +kernel
theorem dX12_curvedOwn_19 : decode cX12_curvedOwn 19 = .ok (.return_, 1) := by decide +kernel
theorem dX12_number_0 : decode cX12_number 0 = .ok (.aload_n 0, 1) := by decide +kernel
theorem dX12_number_1 : decode cX12_number 1 = .ok (.iload_n 1, 1) := by decide +kernel
theorem dX12_number_2 : decode cX12_number 2 = .ok (.baload, 1) := by decide +kernel
theorem dX12_number_3 : decode cX12_number 3 = .ok (.sipush 255, 3) := by decide +kernel
theorem dX12_number_6 : decode cX12_number 6 = .ok (.iand, 1) := by decide +kernel
theorem dX12_number_7 : decode cX12_number 7 = .ok (.aload_n 0, 1) := by decide +kernel
theorem dX12_number_8 : decode cX12_number 8 = .ok (.iload_n 1, 1) := by decide +kernel
theorem dX12_number_9 : decode cX12_number 9 = .ok (.iconst 1, 1) := by decide +kernel
theorem dX12_number_10 : decode cX12_number 10 = .ok (.iadd, 1) := by decide +kernel
theorem dX12_number_11 : decode cX12_number 11 = .ok (.baload, 1) := by decide +kernel
theorem dX12_number_12 : decode cX12_number 12 = .ok (.sipush 255, 3) := by decide +kernel
theorem dX12_number_15 : decode cX12_number 15 = .ok (.iand, 1) := by decide +kernel
theorem dX12_number_16 : decode cX12_number 16 = .ok (.bipush 8, 2) := by decide +kernel
theorem dX12_number_18 : decode cX12_number 18 = .ok (.ishl, 1) := by decide +kernel
theorem dX12_number_19 : decode cX12_number 19 = .ok (.ior, 1) := by decide +kernel
theorem dX12_number_20 : decode cX12_number 20 = .ok (.aload_n 0, 1) := by decide +kernel
theorem dX12_number_21 : decode cX12_number 21 = .ok (.iload_n 1, 1) := by decide +kernel
theorem dX12_number_22 : decode cX12_number 22 = .ok (.iconst 2, 1) := by decide +kernel
theorem dX12_number_23 : decode cX12_number 23 = .ok (.iadd, 1) := by decide +kernel
theorem dX12_number_24 : decode cX12_number 24 = .ok (.baload, 1) := by decide +kernel
theorem dX12_number_25 : decode cX12_number 25 = .ok (.sipush 255, 3) := by decide +kernel
theorem dX12_number_28 : decode cX12_number 28 = .ok (.iand, 1) := by decide +kernel
theorem dX12_number_29 : decode cX12_number 29 = .ok (.bipush 16, 2) := by decide +kernel
theorem dX12_number_31 : decode cX12_number 31 = .ok (.ishl, 1) := by decide +kernel
theorem dX12_number_32 : decode cX12_number 32 = .ok (.ior, 1) := by decide +kernel
theorem dX12_number_33 : decode cX12_number 33 = .ok (.aload_n 0, 1) := by decide +kernel
theorem dX12_number_34 : decode cX12_number 34 = .ok (.iload_n 1, 1) := by decide +kernel
theorem dX12_number_35 : decode cX12_number 35 = .ok (.iconst 3, 1) := by decide +kernel
theorem dX12_number_36 : decode cX12_number 36 = .ok (.iadd, 1) := by decide +kernel
theorem dX12_number_37 : decode cX12_number 37 = .ok (.baload, 1) := by decide +kernel
theorem dX12_number_38 : decode cX12_number 38 = .ok (.sipush 255, 3) := by decide +kernel
theorem dX12_number_41 : decode cX12_number 41 = .ok (.iand, 1) := by decide +kernel
theorem dX12_number_42 : decode cX12_number 42 = .ok (.bipush 24, 2) := by decide +kernel
theorem dX12_number_44 : decode cX12_number 44 = .ok (.ishl, 1) := by decide +kernel
theorem dX12_number_45 : decode cX12_number 45 = .ok (.ior, 1) := by decide +kernel
theorem dX12_number_46 : decode cX12_number 46 = .ok (.ireturn, 1) := by decide +kernel
theorem dX12_quarter_0 : decode cX12_quarter 0 = .ok (.aload_n 0, 1) := by decide +kernel
theorem dX12_quarter_1 : decode cX12_quarter 1 = .ok (.getfield 174, 3) := by decide +kernel
theorem dX12_quarter_4 : decode cX12_quarter 4 = .ok (.iload_n 1, 1) := by decide +kernel
theorem dX12_quarter_5 : decode cX12_quarter 5 = .ok (.dup2, 1) := by decide +kernel
theorem dX12_quarter_6 : decode cX12_quarter 6 = .ok (.iaload, 1) := by decide +kernel
theorem dX12_quarter_7 : decode cX12_quarter 7 = .ok (.aload_n 0, 1) := by decide +kernel
theorem dX12_quarter_8 : decode cX12_quarter 8 = .ok (.getfield 174, 3) := by decide +kernel
theorem dX12_quarter_11 : decode cX12_quarter 11 = .ok (.iload_n 2, 1) := by decide +kernel
theorem dX12_quarter_12 : decode cX12_quarter 12 = .ok (.iaload, 1) := by decide +kernel
theorem dX12_quarter_13 : decode cX12_quarter 13 = .ok (.iadd, 1) := by decide +kernel
theorem dX12_quarter_14 : decode cX12_quarter 14 = .ok (.iastore, 1) := by decide +kernel
theorem dX12_quarter_15 : decode cX12_quarter 15 = .ok (.aload_n 0, 1) := by decide +kernel
theorem dX12_quarter_16 : decode cX12_quarter 16 = .ok (.getfield 174, 3) := by decide +kernel
theorem dX12_quarter_19 : decode cX12_quarter 19 = .ok (.iload 4, 2) := by decide +kernel
theorem dX12_quarter_21 : decode cX12_quarter 21 = .ok (.aload_n 0, 1) := by decide +kernel
theorem dX12_quarter_22 : decode cX12_quarter 22 = .ok (.getfield 174, 3) := by decide +kernel
theorem dX12_quarter_25 : decode cX12_quarter 25 = .ok (.iload 4, 2) := by decide +kernel
theorem dX12_quarter_27 : decode cX12_quarter 27 = .ok (.iaload, 1) := by decide +kernel
theorem dX12_quarter_28 : decode cX12_quarter 28 = .ok (.aload_n 0, 1) := by decide +kernel
theorem dX12_quarter_29 : decode cX12_quarter 29 = .ok (.getfield 174, 3) := by decide +kernel
theorem dX12_quarter_32 : decode cX12_quarter 32 = .ok (.iload_n 1, 1) := by decide +kernel
theorem dX12_quarter_33 : decode cX12_quarter 33 = .ok (.iaload, 1) := by decide +kernel
theorem dX12_quarter_34 : decode cX12_quarter 34 = .ok (.ixor, 1) := by decide +kernel
theorem dX12_quarter_35 : decode cX12_quarter 35 = .ok (.bipush 16, 2) := by decide +kernel
theorem dX12_quarter_37 : decode cX12_quarter 37 = .ok (.invokestatic 261, 3) := by decide +kernel
theorem dX12_quarter_40 : decode cX12_quarter 40 = .ok (.iastore, 1) := by decide +kernel
theorem dX12_quarter_41 : decode cX12_quarter 41 = .ok (.aload_n 0, 1) := by decide +kernel
theorem dX12_quarter_42 : decode cX12_quarter 42 = .ok (.getfield 174, 3) := by decide +kernel
theorem dX12_quarter_45 : decode cX12_quarter 45 = .ok (.iload_n 3, 1) := by decide +kernel
theorem dX12_quarter_46 : decode cX12_quarter 46 = .ok (.dup2, 1) := by decide +kernel
theorem dX12_quarter_47 : decode cX12_quarter 47 = .ok (.iaload, 1) := by decide +kernel
theorem dX12_quarter_48 : decode cX12_quarter 48 = .ok (.aload_n 0, 1) := by decide +kernel
theorem dX12_quarter_49 : decode cX12_quarter 49 = .ok (.getfield 174, 3) := by decide +kernel
theorem dX12_quarter_52 : decode cX12_quarter 52 = .ok (.iload 4, 2) := by decide +kernel
theorem dX12_quarter_54 : decode cX12_quarter 54 = .ok (.iaload, 1) := by decide +kernel
theorem dX12_quarter_55 : decode cX12_quarter 55 = .ok (.iadd, 1) := by decide +kernel
theorem dX12_quarter_56 : decode cX12_quarter 56 = .ok (.iastore, 1) := by decide +kernel
theorem dX12_quarter_57 : decode cX12_quarter 57 = .ok (.aload_n 0, 1) := by decide +kernel
theorem dX12_quarter_58 : decode cX12_quarter 58 = .ok (.getfield 174, 3) := by decide +kernel
theorem dX12_quarter_61 : decode cX12_quarter 61 = .ok (.iload_n 2, 1) := by decide +kernel
theorem dX12_quarter_62 : decode cX12_quarter 62 = .ok (.aload_n 0, 1) := by decide +kernel
theorem dX12_quarter_63 : decode cX12_quarter 63 = .ok (.getfield 174, 3) := by decide +kernel
theorem dX12_quarter_66 : decode cX12_quarter 66 = .ok (.iload_n 2, 1) := by decide +kernel
theorem dX12_quarter_67 : decode cX12_quarter 67 = .ok (.iaload, 1) := by decide +kernel
theorem dX12_quarter_68 : decode cX12_quarter 68 = .ok (.aload_n 0, 1) := by decide +kernel
theorem dX12_quarter_69 : decode cX12_quarter 69 = .ok (.getfield 174, 3) := by decide +kernel
theorem dX12_quarter_72 : decode cX12_quarter 72 = .ok (.iload_n 3, 1) := by decide +kernel
theorem dX12_quarter_73 : decode cX12_quarter 73 = .ok (.iaload, 1) := by decide +kernel
theorem dX12_quarter_74 : decode cX12_quarter 74 = .ok (.ixor, 1) := by decide +kernel
theorem dX12_quarter_75 : decode cX12_quarter 75 = .ok (.bipush 20, 2) := by decide +kernel
theorem dX12_quarter_77 : decode cX12_quarter 77 = .ok (.invokestatic 261, 3) := by decide +kernel
theorem dX12_quarter_80 : decode cX12_quarter 80 = .ok (.iastore, 1) := by decide +kernel
theorem dX12_quarter_81 : decode cX12_quarter 81 = .ok (.aload_n 0, 1) := by decide +kernel
theorem dX12_quarter_82 : decode cX12_quarter 82 = .ok (.getfield 174, 3) := by decide +kernel
theorem dX12_quarter_85 : decode cX12_quarter 85 = .ok (.iload_n 1, 1) := by decide +kernel
theorem dX12_quarter_86 : decode cX12_quarter 86 = .ok (.dup2, 1) := by decide +kernel
theorem dX12_quarter_87 : decode cX12_quarter 87 = .ok (.iaload, 1) := by decide +kernel
theorem dX12_quarter_88 : decode cX12_quarter 88 = .ok (.aload_n 0, 1) := by decide +kernel
theorem dX12_quarter_89 : decode cX12_quarter 89 = .ok (.getfield 174, 3) := by decide +kernel
theorem dX12_quarter_92 : decode cX12_quarter 92 = .ok (.iload_n 2, 1) := by decide +kernel
theorem dX12_quarter_93 : decode cX12_quarter 93 = .ok (.iaload, 1) := by decide +kernel
theorem dX12_quarter_94 : decode cX12_quarter 94 = .ok (.iadd, 1) := by decide +kernel
theorem dX12_quarter_95 : decode cX12_quarter 95 = .ok (.iastore, 1) := by decide +kernel
theorem dX12_quarter_96 : decode cX12_quarter 96 = .ok (.aload_n 0, 1) := by decide +kernel
theorem dX12_quarter_97 : decode cX12_quarter 97 = .ok (.getfield 174, 3) := by decide +kernel
theorem dX12_quarter_100 : decode cX12_quarter 100 = .ok (.iload 4, 2) := by decide +kernel
theorem dX12_quarter_102 : decode cX12_quarter 102 = .ok (.aload_n 0, 1) := by decide +kernel
theorem dX12_quarter_103 : decode cX12_quarter 103 = .ok (.getfield 174, 3) := by decide +kernel
theorem dX12_quarter_106 : decode cX12_quarter 106 = .ok (.iload 4, 2) := by decide +kernel
theorem dX12_quarter_108 : decode cX12_quarter 108 = .ok (.iaload, 1) := by decide +kernel
theorem dX12_quarter_109 : decode cX12_quarter 109 = .ok (.aload_n 0, 1) := by decide +kernel
theorem dX12_quarter_110 : decode cX12_quarter 110 = .ok (.getfield 174, 3) := by decide +kernel
theorem dX12_quarter_113 : decode cX12_quarter 113 = .ok (.iload_n 1, 1) := by decide +kernel
theorem dX12_quarter_114 : decode cX12_quarter 114 = .ok (.iaload, 1) := by decide +kernel
theorem dX12_quarter_115 : decode cX12_quarter 115 = .ok (.ixor, 1) := by decide +kernel
theorem dX12_quarter_116 : decode cX12_quarter 116 = .ok (.bipush 24, 2) := by decide +kernel
theorem dX12_quarter_118 : decode cX12_quarter 118 = .ok (.invokestatic 261, 3) := by decide +kernel
theorem dX12_quarter_121 : decode cX12_quarter 121 = .ok (.iastore, 1) := by decide +kernel
theorem dX12_quarter_122 : decode cX12_quarter 122 = .ok (.aload_n 0, 1) := by decide +kernel
theorem dX12_quarter_123 : decode cX12_quarter 123 = .ok (.getfield 174, 3) := by decide +kernel
theorem dX12_quarter_126 : decode cX12_quarter 126 = .ok (.iload_n 3, 1) := by decide +kernel
theorem dX12_quarter_127 : decode cX12_quarter 127 = .ok (.dup2, 1) := by decide +kernel
theorem dX12_quarter_128 : decode cX12_quarter 128 = .ok (.iaload, 1) := by decide +kernel
theorem dX12_quarter_129 : decode cX12_quarter 129 = .ok (.aload_n 0, 1) := by decide +kernel
theorem dX12_quarter_130 : decode cX12_quarter 130 = .ok (.getfield 174, 3) := by decide +kernel
theorem dX12_quarter_133 : decode cX12_quarter 133 = .ok (.iload 4, 2) := by decide +kernel
theorem dX12_quarter_135 : decode cX12_quarter 135 = .ok (.iaload, 1) := by decide +kernel
theorem dX12_quarter_136 : decode cX12_quarter 136 = .ok (.iadd, 1) := by decide +kernel
theorem dX12_quarter_137 : decode cX12_quarter 137 = .ok (.iastore, 1) := by decide +kernel
theorem dX12_quarter_138 : decode cX12_quarter 138 = .ok (.aload_n 0, 1) := by decide +kernel
theorem dX12_quarter_139 : decode cX12_quarter 139 = .ok (.getfield 174, 3) := by decide +kernel
theorem dX12_quarter_142 : decode cX12_quarter 142 = .ok (.iload_n 2, 1) := by decide +kernel
theorem dX12_quarter_143 : decode cX12_quarter 143 = .ok (.aload_n 0, 1) := by decide +kernel
theorem dX12_quarter_144 : decode cX12_quarter 144 = .ok (.getfield 174, 3) := by decide +kernel
theorem dX12_quarter_147 : decode cX12_quarter 147 = .ok (.iload_n 2, 1) := by decide +kernel
theorem dX12_quarter_148 : decode cX12_quarter 148 = .ok (.iaload, 1) := by decide +kernel
theorem dX12_quarter_149 : decode cX12_quarter 149 = .ok (.aload_n 0, 1) := by decide +kernel
theorem dX12_quarter_150 : decode cX12_quarter 150 = .ok (.getfield 174, 3) := by decide +kernel
theorem dX12_quarter_153 : decode cX12_quarter 153 = .ok (.iload_n 3, 1) := by decide +kernel
theorem dX12_quarter_154 : decode cX12_quarter 154 = .ok (.iaload, 1) := by decide +kernel
theorem dX12_quarter_155 : decode cX12_quarter 155 = .ok (.ixor, 1) := by decide +kernel
theorem dX12_quarter_156 : decode cX12_quarter 156 = .ok (.bipush 25, 2) := by decide +kernel
theorem dX12_quarter_158 : decode cX12_quarter 158 = .ok (.invokestatic 261, 3) := by decide +kernel
theorem dX12_quarter_161 : decode cX12_quarter 161 = .ok (.iastore, 1) := by decide +kernel
theorem dX12_quarter_162 : decode cX12_quarter 162 = .ok (.return_, 1) := by decide +kernel
theorem dX12_streamed_0 : decode cX12_streamed 0 = .ok (.aload_n 0, 1) := by decide +kernel
theorem dX12_streamed_1 : decode cX12_streamed 1 = .ok (.getfield 171, 3) := by decide +kernel
theorem dX12_streamed_4 : decode cX12_streamed 4 = .ok (.iconst 0, 1) := by decide +kernel
theorem dX12_streamed_5 : decode cX12_streamed 5 = .ok (.ldc_w 326, 3) := by decide +kernel
theorem dX12_streamed_8 : decode cX12_streamed 8 = .ok (.iastore, 1) := by decide +kernel
theorem dX12_streamed_9 : decode cX12_streamed 9 = .ok (.aload_n 0, 1) := by decide +kernel
theorem dX12_streamed_10 : decode cX12_streamed 10 = .ok (.getfield 171, 3) := by decide +kernel
theorem dX12_streamed_13 : decode cX12_streamed 13 = .ok (.iconst 1, 1) := by decide +kernel
theorem dX12_streamed_14 : decode cX12_streamed 14 = .ok (.ldc_w 327, 3) := by decide +kernel
theorem dX12_streamed_17 : decode cX12_streamed 17 = .ok (.iastore, 1) := by decide +kernel
theorem dX12_streamed_18 : decode cX12_streamed 18 = .ok (.aload_n 0, 1) := by decide +kernel
theorem dX12_streamed_19 : decode cX12_streamed 19 = .ok (.getfield 171, 3) := by decide +kernel
theorem dX12_streamed_22 : decode cX12_streamed 22 = .ok (.iconst 2, 1) := by decide +kernel
theorem dX12_streamed_23 : decode cX12_streamed 23 = .ok (.ldc_w 328, 3) := by decide +kernel
theorem dX12_streamed_26 : decode cX12_streamed 26 = .ok (.iastore, 1) := by decide +kernel
theorem dX12_streamed_27 : decode cX12_streamed 27 = .ok (.aload_n 0, 1) := by decide +kernel
theorem dX12_streamed_28 : decode cX12_streamed 28 = .ok (.getfield 171, 3) := by decide +kernel
theorem dX12_streamed_31 : decode cX12_streamed 31 = .ok (.iconst 3, 1) := by decide +kernel
theorem dX12_streamed_32 : decode cX12_streamed 32 = .ok (.ldc_w 329, 3) := by decide +kernel
theorem dX12_streamed_35 : decode cX12_streamed 35 = .ok (.iastore, 1) := by decide +kernel
theorem dX12_streamed_36 : decode cX12_streamed 36 = .ok (.iconst 0, 1) := by decide +kernel
theorem dX12_streamed_37 : decode cX12_streamed 37 = .ok (.istore 6, 2) := by decide +kernel
theorem dX12_streamed_39 : decode cX12_streamed 39 = .ok (.iload 6, 2) := by decide +kernel
theorem dX12_streamed_41 : decode cX12_streamed 41 = .ok (.bipush 8, 2) := by decide +kernel
theorem dX12_streamed_43 : decode cX12_streamed 43 = .ok (.if_icmp .ge 28, 3) := by decide +kernel
theorem dX12_streamed_46 : decode cX12_streamed 46 = .ok (.aload_n 0, 1) := by decide +kernel
theorem dX12_streamed_47 : decode cX12_streamed 47 = .ok (.getfield 171, 3) := by decide +kernel
theorem dX12_streamed_50 : decode cX12_streamed 50 = .ok (.iconst 4, 1) := by decide +kernel
theorem dX12_streamed_51 : decode cX12_streamed 51 = .ok (.iload 6, 2) := by decide +kernel
theorem dX12_streamed_53 : decode cX12_streamed 53 = .ok (.iadd, 1) := by decide +kernel
theorem dX12_streamed_54 : decode cX12_streamed 54 = .ok (.aload_n 1, 1) := by decide +kernel
theorem dX12_streamed_55 : decode cX12_streamed 55 = .ok (.iload_n 2, 1) := by decide +kernel
theorem dX12_streamed_56 : decode cX12_streamed 56 = .ok (.iconst 4, 1) := by decide +kernel
theorem dX12_streamed_57 : decode cX12_streamed 57 = .ok (.iload 6, 2) := by decide +kernel
theorem dX12_streamed_59 : decode cX12_streamed 59 = .ok (.imul, 1) := by decide +kernel
theorem dX12_streamed_60 : decode cX12_streamed 60 = .ok (.iadd, 1) := by decide +kernel
theorem dX12_streamed_61 : decode cX12_streamed 61 = .ok (.invokestatic 330, 3) := by decide +kernel
theorem dX12_streamed_64 : decode cX12_streamed 64 = .ok (.iastore, 1) := by decide +kernel
theorem dX12_streamed_65 : decode cX12_streamed 65 = .ok (.iinc 6 1, 3) := by decide +kernel
theorem dX12_streamed_68 : decode cX12_streamed 68 = .ok (.goto (-29), 3) := by decide +kernel
theorem dX12_streamed_71 : decode cX12_streamed 71 = .ok (.aload_n 0, 1) := by decide +kernel
theorem dX12_streamed_72 : decode cX12_streamed 72 = .ok (.getfield 171, 3) := by decide +kernel
theorem dX12_streamed_75 : decode cX12_streamed 75 = .ok (.bipush 12, 2) := by decide +kernel
theorem dX12_streamed_77 : decode cX12_streamed 77 = .ok (.iload_n 3, 1) := by decide +kernel
theorem dX12_streamed_78 : decode cX12_streamed 78 = .ok (.iastore, 1) := by decide +kernel
theorem dX12_streamed_79 : decode cX12_streamed 79 = .ok (.aload_n 0, 1) := by decide +kernel
theorem dX12_streamed_80 : decode cX12_streamed 80 = .ok (.getfield 171, 3) := by decide +kernel
theorem dX12_streamed_83 : decode cX12_streamed 83 = .ok (.bipush 13, 2) := by decide +kernel
theorem dX12_streamed_85 : decode cX12_streamed 85 = .ok (.iconst 0, 1) := by decide +kernel
theorem dX12_streamed_86 : decode cX12_streamed 86 = .ok (.iastore, 1) := by decide +kernel
theorem dX12_streamed_87 : decode cX12_streamed 87 = .ok (.aload_n 0, 1) := by decide +kernel
theorem dX12_streamed_88 : decode cX12_streamed 88 = .ok (.getfield 171, 3) := by decide +kernel
theorem dX12_streamed_91 : decode cX12_streamed 91 = .ok (.bipush 14, 2) := by decide +kernel
theorem dX12_streamed_93 : decode cX12_streamed 93 = .ok (.lload 4, 2) := by decide +kernel
theorem dX12_streamed_95 : decode cX12_streamed 95 = .ok (.l2i, 1) := by decide +kernel
theorem dX12_streamed_96 : decode cX12_streamed 96 = .ok (.iastore, 1) := by decide +kernel
theorem dX12_streamed_97 : decode cX12_streamed 97 = .ok (.aload_n 0, 1) := by decide +kernel
theorem dX12_streamed_98 : decode cX12_streamed 98 = .ok (.getfield 171, 3) := by decide +kernel
theorem dX12_streamed_101 : decode cX12_streamed 101 = .ok (.bipush 15, 2) := by decide +kernel
theorem dX12_streamed_103 : decode cX12_streamed 103 = .ok (.lload 4, 2) := by decide +kernel
theorem dX12_streamed_105 : decode cX12_streamed 105 = .ok (.bipush 32, 2) := by decide +kernel
theorem dX12_streamed_107 : decode cX12_streamed 107 = .ok (.lshr, 1) := by decide +kernel
theorem dX12_streamed_108 : decode cX12_streamed 108 = .ok (.l2i, 1) := by decide +kernel
theorem dX12_streamed_109 : decode cX12_streamed 109 = .ok (.iastore, 1) := by decide +kernel
theorem dX12_streamed_110 : decode cX12_streamed 110 = .ok (.iconst 0, 1) := by decide +kernel
theorem dX12_streamed_111 : decode cX12_streamed 111 = .ok (.istore 6, 2) := by decide +kernel
theorem dX12_streamed_113 : decode cX12_streamed 113 = .ok (.iload 6, 2) := by decide +kernel
theorem dX12_streamed_115 : decode cX12_streamed 115 = .ok (.bipush 16, 2) := by decide +kernel
theorem dX12_streamed_117 : decode cX12_streamed 117 = .ok (.if_icmp .ge 23, 3) := by decide +kernel
theorem dX12_streamed_120 : decode cX12_streamed 120 = .ok (.aload_n 0, 1) := by decide +kernel
theorem dX12_streamed_121 : decode cX12_streamed 121 = .ok (.getfield 174, 3) := by decide +kernel
theorem dX12_streamed_124 : decode cX12_streamed 124 = .ok (.iload 6, 2) := by decide +kernel
theorem dX12_streamed_126 : decode cX12_streamed 126 = .ok (.aload_n 0, 1) := by decide +kernel
theorem dX12_streamed_127 : decode cX12_streamed 127 = .ok (.getfield 171, 3) := by decide +kernel
theorem dX12_streamed_130 : decode cX12_streamed 130 = .ok (.iload 6, 2) := by decide +kernel
theorem dX12_streamed_132 : decode cX12_streamed 132 = .ok (.iaload, 1) := by decide +kernel
theorem dX12_streamed_133 : decode cX12_streamed 133 = .ok (.iastore, 1) := by decide +kernel
theorem dX12_streamed_134 : decode cX12_streamed 134 = .ok (.iinc 6 1, 3) := by decide +kernel
theorem dX12_streamed_137 : decode cX12_streamed 137 = .ok (.goto (-24), 3) := by decide +kernel
theorem dX12_streamed_140 : decode cX12_streamed 140 = .ok (.iconst 0, 1) := by decide +kernel
theorem dX12_streamed_141 : decode cX12_streamed 141 = .ok (.istore 6, 2) := by decide +kernel
theorem dX12_streamed_143 : decode cX12_streamed 143 = .ok (.iload 6, 2) := by decide +kernel
theorem dX12_streamed_145 : decode cX12_streamed 145 = .ok (.bipush 10, 2) := by decide +kernel
theorem dX12_streamed_147 : decode cX12_streamed 147 = .ok (.if_icmp .ge 91, 3) := by decide +kernel
theorem dX12_streamed_150 : decode cX12_streamed 150 = .ok (.iconst 0, 1) := by decide +kernel
theorem dX12_streamed_151 : decode cX12_streamed 151 = .ok (.istore 7, 2) := by decide +kernel
theorem dX12_streamed_153 : decode cX12_streamed 153 = .ok (.iload 7, 2) := by decide +kernel
theorem dX12_streamed_155 : decode cX12_streamed 155 = .ok (.iconst 4, 1) := by decide +kernel
theorem dX12_streamed_156 : decode cX12_streamed 156 = .ok (.if_icmp .ge 29, 3) := by decide +kernel
theorem dX12_streamed_159 : decode cX12_streamed 159 = .ok (.aload_n 0, 1) := by decide +kernel
theorem dX12_streamed_160 : decode cX12_streamed 160 = .ok (.iload 7, 2) := by decide +kernel
theorem dX12_streamed_162 : decode cX12_streamed 162 = .ok (.iconst 4, 1) := by decide +kernel
theorem dX12_streamed_163 : decode cX12_streamed 163 = .ok (.iload 7, 2) := by decide +kernel
theorem dX12_streamed_165 : decode cX12_streamed 165 = .ok (.iadd, 1) := by decide +kernel
theorem dX12_streamed_166 : decode cX12_streamed 166 = .ok (.bipush 8, 2) := by decide +kernel
theorem dX12_streamed_168 : decode cX12_streamed 168 = .ok (.iload 7, 2) := by decide +kernel
theorem dX12_streamed_170 : decode cX12_streamed 170 = .ok (.iadd, 1) := by decide +kernel
theorem dX12_streamed_171 : decode cX12_streamed 171 = .ok (.bipush 12, 2) := by decide +kernel
theorem dX12_streamed_173 : decode cX12_streamed 173 = .ok (.iload 7, 2) := by decide +kernel
theorem dX12_streamed_175 : decode cX12_streamed 175 = .ok (.iadd, 1) := by decide +kernel
theorem dX12_streamed_176 : decode cX12_streamed 176 = .ok (.invokevirtual 334, 3) := by decide +kernel
theorem dX12_streamed_179 : decode cX12_streamed 179 = .ok (.iinc 7 1, 3) := by decide +kernel
theorem dX12_streamed_182 : decode cX12_streamed 182 = .ok (.goto (-29), 3) := by decide +kernel
theorem dX12_streamed_185 : decode cX12_streamed 185 = .ok (.iconst 0, 1) := by decide +kernel
theorem dX12_streamed_186 : decode cX12_streamed 186 = .ok (.istore 7, 2) := by decide +kernel
theorem dX12_streamed_188 : decode cX12_streamed 188 = .ok (.iload 7, 2) := by decide +kernel
theorem dX12_streamed_190 : decode cX12_streamed 190 = .ok (.iconst 4, 1) := by decide +kernel
theorem dX12_streamed_191 : decode cX12_streamed 191 = .ok (.if_icmp .ge 41, 3) := by decide +kernel
theorem dX12_streamed_194 : decode cX12_streamed 194 = .ok (.aload_n 0, 1) := by decide +kernel
theorem dX12_streamed_195 : decode cX12_streamed 195 = .ok (.iload 7, 2) := by decide +kernel
theorem dX12_streamed_197 : decode cX12_streamed 197 = .ok (.iconst 4, 1) := by decide +kernel
theorem dX12_streamed_198 : decode cX12_streamed 198 = .ok (.iload 7, 2) := by decide +kernel
theorem dX12_streamed_200 : decode cX12_streamed 200 = .ok (.iconst 1, 1) := by decide +kernel
theorem dX12_streamed_201 : decode cX12_streamed 201 = .ok (.iadd, 1) := by decide +kernel
theorem dX12_streamed_202 : decode cX12_streamed 202 = .ok (.iconst 4, 1) := by decide +kernel
theorem dX12_streamed_203 : decode cX12_streamed 203 = .ok (.irem, 1) := by decide +kernel
theorem dX12_streamed_204 : decode cX12_streamed 204 = .ok (.iadd, 1) := by decide +kernel
theorem dX12_streamed_205 : decode cX12_streamed 205 = .ok (.bipush 8, 2) := by decide +kernel
theorem dX12_streamed_207 : decode cX12_streamed 207 = .ok (.iload 7, 2) := by decide +kernel
theorem dX12_streamed_209 : decode cX12_streamed 209 = .ok (.iconst 2, 1) := by decide +kernel
theorem dX12_streamed_210 : decode cX12_streamed 210 = .ok (.iadd, 1) := by decide +kernel
theorem dX12_streamed_211 : decode cX12_streamed 211 = .ok (.iconst 4, 1) := by decide +kernel
theorem dX12_streamed_212 : decode cX12_streamed 212 = .ok (.irem, 1) := by decide +kernel
theorem dX12_streamed_213 : decode cX12_streamed 213 = .ok (.iadd, 1) := by decide +kernel
theorem dX12_streamed_214 : decode cX12_streamed 214 = .ok (.bipush 12, 2) := by decide +kernel
theorem dX12_streamed_216 : decode cX12_streamed 216 = .ok (.iload 7, 2) := by decide +kernel
theorem dX12_streamed_218 : decode cX12_streamed 218 = .ok (.iconst 3, 1) := by decide +kernel
theorem dX12_streamed_219 : decode cX12_streamed 219 = .ok (.iadd, 1) := by decide +kernel
theorem dX12_streamed_220 : decode cX12_streamed 220 = .ok (.iconst 4, 1) := by decide +kernel
theorem dX12_streamed_221 : decode cX12_streamed 221 = .ok (.irem, 1) := by decide +kernel
theorem dX12_streamed_222 : decode cX12_streamed 222 = .ok (.iadd, 1) := by decide +kernel
theorem dX12_streamed_223 : decode cX12_streamed 223 = .ok (.invokevirtual 334, 3) := by decide +kernel
theorem dX12_streamed_226 : decode cX12_streamed 226 = .ok (.iinc 7 1, 3) := by decide +kernel
theorem dX12_streamed_229 : decode cX12_streamed 229 = .ok (.goto (-41), 3) := by decide +kernel
theorem dX12_streamed_232 : decode cX12_streamed 232 = .ok (.iinc 6 1, 3) := by decide +kernel
theorem dX12_streamed_235 : decode cX12_streamed 235 = .ok (.goto (-92), 3) := by decide +kernel
theorem dX12_streamed_238 : decode cX12_streamed 238 = .ok (.iconst 0, 1) := by decide +kernel
theorem dX12_streamed_239 : decode cX12_streamed 239 = .ok (.istore 6, 2) := by decide +kernel
theorem dX12_streamed_241 : decode cX12_streamed 241 = .ok (.iload 6, 2) := by decide +kernel
theorem dX12_streamed_243 : decode cX12_streamed 243 = .ok (.bipush 64, 2) := by decide +kernel
theorem dX12_streamed_245 : decode cX12_streamed 245 = .ok (.if_icmp .ge 44, 3) := by decide +kernel
theorem dX12_streamed_248 : decode cX12_streamed 248 = .ok (.aload_n 0, 1) := by decide +kernel
theorem dX12_streamed_249 : decode cX12_streamed 249 = .ok (.getfield 177, 3) := by decide +kernel
theorem dX12_streamed_252 : decode cX12_streamed 252 = .ok (.iload 6, 2) := by decide +kernel
theorem dX12_streamed_254 : decode cX12_streamed 254 = .ok (.aload_n 0, 1) := by decide +kernel
theorem dX12_streamed_255 : decode cX12_streamed 255 = .ok (.getfield 174, 3) := by decide +kernel
theorem dX12_streamed_258 : decode cX12_streamed 258 = .ok (.iload 6, 2) := by decide +kernel
theorem dX12_streamed_260 : decode cX12_streamed 260 = .ok (.iconst 4, 1) := by decide +kernel
theorem dX12_streamed_261 : decode cX12_streamed 261 = .ok (.idiv, 1) := by decide +kernel
theorem dX12_streamed_262 : decode cX12_streamed 262 = .ok (.iaload, 1) := by decide +kernel
theorem dX12_streamed_263 : decode cX12_streamed 263 = .ok (.aload_n 0, 1) := by decide +kernel
theorem dX12_streamed_264 : decode cX12_streamed 264 = .ok (.getfield 171, 3) := by decide +kernel
theorem dX12_streamed_267 : decode cX12_streamed 267 = .ok (.iload 6, 2) := by decide +kernel
theorem dX12_streamed_269 : decode cX12_streamed 269 = .ok (.iconst 4, 1) := by decide +kernel
theorem dX12_streamed_270 : decode cX12_streamed 270 = .ok (.idiv, 1) := by decide +kernel
theorem dX12_streamed_271 : decode cX12_streamed 271 = .ok (.iaload, 1) := by decide +kernel
theorem dX12_streamed_272 : decode cX12_streamed 272 = .ok (.iadd, 1) := by decide +kernel
theorem dX12_streamed_273 : decode cX12_streamed 273 = .ok (.bipush 8, 2) := by decide +kernel
theorem dX12_streamed_275 : decode cX12_streamed 275 = .ok (.iload 6, 2) := by decide +kernel
theorem dX12_streamed_277 : decode cX12_streamed 277 = .ok (.iconst 4, 1) := by decide +kernel
theorem dX12_streamed_278 : decode cX12_streamed 278 = .ok (.irem, 1) := by decide +kernel
theorem dX12_streamed_279 : decode cX12_streamed 279 = .ok (.imul, 1) := by decide +kernel
theorem dX12_streamed_280 : decode cX12_streamed 280 = .ok (.ishr, 1) := by decide +kernel
theorem dX12_streamed_281 : decode cX12_streamed 281 = .ok (.i2b, 1) := by decide +kernel
theorem dX12_streamed_282 : decode cX12_streamed 282 = .ok (.bastore, 1) := by decide +kernel
theorem dX12_streamed_283 : decode cX12_streamed 283 = .ok (.iinc 6 1, 3) := by decide +kernel
theorem dX12_streamed_286 : decode cX12_streamed 286 = .ok (.goto (-45), 3) := by decide +kernel
theorem dX12_streamed_289 : decode cX12_streamed 289 = .ok (.return_, 1) := by decide +kernel
theorem dX12_plus_0 : decode cX12_plus 0 = .ok (.iconst 0, 1) := by decide +kernel
theorem dX12_plus_1 : decode cX12_plus 1 = .ok (.istore_n 2, 1) := by decide +kernel
theorem dX12_plus_2 : decode cX12_plus 2 = .ok (.iconst 0, 1) := by decide +kernel
theorem dX12_plus_3 : decode cX12_plus 3 = .ok (.istore_n 3, 1) := by decide +kernel
theorem dX12_plus_4 : decode cX12_plus 4 = .ok (.iload_n 3, 1) := by decide +kernel
theorem dX12_plus_5 : decode cX12_plus 5 = .ok (.bipush 17, 2) := by decide +kernel
theorem dX12_plus_7 : decode cX12_plus 7 = .ok (.if_icmp .ge 38, 3) := by decide +kernel
theorem dX12_plus_10 : decode cX12_plus 10 = .ok (.iload_n 2, 1) := by decide +kernel
theorem dX12_plus_11 : decode cX12_plus 11 = .ok (.aload_n 0, 1) := by decide +kernel
theorem dX12_plus_12 : decode cX12_plus 12 = .ok (.getfield 180, 3) := by decide +kernel
theorem dX12_plus_15 : decode cX12_plus 15 = .ok (.iload_n 3, 1) := by decide +kernel
theorem dX12_plus_16 : decode cX12_plus 16 = .ok (.iaload, 1) := by decide +kernel
theorem dX12_plus_17 : decode cX12_plus 17 = .ok (.aload_n 1, 1) := by decide +kernel
theorem dX12_plus_18 : decode cX12_plus 18 = .ok (.iload_n 3, 1) := by decide +kernel
theorem dX12_plus_19 : decode cX12_plus 19 = .ok (.iaload, 1) := by decide +kernel
theorem dX12_plus_20 : decode cX12_plus 20 = .ok (.iadd, 1) := by decide +kernel
theorem dX12_plus_21 : decode cX12_plus 21 = .ok (.iadd, 1) := by decide +kernel
theorem dX12_plus_22 : decode cX12_plus 22 = .ok (.istore_n 2, 1) := by decide +kernel
theorem dX12_plus_23 : decode cX12_plus 23 = .ok (.aload_n 0, 1) := by decide +kernel
theorem dX12_plus_24 : decode cX12_plus 24 = .ok (.getfield 180, 3) := by decide +kernel
theorem dX12_plus_27 : decode cX12_plus 27 = .ok (.iload_n 3, 1) := by decide +kernel
theorem dX12_plus_28 : decode cX12_plus 28 = .ok (.iload_n 2, 1) := by decide +kernel
theorem dX12_plus_29 : decode cX12_plus 29 = .ok (.sipush 255, 3) := by decide +kernel
theorem dX12_plus_32 : decode cX12_plus 32 = .ok (.iand, 1) := by decide +kernel
theorem dX12_plus_33 : decode cX12_plus 33 = .ok (.iastore, 1) := by decide +kernel
theorem dX12_plus_34 : decode cX12_plus 34 = .ok (.iload_n 2, 1) := by decide +kernel
theorem dX12_plus_35 : decode cX12_plus 35 = .ok (.bipush 8, 2) := by decide +kernel
theorem dX12_plus_37 : decode cX12_plus 37 = .ok (.ishr, 1) := by decide +kernel
theorem dX12_plus_38 : decode cX12_plus 38 = .ok (.istore_n 2, 1) := by decide +kernel
theorem dX12_plus_39 : decode cX12_plus 39 = .ok (.iinc 3 1, 3) := by decide +kernel
theorem dX12_plus_42 : decode cX12_plus 42 = .ok (.goto (-38), 3) := by decide +kernel
theorem dX12_plus_45 : decode cX12_plus 45 = .ok (.return_, 1) := by decide +kernel
theorem dX12_tagBegins_0 : decode cX12_tagBegins 0 = .ok (.aload_n 0, 1) := by decide +kernel
theorem dX12_tagBegins_1 : decode cX12_tagBegins 1 = .ok (.aload_n 1, 1) := by decide +kernel
theorem dX12_tagBegins_2 : decode cX12_tagBegins 2 = .ok (.iload_n 2, 1) := by decide +kernel
theorem dX12_tagBegins_3 : decode cX12_tagBegins 3 = .ok (.iconst 0, 1) := by decide +kernel
theorem dX12_tagBegins_4 : decode cX12_tagBegins 4 = .ok (.lload_n 3, 1) := by decide +kernel
theorem dX12_tagBegins_5 : decode cX12_tagBegins 5 = .ok (.invokevirtual 338, 3) := by decide +kernel
theorem dX12_tagBegins_8 : decode cX12_tagBegins 8 = .ok (.aload_n 0, 1) := by decide +kernel
theorem dX12_tagBegins_9 : decode cX12_tagBegins 9 = .ok (.getfield 177, 3) := by decide +kernel
theorem dX12_tagBegins_12 : decode cX12_tagBegins 12 = .ok (.iconst 0, 1) := by decide +kernel
theorem dX12_tagBegins_13 : decode cX12_tagBegins 13 = .ok (.aload_n 0, 1) := by decide +kernel
theorem dX12_tagBegins_14 : decode cX12_tagBegins 14 = .ok (.getfield 195, 3) := by decide +kernel
theorem dX12_tagBegins_17 : decode cX12_tagBegins 17 = .ok (.iconst 0, 1) := by decide +kernel
theorem dX12_tagBegins_18 : decode cX12_tagBegins 18 = .ok (.bipush 32, 2) := by decide +kernel
theorem dX12_tagBegins_20 : decode cX12_tagBegins 20 = .ok (.invokestatic 265, 3) := by decide +kernel
theorem dX12_tagBegins_23 : decode cX12_tagBegins 23 = .ok (.iconst 0, 1) := by decide +kernel
theorem dX12_tagBegins_24 : decode cX12_tagBegins 24 = .ok (.istore 5, 2) := by decide +kernel
theorem dX12_tagBegins_26 : decode cX12_tagBegins 26 = .ok (.iload 5, 2) := by decide +kernel
theorem dX12_tagBegins_28 : decode cX12_tagBegins 28 = .ok (.bipush 17, 2) := by decide +kernel
theorem dX12_tagBegins_30 : decode cX12_tagBegins 30 = .ok (.if_icmp .ge 46, 3) := by decide +kernel
theorem dX12_tagBegins_33 : decode cX12_tagBegins 33 = .ok (.aload_n 0, 1) := by decide +kernel
theorem dX12_tagBegins_34 : decode cX12_tagBegins 34 = .ok (.getfield 180, 3) := by decide +kernel
theorem dX12_tagBegins_37 : decode cX12_tagBegins 37 = .ok (.iload 5, 2) := by decide +kernel
theorem dX12_tagBegins_39 : decode cX12_tagBegins 39 = .ok (.iconst 0, 1) := by decide +kernel
theorem dX12_tagBegins_40 : decode cX12_tagBegins 40 = .ok (.iastore, 1) := by decide +kernel
theorem dX12_tagBegins_41 : decode cX12_tagBegins 41 = .ok (.aload_n 0, 1) := by decide +kernel
theorem dX12_tagBegins_42 : decode cX12_tagBegins 42 = .ok (.getfield 183, 3) := by decide +kernel
theorem dX12_tagBegins_45 : decode cX12_tagBegins 45 = .ok (.iload 5, 2) := by decide +kernel
theorem dX12_tagBegins_47 : decode cX12_tagBegins 47 = .ok (.iload 5, 2) := by decide +kernel
theorem dX12_tagBegins_49 : decode cX12_tagBegins 49 = .ok (.bipush 16, 2) := by decide +kernel
theorem dX12_tagBegins_51 : decode cX12_tagBegins 51 = .ok (.if_icmp .ge 17, 3) := by decide +kernel
theorem dX12_tagBegins_54 : decode cX12_tagBegins 54 = .ok (.aload_n 0, 1) := by decide +kernel
theorem dX12_tagBegins_55 : decode cX12_tagBegins 55 = .ok (.getfield 195, 3) := by decide +kernel
theorem dX12_tagBegins_58 : decode cX12_tagBegins 58 = .ok (.iload 5, 2) := by decide +kernel
theorem dX12_tagBegins_60 : decode cX12_tagBegins 60 = .ok (.baload, 1) := by decide +kernel
theorem dX12_tagBegins_61 : decode cX12_tagBegins 61 = .ok (.sipush 255, 3) := by decide +kernel
theorem dX12_tagBegins_64 : decode cX12_tagBegins 64 = .ok (.iand, 1) := by decide +kernel
theorem dX12_tagBegins_65 : decode cX12_tagBegins 65 = .ok (.goto 4, 3) := by decide +kernel
theorem dX12_tagBegins_68 : decode cX12_tagBegins 68 = .ok (.iconst 0, 1) := by decide +kernel
theorem dX12_tagBegins_69 : decode cX12_tagBegins 69 = .ok (.iastore, 1) := by decide +kernel
theorem dX12_tagBegins_70 : decode cX12_tagBegins 70 = .ok (.iinc 5 1, 3) := by decide +kernel
theorem dX12_tagBegins_73 : decode cX12_tagBegins 73 = .ok (.goto (-47), 3) := by decide +kernel
theorem dX12_tagBegins_76 : decode cX12_tagBegins 76 = .ok (.iconst 3, 1) := by decide +kernel
theorem dX12_tagBegins_77 : decode cX12_tagBegins 77 = .ok (.istore 5, 2) := by decide +kernel
theorem dX12_tagBegins_79 : decode cX12_tagBegins 79 = .ok (.iload 5, 2) := by decide +kernel
theorem dX12_tagBegins_81 : decode cX12_tagBegins 81 = .ok (.bipush 16, 2) := by decide +kernel
theorem dX12_tagBegins_83 : decode cX12_tagBegins 83 = .ok (.if_icmp .ge 21, 3) := by decide +kernel
theorem dX12_tagBegins_86 : decode cX12_tagBegins 86 = .ok (.aload_n 0, 1) := by decide +kernel
theorem dX12_tagBegins_87 : decode cX12_tagBegins 87 = .ok (.getfield 183, 3) := by decide +kernel
theorem dX12_tagBegins_90 : decode cX12_tagBegins 90 = .ok (.iload 5, 2) := by decide +kernel
theorem dX12_tagBegins_92 : decode cX12_tagBegins 92 = .ok (.dup2, 1) := by decide +kernel
theorem dX12_tagBegins_93 : decode cX12_tagBegins 93 = .ok (.iaload, 1) := by decide +kernel
theorem dX12_tagBegins_94 : decode cX12_tagBegins 94 = .ok (.bipush 15, 2) := by decide +kernel
theorem dX12_tagBegins_96 : decode cX12_tagBegins 96 = .ok (.iand, 1) := by decide +kernel
theorem dX12_tagBegins_97 : decode cX12_tagBegins 97 = .ok (.iastore, 1) := by decide +kernel
theorem dX12_tagBegins_98 : decode cX12_tagBegins 98 = .ok (.iinc 5 4, 3) := by decide +kernel
theorem dX12_tagBegins_101 : decode cX12_tagBegins 101 = .ok (.goto (-22), 3) := by decide +kernel
theorem dX12_tagBegins_104 : decode cX12_tagBegins 104 = .ok (.iconst 4, 1) := by decide +kernel
theorem dX12_tagBegins_105 : decode cX12_tagBegins 105 = .ok (.istore 5, 2) := by decide +kernel
theorem dX12_tagBegins_107 : decode cX12_tagBegins 107 = .ok (.iload 5, 2) := by decide +kernel
theorem dX12_tagBegins_109 : decode cX12_tagBegins 109 = .ok (.bipush 16, 2) := by decide +kernel
theorem dX12_tagBegins_111 : decode cX12_tagBegins 111 = .ok (.if_icmp .ge 22, 3) := by decide +kernel
theorem dX12_tagBegins_114 : decode cX12_tagBegins 114 = .ok (.aload_n 0, 1) := by decide +kernel
theorem dX12_tagBegins_115 : decode cX12_tagBegins 115 = .ok (.getfield 183, 3) := by decide +kernel
theorem dX12_tagBegins_118 : decode cX12_tagBegins 118 = .ok (.iload 5, 2) := by decide +kernel
theorem dX12_tagBegins_120 : decode cX12_tagBegins 120 = .ok (.dup2, 1) := by decide +kernel
theorem dX12_tagBegins_121 : decode cX12_tagBegins 121 = .ok (.iaload, 1) := by decide +kernel
theorem dX12_tagBegins_122 : decode cX12_tagBegins 122 = .ok (.sipush 252, 3) := by decide +kernel
theorem dX12_tagBegins_125 : decode cX12_tagBegins 125 = .ok (.iand, 1) := by decide +kernel
theorem dX12_tagBegins_126 : decode cX12_tagBegins 126 = .ok (.iastore, 1) := by decide +kernel
theorem dX12_tagBegins_127 : decode cX12_tagBegins 127 = .ok (.iinc 5 4, 3) := by decide +kernel
theorem dX12_tagBegins_130 : decode cX12_tagBegins 130 = .ok (.goto (-23), 3) := by decide +kernel
theorem dX12_tagBegins_133 : decode cX12_tagBegins 133 = .ok (.return_, 1) := by decide +kernel
theorem dX12_tagged_0 : decode cX12_tagged 0 = .ok (.aload_n 0, 1) := by decide +kernel
theorem dX12_tagged_1 : decode cX12_tagged 1 = .ok (.aload_n 0, 1) := by decide +kernel
theorem dX12_tagged_2 : decode cX12_tagged 2 = .ok (.getfield 186, 3) := by decide +kernel
theorem dX12_tagged_5 : decode cX12_tagged 5 = .ok (.invokevirtual 342, 3) := by decide +kernel
theorem dX12_tagged_8 : decode cX12_tagged 8 = .ok (.iconst 0, 1) := by decide +kernel
theorem dX12_tagged_9 : decode cX12_tagged 9 = .ok (.istore_n 1, 1) := by decide +kernel
theorem dX12_tagged_10 : decode cX12_tagged 10 = .ok (.iload_n 1, 1) := by decide +kernel
theorem dX12_tagged_11 : decode cX12_tagged 11 = .ok (.bipush 17, 2) := by decide +kernel
theorem dX12_tagged_13 : decode cX12_tagged 13 = .ok (.if_icmp .ge 77, 3) := by decide +kernel
theorem dX12_tagged_16 : decode cX12_tagged 16 = .ok (.aload_n 0, 1) := by decide +kernel
theorem dX12_tagged_17 : decode cX12_tagged 17 = .ok (.getfield 189, 3) := by decide +kernel
theorem dX12_tagged_20 : decode cX12_tagged 20 = .ok (.iload_n 1, 1) := by decide +kernel
theorem dX12_tagged_21 : decode cX12_tagged 21 = .ok (.iconst 0, 1) := by decide +kernel
theorem dX12_tagged_22 : decode cX12_tagged 22 = .ok (.iastore, 1) := by decide +kernel
theorem dX12_tagged_23 : decode cX12_tagged 23 = .ok (.iconst 0, 1) := by decide +kernel
theorem dX12_tagged_24 : decode cX12_tagged 24 = .ok (.istore_n 2, 1) := by decide +kernel
theorem dX12_tagged_25 : decode cX12_tagged 25 = .ok (.iload_n 2, 1) := by decide +kernel
theorem dX12_tagged_26 : decode cX12_tagged 26 = .ok (.bipush 17, 2) := by decide +kernel
theorem dX12_tagged_28 : decode cX12_tagged 28 = .ok (.if_icmp .ge 56, 3) := by decide +kernel
theorem dX12_tagged_31 : decode cX12_tagged 31 = .ok (.aload_n 0, 1) := by decide +kernel
theorem dX12_tagged_32 : decode cX12_tagged 32 = .ok (.getfield 189, 3) := by decide +kernel
theorem dX12_tagged_35 : decode cX12_tagged 35 = .ok (.iload_n 1, 1) := by decide +kernel
theorem dX12_tagged_36 : decode cX12_tagged 36 = .ok (.dup2, 1) := by decide +kernel
theorem dX12_tagged_37 : decode cX12_tagged 37 = .ok (.iaload, 1) := by decide +kernel
theorem dX12_tagged_38 : decode cX12_tagged 38 = .ok (.aload_n 0, 1) := by decide +kernel
theorem dX12_tagged_39 : decode cX12_tagged 39 = .ok (.getfield 180, 3) := by decide +kernel
theorem dX12_tagged_42 : decode cX12_tagged 42 = .ok (.iload_n 2, 1) := by decide +kernel
theorem dX12_tagged_43 : decode cX12_tagged 43 = .ok (.iaload, 1) := by decide +kernel
theorem dX12_tagged_44 : decode cX12_tagged 44 = .ok (.iload_n 2, 1) := by decide +kernel
theorem dX12_tagged_45 : decode cX12_tagged 45 = .ok (.iload_n 1, 1) := by decide +kernel
theorem dX12_tagged_46 : decode cX12_tagged 46 = .ok (.if_icmp .gt 14, 3) := by decide +kernel
theorem dX12_tagged_49 : decode cX12_tagged 49 = .ok (.aload_n 0, 1) := by decide +kernel
theorem dX12_tagged_50 : decode cX12_tagged 50 = .ok (.getfield 183, 3) := by decide +kernel
theorem dX12_tagged_53 : decode cX12_tagged 53 = .ok (.iload_n 1, 1) := by decide +kernel
theorem dX12_tagged_54 : decode cX12_tagged 54 = .ok (.iload_n 2, 1) := by decide +kernel
theorem dX12_tagged_55 : decode cX12_tagged 55 = .ok (.isub, 1) := by decide +kernel
theorem dX12_tagged_56 : decode cX12_tagged 56 = .ok (.iaload, 1) := by decide +kernel
theorem dX12_tagged_57 : decode cX12_tagged 57 = .ok (.goto 18, 3) := by decide +kernel
theorem dX12_tagged_60 : decode cX12_tagged 60 = .ok (.sipush 320, 3) := by decide +kernel
theorem dX12_tagged_63 : decode cX12_tagged 63 = .ok (.aload_n 0, 1) := by decide +kernel
theorem dX12_tagged_64 : decode cX12_tagged 64 = .ok (.getfield 183, 3) := by decide +kernel
theorem dX12_tagged_67 : decode cX12_tagged 67 = .ok (.iload_n 1, 1) := by decide +kernel
theorem dX12_tagged_68 : decode cX12_tagged 68 = .ok (.bipush 17, 2) := by decide +kernel
theorem dX12_tagged_70 : decode cX12_tagged 70 = .ok (.iadd, 1) := by decide +kernel
theorem dX12_tagged_71 : decode cX12_tagged 71 = .ok (.iload_n 2, 1) := by decide +kernel
theorem dX12_tagged_72 : decode cX12_tagged 72 = .ok (.isub, 1) := by decide +kernel
theorem dX12_tagged_73 : decode cX12_tagged 73 = .ok (.iaload, 1) := by decide +kernel
theorem dX12_tagged_74 : decode cX12_tagged 74 = .ok (.imul, 1) := by decide +kernel
theorem dX12_tagged_75 : decode cX12_tagged 75 = .ok (.imul, 1) := by decide +kernel
theorem dX12_tagged_76 : decode cX12_tagged 76 = .ok (.iadd, 1) := by decide +kernel
theorem dX12_tagged_77 : decode cX12_tagged 77 = .ok (.iastore, 1) := by decide +kernel
theorem dX12_tagged_78 : decode cX12_tagged 78 = .ok (.iinc 2 1, 3) := by decide +kernel
theorem dX12_tagged_81 : decode cX12_tagged 81 = .ok (.goto (-56), 3) := by decide +kernel
theorem dX12_tagged_84 : decode cX12_tagged 84 = .ok (.iinc 1 1, 3) := by decide +kernel
theorem dX12_tagged_87 : decode cX12_tagged 87 = .ok (.goto (-77), 3) := by decide +kernel
theorem dX12_tagged_90 : decode cX12_tagged 90 = .ok (.iconst 0, 1) := by decide +kernel
theorem dX12_tagged_91 : decode cX12_tagged 91 = .ok (.istore_n 1, 1) := by decide +kernel
theorem dX12_tagged_92 : decode cX12_tagged 92 = .ok (.iconst 0, 1) := by decide +kernel
theorem dX12_tagged_93 : decode cX12_tagged 93 = .ok (.istore_n 2, 1) := by decide +kernel
theorem dX12_tagged_94 : decode cX12_tagged 94 = .ok (.iload_n 2, 1) := by decide +kernel
theorem dX12_tagged_95 : decode cX12_tagged 95 = .ok (.bipush 16, 2) := by decide +kernel
theorem dX12_tagged_97 : decode cX12_tagged 97 = .ok (.if_icmp .ge 34, 3) := by decide +kernel
theorem dX12_tagged_100 : decode cX12_tagged 100 = .ok (.iload_n 1, 1) := by decide +kernel
theorem dX12_tagged_101 : decode cX12_tagged 101 = .ok (.aload_n 0, 1) := by decide +kernel
theorem dX12_tagged_102 : decode cX12_tagged 102 = .ok (.getfield 189, 3) := by decide +kernel
theorem dX12_tagged_105 : decode cX12_tagged 105 = .ok (.iload_n 2, 1) := by decide +kernel
theorem dX12_tagged_106 : decode cX12_tagged 106 = .ok (.iaload, 1) := by decide +kernel
theorem dX12_tagged_107 : decode cX12_tagged 107 = .ok (.iadd, 1) := by decide +kernel
theorem dX12_tagged_108 : decode cX12_tagged 108 = .ok (.istore_n 1, 1) := by decide +kernel
theorem dX12_tagged_109 : decode cX12_tagged 109 = .ok (.aload_n 0, 1) := by decide +kernel
theorem dX12_tagged_110 : decode cX12_tagged 110 = .ok (.getfield 180, 3) := by decide +kernel
theorem dX12_tagged_113 : decode cX12_tagged 113 = .ok (.iload_n 2, 1) := by decide +kernel
theorem dX12_tagged_114 : decode cX12_tagged 114 = .ok (.iload_n 1, 1) := by decide +kernel
theorem dX12_tagged_115 : decode cX12_tagged 115 = .ok (.sipush 255, 3) := by decide +kernel
theorem dX12_tagged_118 : decode cX12_tagged 118 = .ok (.iand, 1) := by decide +kernel
theorem dX12_tagged_119 : decode cX12_tagged 119 = .ok (.iastore, 1) := by decide +kernel
theorem dX12_tagged_120 : decode cX12_tagged 120 = .ok (.iload_n 1, 1) := by decide +kernel
theorem dX12_tagged_121 : decode cX12_tagged 121 = .ok (.bipush 8, 2) := by decide +kernel
theorem dX12_tagged_123 : decode cX12_tagged 123 = .ok (.iushr, 1) := by decide +kernel
theorem dX12_tagged_124 : decode cX12_tagged 124 = .ok (.istore_n 1, 1) := by decide +kernel
theorem dX12_tagged_125 : decode cX12_tagged 125 = .ok (.iinc 2 1, 3) := by decide +kernel
theorem dX12_tagged_128 : decode cX12_tagged 128 = .ok (.goto (-34), 3) := by decide +kernel
theorem dX12_tagged_131 : decode cX12_tagged 131 = .ok (.iload_n 1, 1) := by decide +kernel
theorem dX12_tagged_132 : decode cX12_tagged 132 = .ok (.aload_n 0, 1) := by decide +kernel
theorem dX12_tagged_133 : decode cX12_tagged 133 = .ok (.getfield 189, 3) := by decide +kernel
theorem dX12_tagged_136 : decode cX12_tagged 136 = .ok (.bipush 16, 2) := by decide +kernel
theorem dX12_tagged_138 : decode cX12_tagged 138 = .ok (.iaload, 1) := by decide +kernel
theorem dX12_tagged_139 : decode cX12_tagged 139 = .ok (.iadd, 1) := by decide +kernel
theorem dX12_tagged_140 : decode cX12_tagged 140 = .ok (.istore_n 1, 1) := by decide +kernel
theorem dX12_tagged_141 : decode cX12_tagged 141 = .ok (.aload_n 0, 1) := by decide +kernel
theorem dX12_tagged_142 : decode cX12_tagged 142 = .ok (.getfield 180, 3) := by decide +kernel
theorem dX12_tagged_145 : decode cX12_tagged 145 = .ok (.bipush 16, 2) := by decide +kernel
theorem dX12_tagged_147 : decode cX12_tagged 147 = .ok (.iload_n 1, 1) := by decide +kernel
theorem dX12_tagged_148 : decode cX12_tagged 148 = .ok (.iconst 3, 1) := by decide +kernel
theorem dX12_tagged_149 : decode cX12_tagged 149 = .ok (.iand, 1) := by decide +kernel
theorem dX12_tagged_150 : decode cX12_tagged 150 = .ok (.iastore, 1) := by decide +kernel
theorem dX12_tagged_151 : decode cX12_tagged 151 = .ok (.iconst 5, 1) := by decide +kernel
theorem dX12_tagged_152 : decode cX12_tagged 152 = .ok (.iload_n 1, 1) := by decide +kernel
theorem dX12_tagged_153 : decode cX12_tagged 153 = .ok (.iconst 2, 1) := by decide +kernel
theorem dX12_tagged_154 : decode cX12_tagged 154 = .ok (.iushr, 1) := by decide +kernel
theorem dX12_tagged_155 : decode cX12_tagged 155 = .ok (.imul, 1) := by decide +kernel
theorem dX12_tagged_156 : decode cX12_tagged 156 = .ok (.istore_n 1, 1) := by decide +kernel
theorem dX12_tagged_157 : decode cX12_tagged 157 = .ok (.iconst 0, 1) := by decide +kernel
theorem dX12_tagged_158 : decode cX12_tagged 158 = .ok (.istore_n 2, 1) := by decide +kernel
theorem dX12_tagged_159 : decode cX12_tagged 159 = .ok (.iload_n 2, 1) := by decide +kernel
theorem dX12_tagged_160 : decode cX12_tagged 160 = .ok (.bipush 16, 2) := by decide +kernel
theorem dX12_tagged_162 : decode cX12_tagged 162 = .ok (.if_icmp .ge 34, 3) := by decide +kernel
theorem dX12_tagged_165 : decode cX12_tagged 165 = .ok (.iload_n 1, 1) := by decide +kernel
theorem dX12_tagged_166 : decode cX12_tagged 166 = .ok (.aload_n 0, 1) := by decide +kernel
theorem dX12_tagged_167 : decode cX12_tagged 167 = .ok (.getfield 180, 3) := by decide +kernel
theorem dX12_tagged_170 : decode cX12_tagged 170 = .ok (.iload_n 2, 1) := by decide +kernel
theorem dX12_tagged_171 : decode cX12_tagged 171 = .ok (.iaload, 1) := by decide +kernel
theorem dX12_tagged_172 : decode cX12_tagged 172 = .ok (.iadd, 1) := by decide +kernel
theorem dX12_tagged_173 : decode cX12_tagged 173 = .ok (.istore_n 1, 1) := by decide +kernel
theorem dX12_tagged_174 : decode cX12_tagged 174 = .ok (.aload_n 0, 1) := by decide +kernel
theorem dX12_tagged_175 : decode cX12_tagged 175 = .ok (.getfield 180, 3) := by decide +kernel
theorem dX12_tagged_178 : decode cX12_tagged 178 = .ok (.iload_n 2, 1) := by decide +kernel
theorem dX12_tagged_179 : decode cX12_tagged 179 = .ok (.iload_n 1, 1) := by decide +kernel
theorem dX12_tagged_180 : decode cX12_tagged 180 = .ok (.sipush 255, 3) := by decide +kernel
theorem dX12_tagged_183 : decode cX12_tagged 183 = .ok (.iand, 1) := by decide +kernel
theorem dX12_tagged_184 : decode cX12_tagged 184 = .ok (.iastore, 1) := by decide +kernel
theorem dX12_tagged_185 : decode cX12_tagged 185 = .ok (.iload_n 1, 1) := by decide +kernel
theorem dX12_tagged_186 : decode cX12_tagged 186 = .ok (.bipush 8, 2) := by decide +kernel
theorem dX12_tagged_188 : decode cX12_tagged 188 = .ok (.iushr, 1) := by decide +kernel
theorem dX12_tagged_189 : decode cX12_tagged 189 = .ok (.istore_n 1, 1) := by decide +kernel
theorem dX12_tagged_190 : decode cX12_tagged 190 = .ok (.iinc 2 1, 3) := by decide +kernel
theorem dX12_tagged_193 : decode cX12_tagged 193 = .ok (.goto (-34), 3) := by decide +kernel
theorem dX12_tagged_196 : decode cX12_tagged 196 = .ok (.aload_n 0, 1) := by decide +kernel
theorem dX12_tagged_197 : decode cX12_tagged 197 = .ok (.getfield 180, 3) := by decide +kernel
theorem dX12_tagged_200 : decode cX12_tagged 200 = .ok (.bipush 16, 2) := by decide +kernel
theorem dX12_tagged_202 : decode cX12_tagged 202 = .ok (.dup2, 1) := by decide +kernel
theorem dX12_tagged_203 : decode cX12_tagged 203 = .ok (.iaload, 1) := by decide +kernel
theorem dX12_tagged_204 : decode cX12_tagged 204 = .ok (.iload_n 1, 1) := by decide +kernel
theorem dX12_tagged_205 : decode cX12_tagged 205 = .ok (.iadd, 1) := by decide +kernel
theorem dX12_tagged_206 : decode cX12_tagged 206 = .ok (.iastore, 1) := by decide +kernel
theorem dX12_tagged_207 : decode cX12_tagged 207 = .ok (.return_, 1) := by decide +kernel
theorem dX12_tagRow_0 : decode cX12_tagRow 0 = .ok (.iconst 0, 1) := by decide +kernel
theorem dX12_tagRow_1 : decode cX12_tagRow 1 = .ok (.istore 4, 2) := by decide +kernel
theorem dX12_tagRow_3 : decode cX12_tagRow 3 = .ok (.iload 4, 2) := by decide +kernel
theorem dX12_tagRow_5 : decode cX12_tagRow 5 = .ok (.iload_n 3, 1) := by decide +kernel
theorem dX12_tagRow_6 : decode cX12_tagRow 6 = .ok (.if_icmp .ge 70, 3) := by decide +kernel
theorem dX12_tagRow_9 : decode cX12_tagRow 9 = .ok (.iconst 0, 1) := by decide +kernel
theorem dX12_tagRow_10 : decode cX12_tagRow 10 = .ok (.istore 5, 2) := by decide +kernel
theorem dX12_tagRow_12 : decode cX12_tagRow 12 = .ok (.iload 5, 2) := by decide +kernel
theorem dX12_tagRow_14 : decode cX12_tagRow 14 = .ok (.bipush 16, 2) := by decide +kernel
theorem dX12_tagRow_16 : decode cX12_tagRow 16 = .ok (.if_icmp .ge 42, 3) := by decide +kernel
theorem dX12_tagRow_19 : decode cX12_tagRow 19 = .ok (.aload_n 0, 1) := by decide +kernel
theorem dX12_tagRow_20 : decode cX12_tagRow 20 = .ok (.getfield 186, 3) := by decide +kernel
theorem dX12_tagRow_23 : decode cX12_tagRow 23 = .ok (.iload 5, 2) := by decide +kernel
theorem dX12_tagRow_25 : decode cX12_tagRow 25 = .ok (.iload 4, 2) := by decide +kernel
theorem dX12_tagRow_27 : decode cX12_tagRow 27 = .ok (.iload 5, 2) := by decide +kernel
theorem dX12_tagRow_29 : decode cX12_tagRow 29 = .ok (.iadd, 1) := by decide +kernel
theorem dX12_tagRow_30 : decode cX12_tagRow 30 = .ok (.iload_n 3, 1) := by decide +kernel
theorem dX12_tagRow_31 : decode cX12_tagRow 31 = .ok (.if_icmp .ge 19, 3) := by decide +kernel
theorem dX12_tagRow_34 : decode cX12_tagRow 34 = .ok (.aload_n 1, 1) := by decide +kernel
theorem dX12_tagRow_35 : decode cX12_tagRow 35 = .ok (.iload_n 2, 1) := by decide +kernel
theorem dX12_tagRow_36 : decode cX12_tagRow 36 = .ok (.iload 4, 2) := by decide +kernel
theorem dX12_tagRow_38 : decode cX12_tagRow 38 = .ok (.iadd, 1) := by decide +kernel
theorem dX12_tagRow_39 : decode cX12_tagRow 39 = .ok (.iload 5, 2) := by decide +kernel
theorem dX12_tagRow_41 : decode cX12_tagRow 41 = .ok (.iadd, 1) := by decide +kernel
theorem dX12_tagRow_42 : decode cX12_tagRow 42 = .ok (.baload, 1) := by decide +kernel
theorem dX12_tagRow_43 : decode cX12_tagRow 43 = .ok (.sipush 255, 3) := by decide +kernel
theorem dX12_tagRow_46 : decode cX12_tagRow 46 = .ok (.iand, 1) := by decide +kernel
theorem dX12_tagRow_47 : decode cX12_tagRow 47 = .ok (.goto 4, 3) := by decide +kernel
theorem dX12_tagRow_50 : decode cX12_tagRow 50 = .ok (.iconst 0, 1) := by decide +kernel
theorem dX12_tagRow_51 : decode cX12_tagRow 51 = .ok (.iastore, 1) := by decide +kernel
theorem dX12_tagRow_52 : decode cX12_tagRow 52 = .ok (.iinc 5 1, 3) := by decide +kernel
theorem dX12_tagRow_55 : decode cX12_tagRow 55 = .ok (.goto (-43), 3) := by decide +kernel
theorem dX12_tagRow_58 : decode cX12_tagRow 58 = .ok (.aload_n 0, 1) := by decide +kernel
theorem dX12_tagRow_59 : decode cX12_tagRow 59 = .ok (.getfield 186, 3) := by decide +kernel
theorem dX12_tagRow_62 : decode cX12_tagRow 62 = .ok (.bipush 16, 2) := by decide +kernel
theorem dX12_tagRow_64 : decode cX12_tagRow 64 = .ok (.iconst 1, 1) := by decide +kernel
theorem dX12_tagRow_65 : decode cX12_tagRow 65 = .ok (.iastore, 1) := by decide +kernel
theorem dX12_tagRow_66 : decode cX12_tagRow 66 = .ok (.aload_n 0, 1) := by decide +kernel
theorem dX12_tagRow_67 : decode cX12_tagRow 67 = .ok (.invokevirtual 346, 3) := by decide +kernel
theorem dX12_tagRow_70 : decode cX12_tagRow 70 = .ok (.iinc 4 16, 3) := by decide +kernel
theorem dX12_tagRow_73 : decode cX12_tagRow 73 = .ok (.goto (-70), 3) := by decide +kernel
theorem dX12_tagRow_76 : decode cX12_tagRow 76 = .ok (.return_, 1) := by decide +kernel
theorem dX12_tagEnds_0 : decode cX12_tagEnds 0 = .ok (.iconst 0, 1) := by decide +kernel
theorem dX12_tagEnds_1 : decode cX12_tagEnds 1 = .ok (.istore_n 3, 1) := by decide +kernel
theorem dX12_tagEnds_2 : decode cX12_tagEnds 2 = .ok (.iload_n 3, 1) := by decide +kernel
theorem dX12_tagEnds_3 : decode cX12_tagEnds 3 = .ok (.bipush 16, 2) := by decide +kernel
theorem dX12_tagEnds_5 : decode cX12_tagEnds 5 = .ok (.if_icmp .ge 16, 3) := by decide +kernel
theorem dX12_tagEnds_8 : decode cX12_tagEnds 8 = .ok (.aload_n 0, 1) := by decide +kernel
theorem dX12_tagEnds_9 : decode cX12_tagEnds 9 = .ok (.getfield 186, 3) := by decide +kernel
theorem dX12_tagEnds_12 : decode cX12_tagEnds 12 = .ok (.iload_n 3, 1) := by decide +kernel
theorem dX12_tagEnds_13 : decode cX12_tagEnds 13 = .ok (.iconst 0, 1) := by decide +kernel
theorem dX12_tagEnds_14 : decode cX12_tagEnds 14 = .ok (.iastore, 1) := by decide +kernel
theorem dX12_tagEnds_15 : decode cX12_tagEnds 15 = .ok (.iinc 3 1, 3) := by decide +kernel
theorem dX12_tagEnds_18 : decode cX12_tagEnds 18 = .ok (.goto (-16), 3) := by decide +kernel
theorem dX12_tagEnds_21 : decode cX12_tagEnds 21 = .ok (.iconst 0, 1) := by decide +kernel
theorem dX12_tagEnds_22 : decode cX12_tagEnds 22 = .ok (.istore_n 3, 1) := by decide +kernel
theorem dX12_tagEnds_23 : decode cX12_tagEnds 23 = .ok (.iload_n 3, 1) := by decide +kernel
theorem dX12_tagEnds_24 : decode cX12_tagEnds 24 = .ok (.iconst 4, 1) := by decide +kernel
theorem dX12_tagEnds_25 : decode cX12_tagEnds 25 = .ok (.if_icmp .ge 44, 3) := by decide +kernel
theorem dX12_tagEnds_28 : decode cX12_tagEnds 28 = .ok (.aload_n 0, 1) := by decide +kernel
theorem dX12_tagEnds_29 : decode cX12_tagEnds 29 = .ok (.getfield 186, 3) := by decide +kernel
theorem dX12_tagEnds_32 : decode cX12_tagEnds 32 = .ok (.iload_n 3, 1) := by decide +kernel
theorem dX12_tagEnds_33 : decode cX12_tagEnds 33 = .ok (.iload_n 1, 1) := by decide +kernel
theorem dX12_tagEnds_34 : decode cX12_tagEnds 34 = .ok (.bipush 8, 2) := by decide +kernel
theorem dX12_tagEnds_36 : decode cX12_tagEnds 36 = .ok (.iload_n 3, 1) := by decide +kernel
theorem dX12_tagEnds_37 : decode cX12_tagEnds 37 = .ok (.imul, 1) := by decide +kernel
theorem dX12_tagEnds_38 : decode cX12_tagEnds 38 = .ok (.ishr, 1) := by decide +kernel
theorem dX12_tagEnds_39 : decode cX12_tagEnds 39 = .ok (.sipush 255, 3) := by decide +kernel
theorem dX12_tagEnds_42 : decode cX12_tagEnds 42 = .ok (.iand, 1) := by decide +kernel
theorem dX12_tagEnds_43 : decode cX12_tagEnds 43 = .ok (.iastore, 1) := by decide +kernel
theorem dX12_tagEnds_44 : decode cX12_tagEnds 44 = .ok (.aload_n 0, 1) := by decide +kernel
theorem dX12_tagEnds_45 : decode cX12_tagEnds 45 = .ok (.getfield 186, 3) := by decide +kernel
theorem dX12_tagEnds_48 : decode cX12_tagEnds 48 = .ok (.bipush 8, 2) := by decide +kernel
theorem dX12_tagEnds_50 : decode cX12_tagEnds 50 = .ok (.iload_n 3, 1) := by decide +kernel
theorem dX12_tagEnds_51 : decode cX12_tagEnds 51 = .ok (.iadd, 1) := by decide +kernel
theorem dX12_tagEnds_52 : decode cX12_tagEnds 52 = .ok (.iload_n 2, 1) := by decide +kernel
theorem dX12_tagEnds_53 : decode cX12_tagEnds 53 = .ok (.bipush 8, 2) := by decide +kernel
theorem dX12_tagEnds_55 : decode cX12_tagEnds 55 = .ok (.iload_n 3, 1) := by decide +kernel
theorem dX12_tagEnds_56 : decode cX12_tagEnds 56 = .ok (.imul, 1) := by decide +kernel
theorem dX12_tagEnds_57 : decode cX12_tagEnds 57 = .ok (.ishr, 1) := by decide +kernel
theorem dX12_tagEnds_58 : decode cX12_tagEnds 58 = .ok (.sipush 255, 3) := by decide +kernel
theorem dX12_tagEnds_61 : decode cX12_tagEnds 61 = .ok (.iand, 1) := by decide +kernel
theorem dX12_tagEnds_62 : decode cX12_tagEnds 62 = .ok (.iastore, 1) := by decide +kernel
theorem dX12_tagEnds_63 : decode cX12_tagEnds 63 = .ok (.iinc 3 1, 3) := by decide +kernel
theorem dX12_tagEnds_66 : decode cX12_tagEnds 66 = .ok (.goto (-43), 3) := by decide +kernel
theorem dX12_tagEnds_69 : decode cX12_tagEnds 69 = .ok (.aload_n 0, 1) := by decide +kernel
theorem dX12_tagEnds_70 : decode cX12_tagEnds 70 = .ok (.getfield 186, 3) := by decide +kernel
theorem dX12_tagEnds_73 : decode cX12_tagEnds 73 = .ok (.bipush 16, 2) := by decide +kernel
theorem dX12_tagEnds_75 : decode cX12_tagEnds 75 = .ok (.iconst 1, 1) := by decide +kernel
theorem dX12_tagEnds_76 : decode cX12_tagEnds 76 = .ok (.iastore, 1) := by decide +kernel
theorem dX12_tagEnds_77 : decode cX12_tagEnds 77 = .ok (.aload_n 0, 1) := by decide +kernel
theorem dX12_tagEnds_78 : decode cX12_tagEnds 78 = .ok (.invokevirtual 346, 3) := by decide +kernel
theorem dX12_tagEnds_81 : decode cX12_tagEnds 81 = .ok (.iconst 0, 1) := by decide +kernel
theorem dX12_tagEnds_82 : decode cX12_tagEnds 82 = .ok (.istore_n 3, 1) := by decide +kernel
theorem dX12_tagEnds_83 : decode cX12_tagEnds 83 = .ok (.iload_n 3, 1) := by decide +kernel
theorem dX12_tagEnds_84 : decode cX12_tagEnds 84 = .ok (.bipush 17, 2) := by decide +kernel
theorem dX12_tagEnds_86 : decode cX12_tagEnds 86 = .ok (.if_icmp .ge 48, 3) := by decide +kernel
theorem dX12_tagEnds_89 : decode cX12_tagEnds 89 = .ok (.aload_n 0, 1) := by decide +kernel
theorem dX12_tagEnds_90 : decode cX12_tagEnds 90 = .ok (.getfield 192, 3) := by decide +kernel
theorem dX12_tagEnds_93 : decode cX12_tagEnds 93 = .ok (.iload_n 3, 1) := by decide +kernel
theorem dX12_tagEnds_94 : decode cX12_tagEnds 94 = .ok (.aload_n 0, 1) := by decide +kernel
theorem dX12_tagEnds_95 : decode cX12_tagEnds 95 = .ok (.getfield 180, 3) := by decide +kernel
theorem dX12_tagEnds_98 : decode cX12_tagEnds 98 = .ok (.iload_n 3, 1) := by decide +kernel
theorem dX12_tagEnds_99 : decode cX12_tagEnds 99 = .ok (.iaload, 1) := by decide +kernel
theorem dX12_tagEnds_100 : decode cX12_tagEnds 100 = .ok (.iastore, 1) := by decide +kernel
theorem dX12_tagEnds_101 : decode cX12_tagEnds 101 = .ok (.aload_n 0, 1) := by decide +kernel
theorem dX12_tagEnds_102 : decode cX12_tagEnds 102 = .ok (.getfield 186, 3) := by decide +kernel
theorem dX12_tagEnds_105 : decode cX12_tagEnds 105 = .ok (.iload_n 3, 1) := by decide +kernel
theorem dX12_tagEnds_106 : decode cX12_tagEnds 106 = .ok (.iload_n 3, 1) := by decide +kernel
theorem dX12_tagEnds_107 : decode cX12_tagEnds 107 = .ok (.ifCond .ne 7, 3) := by decide +kernel
theorem dX12_tagEnds_110 : decode cX12_tagEnds 110 = .ok (.iconst 5, 1) := by decide +kernel
theorem dX12_tagEnds_111 : decode cX12_tagEnds 111 = .ok (.goto 16, 3) := by decide +kernel
theorem dX12_tagEnds_114 : decode cX12_tagEnds 114 = .ok (.iload_n 3, 1) := by decide +kernel
theorem dX12_tagEnds_115 : decode cX12_tagEnds 115 = .ok (.bipush 16, 2) := by decide +kernel
theorem dX12_tagEnds_117 : decode cX12_tagEnds 117 = .ok (.if_icmp .ne 9, 3) := by decide +kernel
theorem dX12_tagEnds_120 : decode cX12_tagEnds 120 = .ok (.sipush 252, 3) := by decide +kernel
theorem dX12_tagEnds_123 : decode cX12_tagEnds 123 = .ok (.goto 4, 3) := by decide +kernel
theorem dX12_tagEnds_126 : decode cX12_tagEnds 126 = .ok (.iconst 0, 1) := by decide +kernel
theorem dX12_tagEnds_127 : decode cX12_tagEnds 127 = .ok (.iastore, 1) := by decide +kernel
theorem dX12_tagEnds_128 : decode cX12_tagEnds 128 = .ok (.iinc 3 1, 3) := by decide +kernel
theorem dX12_tagEnds_131 : decode cX12_tagEnds 131 = .ok (.goto (-48), 3) := by decide +kernel
theorem dX12_tagEnds_134 : decode cX12_tagEnds 134 = .ok (.aload_n 0, 1) := by decide +kernel
theorem dX12_tagEnds_135 : decode cX12_tagEnds 135 = .ok (.aload_n 0, 1) := by decide +kernel
theorem dX12_tagEnds_136 : decode cX12_tagEnds 136 = .ok (.getfield 186, 3) := by decide +kernel
theorem dX12_tagEnds_139 : decode cX12_tagEnds 139 = .ok (.invokevirtual 342, 3) := by decide +kernel
theorem dX12_tagEnds_142 : decode cX12_tagEnds 142 = .ok (.aload_n 0, 1) := by decide +kernel
theorem dX12_tagEnds_143 : decode cX12_tagEnds 143 = .ok (.getfield 180, 3) := by decide +kernel
theorem dX12_tagEnds_146 : decode cX12_tagEnds 146 = .ok (.bipush 16, 2) := by decide +kernel
theorem dX12_tagEnds_148 : decode cX12_tagEnds 148 = .ok (.iaload, 1) := by decide +kernel
theorem dX12_tagEnds_149 : decode cX12_tagEnds 149 = .ok (.bipush 7, 2) := by decide +kernel
theorem dX12_tagEnds_151 : decode cX12_tagEnds 151 = .ok (.ishr, 1) := by decide +kernel
theorem dX12_tagEnds_152 : decode cX12_tagEnds 152 = .ok (.iconst 1, 1) := by decide +kernel
theorem dX12_tagEnds_153 : decode cX12_tagEnds 153 = .ok (.if_icmp .ne 29, 3) := by decide +kernel
theorem dX12_tagEnds_156 : decode cX12_tagEnds 156 = .ok (.iconst 0, 1) := by decide +kernel
theorem dX12_tagEnds_157 : decode cX12_tagEnds 157 = .ok (.istore_n 3, 1) := by decide +kernel
theorem dX12_tagEnds_158 : decode cX12_tagEnds 158 = .ok (.iload_n 3, 1) := by decide +kernel
theorem dX12_tagEnds_159 : decode cX12_tagEnds 159 = .ok (.bipush 17, 2) := by decide +kernel
theorem dX12_tagEnds_161 : decode cX12_tagEnds 161 = .ok (.if_icmp .ge 21, 3) := by decide +kernel
theorem dX12_tagEnds_164 : decode cX12_tagEnds 164 = .ok (.aload_n 0, 1) := by decide +kernel
theorem dX12_tagEnds_165 : decode cX12_tagEnds 165 = .ok (.getfield 180, 3) := by decide +kernel
theorem dX12_tagEnds_168 : decode cX12_tagEnds 168 = .ok (.iload_n 3, 1) := by decide +kernel
theorem dX12_tagEnds_169 : decode cX12_tagEnds 169 = .ok (.aload_n 0, 1) := by decide +kernel
theorem dX12_tagEnds_170 : decode cX12_tagEnds 170 = .ok (.getfield 192, 3) := by decide +kernel
theorem dX12_tagEnds_173 : decode cX12_tagEnds 173 = .ok (.iload_n 3, 1) := by decide +kernel
theorem dX12_tagEnds_174 : decode cX12_tagEnds 174 = .ok (.iaload, 1) := by decide +kernel
theorem dX12_tagEnds_175 : decode cX12_tagEnds 175 = .ok (.iastore, 1) := by decide +kernel
theorem dX12_tagEnds_176 : decode cX12_tagEnds 176 = .ok (.iinc 3 1, 3) := by decide +kernel
theorem dX12_tagEnds_179 : decode cX12_tagEnds 179 = .ok (.goto (-21), 3) := by decide +kernel
theorem dX12_tagEnds_182 : decode cX12_tagEnds 182 = .ok (.iconst 0, 1) := by decide +kernel
theorem dX12_tagEnds_183 : decode cX12_tagEnds 183 = .ok (.istore_n 3, 1) := by decide +kernel
theorem dX12_tagEnds_184 : decode cX12_tagEnds 184 = .ok (.iload_n 3, 1) := by decide +kernel
theorem dX12_tagEnds_185 : decode cX12_tagEnds 185 = .ok (.bipush 17, 2) := by decide +kernel
theorem dX12_tagEnds_187 : decode cX12_tagEnds 187 = .ok (.if_icmp .ge 38, 3) := by decide +kernel
theorem dX12_tagEnds_190 : decode cX12_tagEnds 190 = .ok (.aload_n 0, 1) := by decide +kernel
theorem dX12_tagEnds_191 : decode cX12_tagEnds 191 = .ok (.getfield 186, 3) := by decide +kernel
theorem dX12_tagEnds_194 : decode cX12_tagEnds 194 = .ok (.iload_n 3, 1) := by decide +kernel
theorem dX12_tagEnds_195 : decode cX12_tagEnds 195 = .ok (.iload_n 3, 1) := by decide +kernel
theorem dX12_tagEnds_196 : decode cX12_tagEnds 196 = .ok (.bipush 16, 2) := by decide +kernel
theorem dX12_tagEnds_198 : decode cX12_tagEnds 198 = .ok (.if_icmp .ge 19, 3) := by decide +kernel
theorem dX12_tagEnds_201 : decode cX12_tagEnds 201 = .ok (.aload_n 0, 1) := by decide +kernel
theorem dX12_tagEnds_202 : decode cX12_tagEnds 202 = .ok (.getfield 195, 3) := by decide +kernel
theorem dX12_tagEnds_205 : decode cX12_tagEnds 205 = .ok (.bipush 16, 2) := by decide +kernel
theorem dX12_tagEnds_207 : decode cX12_tagEnds 207 = .ok (.iload_n 3, 1) := by decide +kernel
theorem dX12_tagEnds_208 : decode cX12_tagEnds 208 = .ok (.iadd, 1) := by decide +kernel
theorem dX12_tagEnds_209 : decode cX12_tagEnds 209 = .ok (.baload, 1) := by decide +kernel
theorem dX12_tagEnds_210 : decode cX12_tagEnds 210 = .ok (.sipush 255, 3) := by decide +kernel
theorem dX12_tagEnds_213 : decode cX12_tagEnds 213 = .ok (.iand, 1) := by decide +kernel
theorem dX12_tagEnds_214 : decode cX12_tagEnds 214 = .ok (.goto 4, 3) := by decide +kernel
theorem dX12_tagEnds_217 : decode cX12_tagEnds 217 = .ok (.iconst 0, 1) := by decide +kernel
theorem dX12_tagEnds_218 : decode cX12_tagEnds 218 = .ok (.iastore, 1) := by decide +kernel
theorem dX12_tagEnds_219 : decode cX12_tagEnds 219 = .ok (.iinc 3 1, 3) := by decide +kernel
theorem dX12_tagEnds_222 : decode cX12_tagEnds 222 = .ok (.goto (-38), 3) := by decide +kernel
theorem dX12_tagEnds_225 : decode cX12_tagEnds 225 = .ok (.aload_n 0, 1) := by decide +kernel
theorem dX12_tagEnds_226 : decode cX12_tagEnds 226 = .ok (.aload_n 0, 1) := by decide +kernel
theorem dX12_tagEnds_227 : decode cX12_tagEnds 227 = .ok (.getfield 186, 3) := by decide +kernel
theorem dX12_tagEnds_230 : decode cX12_tagEnds 230 = .ok (.invokevirtual 342, 3) := by decide +kernel
theorem dX12_tagEnds_233 : decode cX12_tagEnds 233 = .ok (.iconst 0, 1) := by decide +kernel
theorem dX12_tagEnds_234 : decode cX12_tagEnds 234 = .ok (.istore_n 3, 1) := by decide +kernel
theorem dX12_tagEnds_235 : decode cX12_tagEnds 235 = .ok (.iload_n 3, 1) := by decide +kernel
theorem dX12_tagEnds_236 : decode cX12_tagEnds 236 = .ok (.bipush 16, 2) := by decide +kernel
theorem dX12_tagEnds_238 : decode cX12_tagEnds 238 = .ok (.if_icmp .ge 22, 3) := by decide +kernel
theorem dX12_tagEnds_241 : decode cX12_tagEnds 241 = .ok (.aload_n 0, 1) := by decide +kernel
theorem dX12_tagEnds_242 : decode cX12_tagEnds 242 = .ok (.getfield 198, 3) := by decide +kernel
theorem dX12_tagEnds_245 : decode cX12_tagEnds 245 = .ok (.iload_n 3, 1) := by decide +kernel
theorem dX12_tagEnds_246 : decode cX12_tagEnds 246 = .ok (.aload_n 0, 1) := by decide +kernel
theorem dX12_tagEnds_247 : decode cX12_tagEnds 247 = .ok (.getfield 180, 3) := by decide +kernel
theorem dX12_tagEnds_250 : decode cX12_tagEnds 250 = .ok (.iload_n 3, 1) := by decide +kernel
theorem dX12_tagEnds_251 : decode cX12_tagEnds 251 = .ok (.iaload, 1) := by decide +kernel
theorem dX12_tagEnds_252 : decode cX12_tagEnds 252 = .ok (.i2b, 1) := by decide +kernel
theorem dX12_tagEnds_253 : decode cX12_tagEnds 253 = .ok (.bastore, 1) := by decide +kernel
theorem dX12_tagEnds_254 : decode cX12_tagEnds 254 = .ok (.iinc 3 1, 3) := by decide +kernel
theorem dX12_tagEnds_257 : decode cX12_tagEnds 257 = .ok (.goto (-22), 3) := by decide +kernel
theorem dX12_tagEnds_260 : decode cX12_tagEnds 260 = .ok (.return_, 1) := by decide +kernel
theorem dX12_mixes_0 : decode cX12_mixes 0 = .ok (.iconst 0, 1) := by decide +kernel
theorem dX12_mixes_1 : decode cX12_mixes 1 = .ok (.istore 10, 2) := by decide +kernel
theorem dX12_mixes_3 : decode cX12_mixes 3 = .ok (.iload 10, 2) := by decide +kernel
theorem dX12_mixes_5 : decode cX12_mixes 5 = .ok (.iload 7, 2) := by decide +kernel
theorem dX12_mixes_7 : decode cX12_mixes 7 = .ok (.if_icmp .ge 59, 3) := by decide +kernel
theorem dX12_mixes_10 : decode cX12_mixes 10 = .ok (.iload 10, 2) := by decide +kernel
theorem dX12_mixes_12 : decode cX12_mixes 12 = .ok (.bipush 64, 2) := by decide +kernel
theorem dX12_mixes_14 : decode cX12_mixes 14 = .ok (.irem, 1) := by decide +kernel
theorem dX12_mixes_15 : decode cX12_mixes 15 = .ok (.ifCond .ne 17, 3) := by decide +kernel
theorem dX12_mixes_18 : decode cX12_mixes 18 = .ok (.aload_n 0, 1) := by decide +kernel
theorem dX12_mixes_19 : decode cX12_mixes 19 = .ok (.aload_n 1, 1) := by decide +kernel
theorem dX12_mixes_20 : decode cX12_mixes 20 = .ok (.iload_n 2, 1) := by decide +kernel
theorem dX12_mixes_21 : decode cX12_mixes 21 = .ok (.iconst 1, 1) := by decide +kernel
theorem dX12_mixes_22 : decode cX12_mixes 22 = .ok (.iload 10, 2) := by decide +kernel
theorem dX12_mixes_24 : decode cX12_mixes 24 = .ok (.bipush 64, 2) := by decide +kernel
theorem dX12_mixes_26 : decode cX12_mixes 26 = .ok (.idiv, 1) := by decide +kernel
theorem dX12_mixes_27 : decode cX12_mixes 27 = .ok (.iadd, 1) := by decide +kernel
theorem dX12_mixes_28 : decode cX12_mixes 28 = .ok (.lload_n 3, 1) := by decide +kernel
theorem dX12_mixes_29 : decode cX12_mixes 29 = .ok (.invokevirtual 338, 3) := by decide +kernel
theorem dX12_mixes_32 : decode cX12_mixes 32 = .ok (.aload 8, 2) := by decide +kernel
theorem dX12_mixes_34 : decode cX12_mixes 34 = .ok (.iload 9, 2) := by decide +kernel
theorem dX12_mixes_36 : decode cX12_mixes 36 = .ok (.iload 10, 2) := by decide +kernel
theorem dX12_mixes_38 : decode cX12_mixes 38 = .ok (.iadd, 1) := by decide +kernel
theorem dX12_mixes_39 : decode cX12_mixes 39 = .ok (.aload 5, 2) := by decide +kernel
theorem dX12_mixes_41 : decode cX12_mixes 41 = .ok (.iload 6, 2) := by decide +kernel
theorem dX12_mixes_43 : decode cX12_mixes 43 = .ok (.iload 10, 2) := by decide +kernel
theorem dX12_mixes_45 : decode cX12_mixes 45 = .ok (.iadd, 1) := by decide +kernel
theorem dX12_mixes_46 : decode cX12_mixes 46 = .ok (.baload, 1) := by decide +kernel
theorem dX12_mixes_47 : decode cX12_mixes 47 = .ok (.aload_n 0, 1) := by decide +kernel
theorem dX12_mixes_48 : decode cX12_mixes 48 = .ok (.getfield 177, 3) := by decide +kernel
theorem dX12_mixes_51 : decode cX12_mixes 51 = .ok (.iload 10, 2) := by decide +kernel
theorem dX12_mixes_53 : decode cX12_mixes 53 = .ok (.bipush 64, 2) := by decide +kernel
theorem dX12_mixes_55 : decode cX12_mixes 55 = .ok (.irem, 1) := by decide +kernel
theorem dX12_mixes_56 : decode cX12_mixes 56 = .ok (.baload, 1) := by decide +kernel
theorem dX12_mixes_57 : decode cX12_mixes 57 = .ok (.ixor, 1) := by decide +kernel
theorem dX12_mixes_58 : decode cX12_mixes 58 = .ok (.i2b, 1) := by decide +kernel
theorem dX12_mixes_59 : decode cX12_mixes 59 = .ok (.bastore, 1) := by decide +kernel
theorem dX12_mixes_60 : decode cX12_mixes 60 = .ok (.iinc 10 1, 3) := by decide +kernel
theorem dX12_mixes_63 : decode cX12_mixes 63 = .ok (.goto (-60), 3) := by decide +kernel
theorem dX12_mixes_66 : decode cX12_mixes 66 = .ok (.return_, 1) := by decide +kernel
theorem dX12_seals_0 : decode cX12_seals 0 = .ok (.aload_n 0, 1) := by decide +kernel
theorem dX12_seals_1 : decode cX12_seals 1 = .ok (.aload_n 1, 1) := by decide +kernel
theorem dX12_seals_2 : decode cX12_seals 2 = .ok (.iload_n 2, 1) := by decide +kernel
theorem dX12_seals_3 : decode cX12_seals 3 = .ok (.lload_n 3, 1) := by decide +kernel
theorem dX12_seals_4 : decode cX12_seals 4 = .ok (.aload 8, 2) := by decide +kernel
theorem dX12_seals_6 : decode cX12_seals 6 = .ok (.iload 9, 2) := by decide +kernel
theorem dX12_seals_8 : decode cX12_seals 8 = .ok (.iload 10, 2) := by decide +kernel
theorem dX12_seals_10 : decode cX12_seals 10 = .ok (.aload 11, 2) := by decide +kernel
theorem dX12_seals_12 : decode cX12_seals 12 = .ok (.iload 12, 2) := by decide +kernel
theorem dX12_seals_14 : decode cX12_seals 14 = .ok (.invokevirtual 349, 3) := by decide +kernel
theorem dX12_seals_17 : decode cX12_seals 17 = .ok (.aload_n 0, 1) := by decide +kernel
theorem dX12_seals_18 : decode cX12_seals 18 = .ok (.aload_n 1, 1) := by decide +kernel
theorem dX12_seals_19 : decode cX12_seals 19 = .ok (.iload_n 2, 1) := by decide +kernel
theorem dX12_seals_20 : decode cX12_seals 20 = .ok (.lload_n 3, 1) := by decide +kernel
theorem dX12_seals_21 : decode cX12_seals 21 = .ok (.invokevirtual 353, 3) := by decide +kernel
theorem dX12_seals_24 : decode cX12_seals 24 = .ok (.aload_n 0, 1) := by decide +kernel
theorem dX12_seals_25 : decode cX12_seals 25 = .ok (.aload 5, 2) := by decide +kernel
theorem dX12_seals_27 : decode cX12_seals 27 = .ok (.iload 6, 2) := by decide +kernel
theorem dX12_seals_29 : decode cX12_seals 29 = .ok (.iload 7, 2) := by decide +kernel
theorem dX12_seals_31 : decode cX12_seals 31 = .ok (.invokevirtual 357, 3) := by decide +kernel
theorem dX12_seals_34 : decode cX12_seals 34 = .ok (.aload_n 0, 1) := by decide +kernel
theorem dX12_seals_35 : decode cX12_seals 35 = .ok (.aload 11, 2) := by decide +kernel
theorem dX12_seals_37 : decode cX12_seals 37 = .ok (.iload 12, 2) := by decide +kernel
theorem dX12_seals_39 : decode cX12_seals 39 = .ok (.iload 10, 2) := by decide +kernel
theorem dX12_seals_41 : decode cX12_seals 41 = .ok (.invokevirtual 357, 3) := by decide +kernel
theorem dX12_seals_44 : decode cX12_seals 44 = .ok (.aload_n 0, 1) := by decide +kernel
theorem dX12_seals_45 : decode cX12_seals 45 = .ok (.iload 7, 2) := by decide +kernel
theorem dX12_seals_47 : decode cX12_seals 47 = .ok (.iload 10, 2) := by decide +kernel
theorem dX12_seals_49 : decode cX12_seals 49 = .ok (.invokevirtual 360, 3) := by decide +kernel
theorem dX12_seals_52 : decode cX12_seals 52 = .ok (.aload_n 0, 1) := by decide +kernel
theorem dX12_seals_53 : decode cX12_seals 53 = .ok (.getfield 198, 3) := by decide +kernel
theorem dX12_seals_56 : decode cX12_seals 56 = .ok (.iconst 0, 1) := by decide +kernel
theorem dX12_seals_57 : decode cX12_seals 57 = .ok (.aload 11, 2) := by decide +kernel
theorem dX12_seals_59 : decode cX12_seals 59 = .ok (.iload 12, 2) := by decide +kernel
theorem dX12_seals_61 : decode cX12_seals 61 = .ok (.iload 10, 2) := by decide +kernel
theorem dX12_seals_63 : decode cX12_seals 63 = .ok (.iadd, 1) := by decide +kernel
theorem dX12_seals_64 : decode cX12_seals 64 = .ok (.bipush 16, 2) := by decide +kernel
theorem dX12_seals_66 : decode cX12_seals 66 = .ok (.invokestatic 265, 3) := by decide +kernel
theorem dX12_seals_69 : decode cX12_seals 69 = .ok (.return_, 1) := by decide +kernel
theorem dX12_opens_0 : decode cX12_opens 0 = .ok (.iload 10, 2) := by decide +kernel
theorem dX12_opens_2 : decode cX12_opens 2 = .ok (.bipush 16, 2) := by decide +kernel
theorem dX12_opens_4 : decode cX12_opens 4 = .ok (.if_icmp .ge 5, 3) := by decide +kernel
theorem dX12_opens_7 : decode cX12_opens 7 = .ok (.iconst 0, 1) := by decide +kernel
theorem dX12_opens_8 : decode cX12_opens 8 = .ok (.ireturn, 1) := by decide +kernel
theorem dX12_opens_9 : decode cX12_opens 9 = .ok (.aload_n 0, 1) := by decide +kernel
theorem dX12_opens_10 : decode cX12_opens 10 = .ok (.aload_n 1, 1) := by decide +kernel
theorem dX12_opens_11 : decode cX12_opens 11 = .ok (.iload_n 2, 1) := by decide +kernel
theorem dX12_opens_12 : decode cX12_opens 12 = .ok (.lload_n 3, 1) := by decide +kernel
theorem dX12_opens_13 : decode cX12_opens 13 = .ok (.invokevirtual 353, 3) := by decide +kernel
theorem dX12_opens_16 : decode cX12_opens 16 = .ok (.aload_n 0, 1) := by decide +kernel
theorem dX12_opens_17 : decode cX12_opens 17 = .ok (.aload 5, 2) := by decide +kernel
theorem dX12_opens_19 : decode cX12_opens 19 = .ok (.iload 6, 2) := by decide +kernel
theorem dX12_opens_21 : decode cX12_opens 21 = .ok (.iload 7, 2) := by decide +kernel
theorem dX12_opens_23 : decode cX12_opens 23 = .ok (.invokevirtual 357, 3) := by decide +kernel
theorem dX12_opens_26 : decode cX12_opens 26 = .ok (.aload_n 0, 1) := by decide +kernel
theorem dX12_opens_27 : decode cX12_opens 27 = .ok (.aload 8, 2) := by decide +kernel
theorem dX12_opens_29 : decode cX12_opens 29 = .ok (.iload 9, 2) := by decide +kernel
theorem dX12_opens_31 : decode cX12_opens 31 = .ok (.iload 10, 2) := by decide +kernel
theorem dX12_opens_33 : decode cX12_opens 33 = .ok (.bipush 16, 2) := by decide +kernel
theorem dX12_opens_35 : decode cX12_opens 35 = .ok (.isub, 1) := by decide +kernel
theorem dX12_opens_36 : decode cX12_opens 36 = .ok (.invokevirtual 357, 3) := by decide +kernel
theorem dX12_opens_39 : decode cX12_opens 39 = .ok (.aload_n 0, 1) := by decide +kernel
theorem dX12_opens_40 : decode cX12_opens 40 = .ok (.iload 7, 2) := by decide +kernel
theorem dX12_opens_42 : decode cX12_opens 42 = .ok (.iload 10, 2) := by decide +kernel
theorem dX12_opens_44 : decode cX12_opens 44 = .ok (.bipush 16, 2) := by decide +kernel
theorem dX12_opens_46 : decode cX12_opens 46 = .ok (.isub, 1) := by decide +kernel
theorem dX12_opens_47 : decode cX12_opens 47 = .ok (.invokevirtual 360, 3) := by decide +kernel
theorem dX12_opens_50 : decode cX12_opens 50 = .ok (.iconst 0, 1) := by decide +kernel
theorem dX12_opens_51 : decode cX12_opens 51 = .ok (.istore 13, 2) := by decide +kernel
theorem dX12_opens_53 : decode cX12_opens 53 = .ok (.iload 13, 2) := by decide +kernel
theorem dX12_opens_55 : decode cX12_opens 55 = .ok (.bipush 16, 2) := by decide +kernel
theorem dX12_opens_57 : decode cX12_opens 57 = .ok (.if_icmp .ge 35, 3) := by decide +kernel
theorem dX12_opens_60 : decode cX12_opens 60 = .ok (.aload_n 0, 1) := by decide +kernel
theorem dX12_opens_61 : decode cX12_opens 61 = .ok (.getfield 198, 3) := by decide +kernel
theorem dX12_opens_64 : decode cX12_opens 64 = .ok (.iload 13, 2) := by decide +kernel
theorem dX12_opens_66 : decode cX12_opens 66 = .ok (.baload, 1) := by decide +kernel
theorem dX12_opens_67 : decode cX12_opens 67 = .ok (.aload 8, 2) := by decide +kernel
theorem dX12_opens_69 : decode cX12_opens 69 = .ok (.iload 9, 2) := by decide +kernel
theorem dX12_opens_71 : decode cX12_opens 71 = .ok (.iload 10, 2) := by decide +kernel
theorem dX12_opens_73 : decode cX12_opens 73 = .ok (.iadd, 1) := by decide +kernel
theorem dX12_opens_74 : decode cX12_opens 74 = .ok (.bipush 16, 2) := by decide +kernel
theorem dX12_opens_76 : decode cX12_opens 76 = .ok (.isub, 1) := by decide +kernel
theorem dX12_opens_77 : decode cX12_opens 77 = .ok (.iload 13, 2) := by decide +kernel
theorem dX12_opens_79 : decode cX12_opens 79 = .ok (.iadd, 1) := by decide +kernel
theorem dX12_opens_80 : decode cX12_opens 80 = .ok (.baload, 1) := by decide +kernel
theorem dX12_opens_81 : decode cX12_opens 81 = .ok (.if_icmp .eq 5, 3) := by decide +kernel
theorem dX12_opens_84 : decode cX12_opens 84 = .ok (.iconst 0, 1) := by decide +kernel
theorem dX12_opens_85 : decode cX12_opens 85 = .ok (.ireturn, 1) := by decide +kernel
theorem dX12_opens_86 : decode cX12_opens 86 = .ok (.iinc 13 1, 3) := by decide +kernel
theorem dX12_opens_89 : decode cX12_opens 89 = .ok (.goto (-36), 3) := by decide +kernel
theorem dX12_opens_92 : decode cX12_opens 92 = .ok (.aload_n 0, 1) := by decide +kernel
theorem dX12_opens_93 : decode cX12_opens 93 = .ok (.aload_n 1, 1) := by decide +kernel
theorem dX12_opens_94 : decode cX12_opens 94 = .ok (.iload_n 2, 1) := by decide +kernel
theorem dX12_opens_95 : decode cX12_opens 95 = .ok (.lload_n 3, 1) := by decide +kernel
theorem dX12_opens_96 : decode cX12_opens 96 = .ok (.aload 8, 2) := by decide +kernel
theorem dX12_opens_98 : decode cX12_opens 98 = .ok (.iload 9, 2) := by decide +kernel
theorem dX12_opens_100 : decode cX12_opens 100 = .ok (.iload 10, 2) := by decide +kernel
theorem dX12_opens_102 : decode cX12_opens 102 = .ok (.bipush 16, 2) := by decide +kernel
theorem dX12_opens_104 : decode cX12_opens 104 = .ok (.isub, 1) := by decide +kernel
theorem dX12_opens_105 : decode cX12_opens 105 = .ok (.aload 11, 2) := by decide +kernel
theorem dX12_opens_107 : decode cX12_opens 107 = .ok (.iload 12, 2) := by decide +kernel
theorem dX12_opens_109 : decode cX12_opens 109 = .ok (.invokevirtual 349, 3) := by decide +kernel
theorem dX12_opens_112 : decode cX12_opens 112 = .ok (.iconst 1, 1) := by decide +kernel
theorem dX12_opens_113 : decode cX12_opens 113 = .ok (.ireturn, 1) := by decide +kernel
theorem dX12_feedOne_0 : decode cX12_feedOne 0 = .ok (.bipush 24, 2) := by decide +kernel
theorem dX12_feedOne_2 : decode cX12_feedOne 2 = .ok (.istore_n 2, 1) := by decide +kernel
theorem dX12_feedOne_3 : decode cX12_feedOne 3 = .ok (.iload_n 2, 1) := by decide +kernel
theorem dX12_feedOne_4 : decode cX12_feedOne 4 = .ok (.ifCond .lt 32, 3) := by decide +kernel
theorem dX12_feedOne_7 : decode cX12_feedOne 7 = .ok (.aload_n 0, 1) := by decide +kernel
theorem dX12_feedOne_8 : decode cX12_feedOne 8 = .ok (.getfield 7, 3) := by decide +kernel
theorem dX12_feedOne_11 : decode cX12_feedOne 11 = .ok (.aload_n 0, 1) := by decide +kernel
theorem dX12_feedOne_12 : decode cX12_feedOne 12 = .ok (.getfield 364, 3) := by decide +kernel
theorem dX12_feedOne_15 : decode cX12_feedOne 15 = .ok (.iload_n 1, 1) := by decide +kernel
theorem dX12_feedOne_16 : decode cX12_feedOne 16 = .ok (.iload_n 2, 1) := by decide +kernel
theorem dX12_feedOne_17 : decode cX12_feedOne 17 = .ok (.ishr, 1) := by decide +kernel
theorem dX12_feedOne_18 : decode cX12_feedOne 18 = .ok (.i2b, 1) := by decide +kernel
theorem dX12_feedOne_19 : decode cX12_feedOne 19 = .ok (.bastore, 1) := by decide +kernel
theorem dX12_feedOne_20 : decode cX12_feedOne 20 = .ok (.aload_n 0, 1) := by decide +kernel
theorem dX12_feedOne_21 : decode cX12_feedOne 21 = .ok (.dup, 1) := by decide +kernel
theorem dX12_feedOne_22 : decode cX12_feedOne 22 = .ok (.getfield 364, 3) := by decide +kernel
theorem dX12_feedOne_25 : decode cX12_feedOne 25 = .ok (.iconst 1, 1) := by decide +kernel
theorem dX12_feedOne_26 : decode cX12_feedOne 26 = .ok (.iadd, 1) := by decide +kernel
theorem dX12_feedOne_27 : decode cX12_feedOne 27 = .ok (.putfield 364, 3) := by decide +kernel
theorem dX12_feedOne_30 : decode cX12_feedOne 30 = .ok (.iinc 2 (-8), 3) := by decide +kernel
theorem dX12_feedOne_33 : decode cX12_feedOne 33 = .ok (.goto (-30), 3) := by decide +kernel
theorem dX12_feedOne_36 : decode cX12_feedOne 36 = .ok (.return_, 1) := by decide +kernel
theorem dX12_feed_0 : decode cX12_feed 0 = .ok (.aload_n 0, 1) := by decide +kernel
theorem dX12_feed_1 : decode cX12_feed 1 = .ok (.getfield 364, 3) := by decide +kernel
theorem dX12_feed_4 : decode cX12_feed 4 = .ok (.bipush 20, 2) := by decide +kernel
theorem dX12_feed_6 : decode cX12_feed 6 = .ok (.iadd, 1) := by decide +kernel
theorem dX12_feed_7 : decode cX12_feed 7 = .ok (.sipush 1000, 3) := by decide +kernel
theorem dX12_feed_10 : decode cX12_feed 10 = .ok (.if_icmp .le 5, 3) := by decide +kernel
theorem dX12_feed_13 : decode cX12_feed 13 = .ok (.iconst (-1), 1) := by decide +kernel
theorem dX12_feed_14 : decode cX12_feed 14 = .ok (.ireturn, 1) := by decide +kernel
theorem dX12_feed_15 : decode cX12_feed 15 = .ok (.aload_n 0, 1) := by decide +kernel
theorem dX12_feed_16 : decode cX12_feed 16 = .ok (.iload_n 1, 1) := by decide +kernel
theorem dX12_feed_17 : decode cX12_feed 17 = .ok (.invokevirtual 367, 3) := by decide +kernel
theorem dX12_feed_20 : decode cX12_feed 20 = .ok (.aload_n 0, 1) := by decide +kernel
theorem dX12_feed_21 : decode cX12_feed 21 = .ok (.iload_n 2, 1) := by decide +kernel
theorem dX12_feed_22 : decode cX12_feed 22 = .ok (.invokevirtual 367, 3) := by decide +kernel
theorem dX12_feed_25 : decode cX12_feed 25 = .ok (.aload_n 0, 1) := by decide +kernel
theorem dX12_feed_26 : decode cX12_feed 26 = .ok (.iload_n 3, 1) := by decide +kernel
theorem dX12_feed_27 : decode cX12_feed 27 = .ok (.invokevirtual 367, 3) := by decide +kernel
theorem dX12_feed_30 : decode cX12_feed 30 = .ok (.aload_n 0, 1) := by decide +kernel
theorem dX12_feed_31 : decode cX12_feed 31 = .ok (.iload 4, 2) := by decide +kernel
theorem dX12_feed_33 : decode cX12_feed 33 = .ok (.invokevirtual 367, 3) := by decide +kernel
theorem dX12_feed_36 : decode cX12_feed 36 = .ok (.aload_n 0, 1) := by decide +kernel
theorem dX12_feed_37 : decode cX12_feed 37 = .ok (.iload 5, 2) := by decide +kernel
theorem dX12_feed_39 : decode cX12_feed 39 = .ok (.invokevirtual 367, 3) := by decide +kernel
theorem dX12_feed_42 : decode cX12_feed 42 = .ok (.aload_n 0, 1) := by decide +kernel
theorem dX12_feed_43 : decode cX12_feed 43 = .ok (.getfield 364, 3) := by decide +kernel
theorem dX12_feed_46 : decode cX12_feed 46 = .ok (.ireturn, 1) := by decide +kernel
theorem dX12_turn_0 : decode cX12_turn 0 = .ok (.aload_n 0, 1) := by decide +kernel
theorem dX12_turn_1 : decode cX12_turn 1 = .ok (.getfield 19, 3) := by decide +kernel
theorem dX12_turn_4 : decode cX12_turn 4 = .ok (.iconst 0, 1) := by decide +kernel
theorem dX12_turn_5 : decode cX12_turn 5 = .ok (.aload_n 0, 1) := by decide +kernel
theorem dX12_turn_6 : decode cX12_turn 6 = .ok (.getfield 7, 3) := by decide +kernel
theorem dX12_turn_9 : decode cX12_turn 9 = .ok (.iconst 0, 1) := by decide +kernel
theorem dX12_turn_10 : decode cX12_turn 10 = .ok (.aload_n 0, 1) := by decide +kernel
theorem dX12_turn_11 : decode cX12_turn 11 = .ok (.getfield 370, 3) := by decide +kernel
theorem dX12_turn_14 : decode cX12_turn 14 = .ok (.invokestatic 265, 3) := by decide +kernel
theorem dX12_turn_17 : decode cX12_turn 17 = .ok (.aload_n 0, 1) := by decide +kernel
theorem dX12_turn_18 : decode cX12_turn 18 = .ok (.aload_n 0, 1) := by decide +kernel
theorem dX12_turn_19 : decode cX12_turn 19 = .ok (.getfield 370, 3) := by decide +kernel
theorem dX12_turn_22 : decode cX12_turn 22 = .ok (.putfield 364, 3) := by decide +kernel
theorem dX12_turn_25 : decode cX12_turn 25 = .ok (.aload_n 0, 1) := by decide +kernel
theorem dX12_turn_26 : decode cX12_turn 26 = .ok (.getfield 364, 3) := by decide +kernel
theorem dX12_turn_29 : decode cX12_turn 29 = .ok (.ireturn, 1) := by decide +kernel
theorem dX12_patch_0 : decode cX12_patch 0 = .ok (.iload_n 1, 1) := by decide +kernel
theorem dX12_patch_1 : decode cX12_patch 1 = .ok (.iconst 0, 1) := by decide +kernel
theorem dX12_patch_2 : decode cX12_patch 2 = .ok (.aload_n 0, 1) := by decide +kernel
theorem dX12_patch_3 : decode cX12_patch 3 = .ok (.getfield 364, 3) := by decide +kernel
theorem dX12_patch_6 : decode cX12_patch 6 = .ok (.iconst 1, 1) := by decide +kernel
theorem dX12_patch_7 : decode cX12_patch 7 = .ok (.isub, 1) := by decide +kernel
theorem dX12_patch_8 : decode cX12_patch 8 = .ok (.invokestatic 373, 3) := by decide +kernel
theorem dX12_patch_11 : decode cX12_patch 11 = .ok (.ifCond .ne 5, 3) := by decide +kernel
theorem dX12_patch_14 : decode cX12_patch 14 = .ok (.iconst 0, 1) := by decide +kernel
theorem dX12_patch_15 : decode cX12_patch 15 = .ok (.ireturn, 1) := by decide +kernel
theorem dX12_patch_16 : decode cX12_patch 16 = .ok (.aload_n 0, 1) := by decide +kernel
theorem dX12_patch_17 : decode cX12_patch 17 = .ok (.getfield 7, 3) := by decide +kernel
theorem dX12_patch_20 : decode cX12_patch 20 = .ok (.iload_n 1, 1) := by decide +kernel
theorem dX12_patch_21 : decode cX12_patch 21 = .ok (.iload_n 2, 1) := by decide +kernel
theorem dX12_patch_22 : decode cX12_patch 22 = .ok (.i2b, 1) := by decide +kernel
theorem dX12_patch_23 : decode cX12_patch 23 = .ok (.bastore, 1) := by decide +kernel
theorem dX12_patch_24 : decode cX12_patch 24 = .ok (.iconst 1, 1) := by decide +kernel
theorem dX12_patch_25 : decode cX12_patch 25 = .ok (.ireturn, 1) := by decide +kernel
theorem dX12_takes_0 : decode cX12_takes 0 = .ok (.aload_n 0, 1) := by decide +kernel
theorem dX12_takes_1 : decode cX12_takes 1 = .ok (.getfield 7, 3) := by decide +kernel
theorem dX12_takes_4 : decode cX12_takes 4 = .ok (.iconst 0, 1) := by decide +kernel
theorem dX12_takes_5 : decode cX12_takes 5 = .ok (.aload_n 0, 1) := by decide +kernel
theorem dX12_takes_6 : decode cX12_takes 6 = .ok (.getfield 13, 3) := by decide +kernel
theorem dX12_takes_9 : decode cX12_takes 9 = .ok (.iconst 0, 1) := by decide +kernel
theorem dX12_takes_10 : decode cX12_takes 10 = .ok (.aload_n 0, 1) := by decide +kernel
theorem dX12_takes_11 : decode cX12_takes 11 = .ok (.getfield 364, 3) := by decide +kernel
theorem dX12_takes_14 : decode cX12_takes 14 = .ok (.invokestatic 265, 3) := by decide +kernel
theorem dX12_takes_17 : decode cX12_takes 17 = .ok (.aload_n 0, 1) := by decide +kernel
theorem dX12_takes_18 : decode cX12_takes 18 = .ok (.iconst 0, 1) := by decide +kernel
theorem dX12_takes_19 : decode cX12_takes 19 = .ok (.putfield 364, 3) := by decide +kernel
theorem dX12_takes_22 : decode cX12_takes 22 = .ok (.return_, 1) := by decide +kernel
theorem dX12_tells_0 : decode cX12_tells 0 = .ok (.aload_n 1, 1) := by decide +kernel
theorem dX12_tells_1 : decode cX12_tells 1 = .ok (.iconst 0, 1) := by decide +kernel
theorem dX12_tells_2 : decode cX12_tells 2 = .ok (.aload_n 0, 1) := by decide +kernel
theorem dX12_tells_3 : decode cX12_tells 3 = .ok (.getfield 19, 3) := by decide +kernel
theorem dX12_tells_6 : decode cX12_tells 6 = .ok (.iconst 0, 1) := by decide +kernel
theorem dX12_tells_7 : decode cX12_tells 7 = .ok (.iload_n 2, 1) := by decide +kernel
theorem dX12_tells_8 : decode cX12_tells 8 = .ok (.invokestatic 265, 3) := by decide +kernel
theorem dX12_tells_11 : decode cX12_tells 11 = .ok (.aload_n 0, 1) := by decide +kernel
theorem dX12_tells_12 : decode cX12_tells 12 = .ok (.iload_n 2, 1) := by decide +kernel
theorem dX12_tells_13 : decode cX12_tells 13 = .ok (.putfield 370, 3) := by decide +kernel
theorem dX12_tells_16 : decode cX12_tells 16 = .ok (.iload_n 2, 1) := by decide +kernel
theorem dX12_tells_17 : decode cX12_tells 17 = .ok (.ireturn, 1) := by decide +kernel
theorem dX12_isKey_0 : decode cX12_isKey 0 = .ok (.iload_n 0, 1) := by decide +kernel
theorem dX12_isKey_1 : decode cX12_isKey 1 = .ok (.iconst 0, 1) := by decide +kernel
theorem dX12_isKey_2 : decode cX12_isKey 2 = .ok (.bipush 7, 2) := by decide +kernel
theorem dX12_isKey_4 : decode cX12_isKey 4 = .ok (.invokestatic 373, 3) := by decide +kernel
theorem dX12_isKey_7 : decode cX12_isKey 7 = .ok (.ireturn, 1) := by decide +kernel
theorem dX12_key_0 : decode cX12_key 0 = .ok (.iload_n 1, 1) := by decide +kernel
theorem dX12_key_1 : decode cX12_key 1 = .ok (.invokestatic 377, 3) := by decide +kernel
theorem dX12_key_4 : decode cX12_key 4 = .ok (.ifCond .eq 12, 3) := by decide +kernel
theorem dX12_key_7 : decode cX12_key 7 = .ok (.aload_n 0, 1) := by decide +kernel
theorem dX12_key_8 : decode cX12_key 8 = .ok (.getfield 364, 3) := by decide +kernel
theorem dX12_key_11 : decode cX12_key 11 = .ok (.bipush 32, 2) := by decide +kernel
theorem dX12_key_13 : decode cX12_key 13 = .ok (.if_icmp .ge 5, 3) := by decide +kernel
theorem dX12_key_16 : decode cX12_key 16 = .ok (.iconst 0, 1) := by decide +kernel
theorem dX12_key_17 : decode cX12_key 17 = .ok (.ireturn, 1) := by decide +kernel
theorem dX12_key_18 : decode cX12_key 18 = .ok (.aload_n 0, 1) := by decide +kernel
theorem dX12_key_19 : decode cX12_key 19 = .ok (.invokevirtual 381, 3) := by decide +kernel
theorem dX12_key_22 : decode cX12_key 22 = .ok (.aload_n 0, 1) := by decide +kernel
theorem dX12_key_23 : decode cX12_key 23 = .ok (.getfield 13, 3) := by decide +kernel
theorem dX12_key_26 : decode cX12_key 26 = .ok (.iconst 0, 1) := by decide +kernel
theorem dX12_key_27 : decode cX12_key 27 = .ok (.aload_n 0, 1) := by decide +kernel
theorem dX12_key_28 : decode cX12_key 28 = .ok (.getfield 22, 3) := by decide +kernel
theorem dX12_key_31 : decode cX12_key 31 = .ok (.bipush 32, 2) := by decide +kernel
theorem dX12_key_33 : decode cX12_key 33 = .ok (.iload_n 1, 1) := by decide +kernel
theorem dX12_key_34 : decode cX12_key 34 = .ok (.imul, 1) := by decide +kernel
theorem dX12_key_35 : decode cX12_key 35 = .ok (.bipush 32, 2) := by decide +kernel
theorem dX12_key_37 : decode cX12_key 37 = .ok (.invokestatic 265, 3) := by decide +kernel
theorem dX12_key_40 : decode cX12_key 40 = .ok (.iconst 1, 1) := by decide +kernel
theorem dX12_key_41 : decode cX12_key 41 = .ok (.ireturn, 1) := by decide +kernel
theorem dX12_take_0 : decode cX12_take 0 = .ok (.iload_n 1, 1) := by decide +kernel
theorem dX12_take_1 : decode cX12_take 1 = .ok (.invokestatic 377, 3) := by decide +kernel
theorem dX12_take_4 : decode cX12_take 4 = .ok (.ifCond .eq 12, 3) := by decide +kernel
theorem dX12_take_7 : decode cX12_take 7 = .ok (.aload_n 0, 1) := by decide +kernel
theorem dX12_take_8 : decode cX12_take 8 = .ok (.getfield 370, 3) := by decide +kernel
theorem dX12_take_11 : decode cX12_take 11 = .ok (.bipush 32, 2) := by decide +kernel
theorem dX12_take_13 : decode cX12_take 13 = .ok (.if_icmp .ge 5, 3) := by decide +kernel
theorem dX12_take_16 : decode cX12_take 16 = .ok (.iconst 0, 1) := by decide +kernel
theorem dX12_take_17 : decode cX12_take 17 = .ok (.ireturn, 1) := by decide +kernel
theorem dX12_take_18 : decode cX12_take 18 = .ok (.aload_n 0, 1) := by decide +kernel
theorem dX12_take_19 : decode cX12_take 19 = .ok (.getfield 19, 3) := by decide +kernel
theorem dX12_take_22 : decode cX12_take 22 = .ok (.iconst 0, 1) := by decide +kernel
theorem dX12_take_23 : decode cX12_take 23 = .ok (.aload_n 0, 1) := by decide +kernel
theorem dX12_take_24 : decode cX12_take 24 = .ok (.getfield 22, 3) := by decide +kernel
theorem dX12_take_27 : decode cX12_take 27 = .ok (.bipush 32, 2) := by decide +kernel
theorem dX12_take_29 : decode cX12_take 29 = .ok (.iload_n 1, 1) := by decide +kernel
theorem dX12_take_30 : decode cX12_take 30 = .ok (.imul, 1) := by decide +kernel
theorem dX12_take_31 : decode cX12_take 31 = .ok (.bipush 32, 2) := by decide +kernel
theorem dX12_take_33 : decode cX12_take 33 = .ok (.invokestatic 265, 3) := by decide +kernel
theorem dX12_take_36 : decode cX12_take 36 = .ok (.iconst 1, 1) := by decide +kernel
theorem dX12_take_37 : decode cX12_take 37 = .ok (.ireturn, 1) := by decide +kernel
theorem dX12_curve_0 : decode cX12_curve 0 = .ok (.iload_n 1, 1) := by decide +kernel
theorem dX12_curve_1 : decode cX12_curve 1 = .ok (.invokestatic 377, 3) := by decide +kernel
theorem dX12_curve_4 : decode cX12_curve 4 = .ok (.ifCond .eq 16, 3) := by decide +kernel
theorem dX12_curve_7 : decode cX12_curve 7 = .ok (.iload_n 2, 1) := by decide +kernel
theorem dX12_curve_8 : decode cX12_curve 8 = .ok (.ifCond .ne 15, 3) := by decide +kernel
theorem dX12_curve_11 : decode cX12_curve 11 = .ok (.aload_n 0, 1) := by decide +kernel
theorem dX12_curve_12 : decode cX12_curve 12 = .ok (.getfield 364, 3) := by decide +kernel
theorem dX12_curve_15 : decode cX12_curve 15 = .ok (.bipush 32, 2) := by decide +kernel
theorem dX12_curve_17 : decode cX12_curve 17 = .ok (.if_icmp .ge 6, 3) := by decide +kernel
theorem dX12_curve_20 : decode cX12_curve 20 = .ok (.bipush (-2), 2) := by decide +kernel
theorem dX12_curve_22 : decode cX12_curve 22 = .ok (.ireturn, 1) := by decide +kernel
theorem dX12_curve_23 : decode cX12_curve 23 = .ok (.iload_n 2, 1) := by decide +kernel
theorem dX12_curve_24 : decode cX12_curve 24 = .ok (.ifCond .eq 18, 3) := by decide +kernel
theorem dX12_curve_27 : decode cX12_curve 27 = .ok (.aload_n 0, 1) := by decide +kernel
theorem dX12_curve_28 : decode cX12_curve 28 = .ok (.aload_n 0, 1) := by decide +kernel
theorem dX12_curve_29 : decode cX12_curve 29 = .ok (.getfield 22, 3) := by decide +kernel
theorem dX12_curve_32 : decode cX12_curve 32 = .ok (.bipush 32, 2) := by decide +kernel
theorem dX12_curve_34 : decode cX12_curve 34 = .ok (.iload_n 1, 1) := by decide +kernel
theorem dX12_curve_35 : decode cX12_curve 35 = .ok (.imul, 1) := by decide +kernel
theorem dX12_curve_36 : decode cX12_curve 36 = .ok (.invokevirtual 384, 3) := by decide +kernel
theorem dX12_curve_39 : decode cX12_curve 39 = .ok (.goto 24, 3) := by decide +kernel
theorem dX12_curve_42 : decode cX12_curve 42 = .ok (.aload_n 0, 1) := by decide +kernel
theorem dX12_curve_43 : decode cX12_curve 43 = .ok (.invokevirtual 381, 3) := by decide +kernel
theorem dX12_curve_46 : decode cX12_curve 46 = .ok (.aload_n 0, 1) := by decide +kernel
theorem dX12_curve_47 : decode cX12_curve 47 = .ok (.aload_n 0, 1) := by decide +kernel
theorem dX12_curve_48 : decode cX12_curve 48 = .ok (.getfield 22, 3) := by decide +kernel
theorem dX12_curve_51 : decode cX12_curve 51 = .ok (.bipush 32, 2) := by decide +kernel
theorem dX12_curve_53 : decode cX12_curve 53 = .ok (.iload_n 1, 1) := by decide +kernel
theorem dX12_curve_54 : decode cX12_curve 54 = .ok (.imul, 1) := by decide +kernel
theorem dX12_curve_55 : decode cX12_curve 55 = .ok (.aload_n 0, 1) := by decide +kernel
theorem dX12_curve_56 : decode cX12_curve 56 = .ok (.getfield 13, 3) := by decide +kernel
theorem dX12_curve_59 : decode cX12_curve 59 = .ok (.iconst 0, 1) := by decide +kernel
theorem dX12_curve_60 : decode cX12_curve 60 = .ok (.invokevirtual 322, 3) := by decide +kernel
theorem dX12_curve_63 : decode cX12_curve 63 = .ok (.aload_n 0, 1) := by decide +kernel
theorem dX12_curve_64 : decode cX12_curve 64 = .ok (.aload_n 0, 1) := by decide +kernel
theorem dX12_curve_65 : decode cX12_curve 65 = .ok (.getfield 165, 3) := by decide +kernel
theorem dX12_curve_68 : decode cX12_curve 68 = .ok (.bipush 32, 2) := by decide +kernel
theorem dX12_curve_70 : decode cX12_curve 70 = .ok (.invokevirtual 388, 3) := by decide +kernel
theorem dX12_curve_73 : decode cX12_curve 73 = .ok (.ireturn, 1) := by decide +kernel
theorem dX12_hash_0 : decode cX12_hash 0 = .ok (.iload_n 1, 1) := by decide +kernel
theorem dX12_hash_1 : decode cX12_hash 1 = .ok (.iconst 0, 1) := by decide +kernel
theorem dX12_hash_2 : decode cX12_hash 2 = .ok (.aload_n 0, 1) := by decide +kernel
theorem dX12_hash_3 : decode cX12_hash 3 = .ok (.getfield 364, 3) := by decide +kernel
theorem dX12_hash_6 : decode cX12_hash 6 = .ok (.invokestatic 373, 3) := by decide +kernel
theorem dX12_hash_9 : decode cX12_hash 9 = .ok (.ifCond .ne 6, 3) := by decide +kernel
theorem dX12_hash_12 : decode cX12_hash 12 = .ok (.bipush (-2), 2) := by decide +kernel
theorem dX12_hash_14 : decode cX12_hash 14 = .ok (.ireturn, 1) := by decide +kernel
theorem dX12_hash_15 : decode cX12_hash 15 = .ok (.aload_n 0, 1) := by decide +kernel
theorem dX12_hash_16 : decode cX12_hash 16 = .ok (.invokevirtual 381, 3) := by decide +kernel
theorem dX12_hash_19 : decode cX12_hash 19 = .ok (.aload_n 0, 1) := by decide +kernel
theorem dX12_hash_20 : decode cX12_hash 20 = .ok (.invokevirtual 269, 3) := by decide +kernel
theorem dX12_hash_23 : decode cX12_hash 23 = .ok (.aload_n 0, 1) := by decide +kernel
theorem dX12_hash_24 : decode cX12_hash 24 = .ok (.aload_n 0, 1) := by decide +kernel
theorem dX12_hash_25 : decode cX12_hash 25 = .ok (.getfield 13, 3) := by decide +kernel
theorem dX12_hash_28 : decode cX12_hash 28 = .ok (.iconst 0, 1) := by decide +kernel
theorem dX12_hash_29 : decode cX12_hash 29 = .ok (.iload_n 1, 1) := by decide +kernel
theorem dX12_hash_30 : decode cX12_hash 30 = .ok (.invokevirtual 272, 3) := by decide +kernel
theorem dX12_hash_33 : decode cX12_hash 33 = .ok (.aload_n 0, 1) := by decide +kernel
theorem dX12_hash_34 : decode cX12_hash 34 = .ok (.invokevirtual 276, 3) := by decide +kernel
theorem dX12_hash_37 : decode cX12_hash 37 = .ok (.aload_n 0, 1) := by decide +kernel
theorem dX12_hash_38 : decode cX12_hash 38 = .ok (.aload_n 0, 1) := by decide +kernel
theorem dX12_hash_39 : decode cX12_hash 39 = .ok (.getfield 116, 3) := by decide +kernel
theorem dX12_hash_42 : decode cX12_hash 42 = .ok (.bipush 32, 2) := by decide +kernel
theorem dX12_hash_44 : decode cX12_hash 44 = .ok (.invokevirtual 388, 3) := by decide +kernel
theorem dX12_hash_47 : decode cX12_hash 47 = .ok (.ireturn, 1) := by decide +kernel
theorem dX12_mac_0 : decode cX12_mac 0 = .ok (.iload_n 1, 1) := by decide +kernel
theorem dX12_mac_1 : decode cX12_mac 1 = .ok (.invokestatic 377, 3) := by decide +kernel
theorem dX12_mac_4 : decode cX12_mac 4 = .ok (.ifCond .eq 15, 3) := by decide +kernel
theorem dX12_mac_7 : decode cX12_mac 7 = .ok (.iload_n 2, 1) := by decide +kernel
theorem dX12_mac_8 : decode cX12_mac 8 = .ok (.iconst 0, 1) := by decide +kernel
theorem dX12_mac_9 : decode cX12_mac 9 = .ok (.aload_n 0, 1) := by decide +kernel
theorem dX12_mac_10 : decode cX12_mac 10 = .ok (.getfield 364, 3) := by decide +kernel
theorem dX12_mac_13 : decode cX12_mac 13 = .ok (.invokestatic 373, 3) := by decide +kernel
theorem dX12_mac_16 : decode cX12_mac 16 = .ok (.ifCond .ne 6, 3) := by decide +kernel
theorem dX12_mac_19 : decode cX12_mac 19 = .ok (.bipush (-2), 2) := by decide +kernel
theorem dX12_mac_21 : decode cX12_mac 21 = .ok (.ireturn, 1) := by decide +kernel
theorem dX12_mac_22 : decode cX12_mac 22 = .ok (.aload_n 0, 1) := by decide +kernel
theorem dX12_mac_23 : decode cX12_mac 23 = .ok (.invokevirtual 381, 3) := by decide +kernel
theorem dX12_mac_26 : decode cX12_mac 26 = .ok (.aload_n 0, 1) := by decide +kernel
theorem dX12_mac_27 : decode cX12_mac 27 = .ok (.aload_n 0, 1) := by decide +kernel
theorem dX12_mac_28 : decode cX12_mac 28 = .ok (.getfield 22, 3) := by decide +kernel
theorem dX12_mac_31 : decode cX12_mac 31 = .ok (.bipush 32, 2) := by decide +kernel
theorem dX12_mac_33 : decode cX12_mac 33 = .ok (.iload_n 1, 1) := by decide +kernel
theorem dX12_mac_34 : decode cX12_mac 34 = .ok (.imul, 1) := by decide +kernel
theorem dX12_mac_35 : decode cX12_mac 35 = .ok (.aload_n 0, 1) := by decide +kernel
theorem dX12_mac_36 : decode cX12_mac 36 = .ok (.getfield 13, 3) := by decide +kernel
theorem dX12_mac_39 : decode cX12_mac 39 = .ok (.iconst 0, 1) := by decide +kernel
theorem dX12_mac_40 : decode cX12_mac 40 = .ok (.iload_n 2, 1) := by decide +kernel
theorem dX12_mac_41 : decode cX12_mac 41 = .ok (.invokevirtual 391, 3) := by decide +kernel
theorem dX12_mac_44 : decode cX12_mac 44 = .ok (.aload_n 0, 1) := by decide +kernel
theorem dX12_mac_45 : decode cX12_mac 45 = .ok (.aload_n 0, 1) := by decide +kernel
theorem dX12_mac_46 : decode cX12_mac 46 = .ok (.getfield 116, 3) := by decide +kernel
theorem dX12_mac_49 : decode cX12_mac 49 = .ok (.bipush 32, 2) := by decide +kernel
theorem dX12_mac_51 : decode cX12_mac 51 = .ok (.invokevirtual 388, 3) := by decide +kernel
theorem dX12_mac_54 : decode cX12_mac 54 = .ok (.ireturn, 1) := by decide +kernel
theorem dX12_seal_0 : decode cX12_seal 0 = .ok (.iload_n 1, 1) := by decide +kernel
theorem dX12_seal_1 : decode cX12_seal 1 = .ok (.invokestatic 377, 3) := by decide +kernel
theorem dX12_seal_4 : decode cX12_seal 4 = .ok (.ifCond .eq 40, 3) := by decide +kernel
theorem dX12_seal_7 : decode cX12_seal 7 = .ok (.iload 4, 2) := by decide +kernel
theorem dX12_seal_9 : decode cX12_seal 9 = .ok (.iconst 0, 1) := by decide +kernel
theorem dX12_seal_10 : decode cX12_seal 10 = .ok (.aload_n 0, 1) := by decide +kernel
theorem dX12_seal_11 : decode cX12_seal 11 = .ok (.getfield 364, 3) := by decide +kernel
theorem dX12_seal_14 : decode cX12_seal 14 = .ok (.invokestatic 373, 3) := by decide +kernel
theorem dX12_seal_17 : decode cX12_seal 17 = .ok (.ifCond .eq 27, 3) := by decide +kernel
theorem dX12_seal_20 : decode cX12_seal 20 = .ok (.iload 5, 2) := by decide +kernel
theorem dX12_seal_22 : decode cX12_seal 22 = .ok (.iconst 0, 1) := by decide +kernel
theorem dX12_seal_23 : decode cX12_seal 23 = .ok (.sipush 984, 3) := by decide +kernel
theorem dX12_seal_26 : decode cX12_seal 26 = .ok (.invokestatic 373, 3) := by decide +kernel
theorem dX12_seal_29 : decode cX12_seal 29 = .ok (.ifCond .eq 15, 3) := by decide +kernel
theorem dX12_seal_32 : decode cX12_seal 32 = .ok (.iload 5, 2) := by decide +kernel
theorem dX12_seal_34 : decode cX12_seal 34 = .ok (.aload_n 0, 1) := by decide +kernel
theorem dX12_seal_35 : decode cX12_seal 35 = .ok (.getfield 364, 3) := by decide +kernel
theorem dX12_seal_38 : decode cX12_seal 38 = .ok (.iload 4, 2) := by decide +kernel
theorem dX12_seal_40 : decode cX12_seal 40 = .ok (.isub, 1) := by decide +kernel
theorem dX12_seal_41 : decode cX12_seal 41 = .ok (.if_icmp .le 6, 3) := by decide +kernel
theorem dX12_seal_44 : decode cX12_seal 44 = .ok (.bipush (-2), 2) := by decide +kernel
theorem dX12_seal_46 : decode cX12_seal 46 = .ok (.ireturn, 1) := by decide +kernel
theorem dX12_seal_47 : decode cX12_seal 47 = .ok (.aload_n 0, 1) := by decide +kernel
theorem dX12_seal_48 : decode cX12_seal 48 = .ok (.invokevirtual 381, 3) := by decide +kernel
theorem dX12_seal_51 : decode cX12_seal 51 = .ok (.aload_n 0, 1) := by decide +kernel
theorem dX12_seal_52 : decode cX12_seal 52 = .ok (.aload_n 0, 1) := by decide +kernel
theorem dX12_seal_53 : decode cX12_seal 53 = .ok (.getfield 22, 3) := by decide +kernel
theorem dX12_seal_56 : decode cX12_seal 56 = .ok (.bipush 32, 2) := by decide +kernel
theorem dX12_seal_58 : decode cX12_seal 58 = .ok (.iload_n 1, 1) := by decide +kernel
theorem dX12_seal_59 : decode cX12_seal 59 = .ok (.imul, 1) := by decide +kernel
theorem dX12_seal_60 : decode cX12_seal 60 = .ok (.lload_n 2, 1) := by decide +kernel
theorem dX12_seal_61 : decode cX12_seal 61 = .ok (.aload_n 0, 1) := by decide +kernel
theorem dX12_seal_62 : decode cX12_seal 62 = .ok (.getfield 13, 3) := by decide +kernel
theorem dX12_seal_65 : decode cX12_seal 65 = .ok (.iconst 0, 1) := by decide +kernel
theorem dX12_seal_66 : decode cX12_seal 66 = .ok (.iload 4, 2) := by decide +kernel
theorem dX12_seal_68 : decode cX12_seal 68 = .ok (.aload_n 0, 1) := by decide +kernel
theorem dX12_seal_69 : decode cX12_seal 69 = .ok (.getfield 13, 3) := by decide +kernel
theorem dX12_seal_72 : decode cX12_seal 72 = .ok (.iload 4, 2) := by decide +kernel
theorem dX12_seal_74 : decode cX12_seal 74 = .ok (.iload 5, 2) := by decide +kernel
theorem dX12_seal_76 : decode cX12_seal 76 = .ok (.aload_n 0, 1) := by decide +kernel
theorem dX12_seal_77 : decode cX12_seal 77 = .ok (.getfield 16, 3) := by decide +kernel
theorem dX12_seal_80 : decode cX12_seal 80 = .ok (.iconst 0, 1) := by decide +kernel
theorem dX12_seal_81 : decode cX12_seal 81 = .ok (.invokevirtual 394, 3) := by decide +kernel
theorem dX12_seal_84 : decode cX12_seal 84 = .ok (.aload_n 0, 1) := by decide +kernel
theorem dX12_seal_85 : decode cX12_seal 85 = .ok (.aload_n 0, 1) := by decide +kernel
theorem dX12_seal_86 : decode cX12_seal 86 = .ok (.getfield 16, 3) := by decide +kernel
theorem dX12_seal_89 : decode cX12_seal 89 = .ok (.iload 5, 2) := by decide +kernel
theorem dX12_seal_91 : decode cX12_seal 91 = .ok (.bipush 16, 2) := by decide +kernel
theorem dX12_seal_93 : decode cX12_seal 93 = .ok (.iadd, 1) := by decide +kernel
theorem dX12_seal_94 : decode cX12_seal 94 = .ok (.invokevirtual 388, 3) := by decide +kernel
theorem dX12_seal_97 : decode cX12_seal 97 = .ok (.ireturn, 1) := by decide +kernel
theorem dX12_open_0 : decode cX12_open 0 = .ok (.iload_n 1, 1) := by decide +kernel
theorem dX12_open_1 : decode cX12_open 1 = .ok (.invokestatic 377, 3) := by decide +kernel
theorem dX12_open_4 : decode cX12_open 4 = .ok (.ifCond .eq 32, 3) := by decide +kernel
theorem dX12_open_7 : decode cX12_open 7 = .ok (.iload 4, 2) := by decide +kernel
theorem dX12_open_9 : decode cX12_open 9 = .ok (.iconst 0, 1) := by decide +kernel
theorem dX12_open_10 : decode cX12_open 10 = .ok (.aload_n 0, 1) := by decide +kernel
theorem dX12_open_11 : decode cX12_open 11 = .ok (.getfield 364, 3) := by decide +kernel
theorem dX12_open_14 : decode cX12_open 14 = .ok (.invokestatic 373, 3) := by decide +kernel
theorem dX12_open_17 : decode cX12_open 17 = .ok (.ifCond .eq 19, 3) := by decide +kernel
theorem dX12_open_20 : decode cX12_open 20 = .ok (.iload 5, 2) := by decide +kernel
theorem dX12_open_22 : decode cX12_open 22 = .ok (.iconst 0, 1) := by decide +kernel
theorem dX12_open_23 : decode cX12_open 23 = .ok (.aload_n 0, 1) := by decide +kernel
theorem dX12_open_24 : decode cX12_open 24 = .ok (.getfield 364, 3) := by decide +kernel
theorem dX12_open_27 : decode cX12_open 27 = .ok (.iload 4, 2) := by decide +kernel
theorem dX12_open_29 : decode cX12_open 29 = .ok (.isub, 1) := by decide +kernel
theorem dX12_open_30 : decode cX12_open 30 = .ok (.invokestatic 373, 3) := by decide +kernel
theorem dX12_open_33 : decode cX12_open 33 = .ok (.ifCond .ne 6, 3) := by decide +kernel
theorem dX12_open_36 : decode cX12_open 36 = .ok (.bipush (-2), 2) := by decide +kernel
theorem dX12_open_38 : decode cX12_open 38 = .ok (.ireturn, 1) := by decide +kernel
theorem dX12_open_39 : decode cX12_open 39 = .ok (.aload_n 0, 1) := by decide +kernel
theorem dX12_open_40 : decode cX12_open 40 = .ok (.invokevirtual 381, 3) := by decide +kernel
theorem dX12_open_43 : decode cX12_open 43 = .ok (.aload_n 0, 1) := by decide +kernel
theorem dX12_open_44 : decode cX12_open 44 = .ok (.aload_n 0, 1) := by decide +kernel
theorem dX12_open_45 : decode cX12_open 45 = .ok (.getfield 22, 3) := by decide +kernel
theorem dX12_open_48 : decode cX12_open 48 = .ok (.bipush 32, 2) := by decide +kernel
theorem dX12_open_50 : decode cX12_open 50 = .ok (.iload_n 1, 1) := by decide +kernel
theorem dX12_open_51 : decode cX12_open 51 = .ok (.imul, 1) := by decide +kernel
theorem dX12_open_52 : decode cX12_open 52 = .ok (.lload_n 2, 1) := by decide +kernel
theorem dX12_open_53 : decode cX12_open 53 = .ok (.aload_n 0, 1) := by decide +kernel
theorem dX12_open_54 : decode cX12_open 54 = .ok (.getfield 13, 3) := by decide +kernel
theorem dX12_open_57 : decode cX12_open 57 = .ok (.iconst 0, 1) := by decide +kernel
theorem dX12_open_58 : decode cX12_open 58 = .ok (.iload 4, 2) := by decide +kernel
theorem dX12_open_60 : decode cX12_open 60 = .ok (.aload_n 0, 1) := by decide +kernel
theorem dX12_open_61 : decode cX12_open 61 = .ok (.getfield 13, 3) := by decide +kernel
theorem dX12_open_64 : decode cX12_open 64 = .ok (.iload 4, 2) := by decide +kernel
theorem dX12_open_66 : decode cX12_open 66 = .ok (.iload 5, 2) := by decide +kernel
theorem dX12_open_68 : decode cX12_open 68 = .ok (.aload_n 0, 1) := by decide +kernel
theorem dX12_open_69 : decode cX12_open 69 = .ok (.getfield 16, 3) := by decide +kernel
theorem dX12_open_72 : decode cX12_open 72 = .ok (.iconst 0, 1) := by decide +kernel
theorem dX12_open_73 : decode cX12_open 73 = .ok (.invokevirtual 398, 3) := by decide +kernel
theorem dX12_open_76 : decode cX12_open 76 = .ok (.ifCond .ne 5, 3) := by decide +kernel
theorem dX12_open_79 : decode cX12_open 79 = .ok (.iconst (-1), 1) := by decide +kernel
theorem dX12_open_80 : decode cX12_open 80 = .ok (.ireturn, 1) := by decide +kernel
theorem dX12_open_81 : decode cX12_open 81 = .ok (.aload_n 0, 1) := by decide +kernel
theorem dX12_open_82 : decode cX12_open 82 = .ok (.aload_n 0, 1) := by decide +kernel
theorem dX12_open_83 : decode cX12_open 83 = .ok (.getfield 16, 3) := by decide +kernel
theorem dX12_open_86 : decode cX12_open 86 = .ok (.iload 5, 2) := by decide +kernel
theorem dX12_open_88 : decode cX12_open 88 = .ok (.bipush 16, 2) := by decide +kernel
theorem dX12_open_90 : decode cX12_open 90 = .ok (.isub, 1) := by decide +kernel
theorem dX12_open_91 : decode cX12_open 91 = .ok (.invokevirtual 388, 3) := by decide +kernel
theorem dX12_open_94 : decode cX12_open 94 = .ok (.ireturn, 1) := by decide +kernel
theorem dX12_isSession_0 : decode cX12_isSession 0 = .ok (.iload_n 1, 1) := by decide +kernel
theorem dX12_isSession_1 : decode cX12_isSession 1 = .ok (.iconst 0, 1) := by decide +kernel
theorem dX12_isSession_2 : decode cX12_isSession 2 = .ok (.iconst 3, 1) := by decide +kernel
theorem dX12_isSession_3 : decode cX12_isSession 3 = .ok (.invokestatic 373, 3) := by decide +kernel
theorem dX12_isSession_6 : decode cX12_isSession 6 = .ok (.ifCond .eq 16, 3) := by decide +kernel
theorem dX12_isSession_9 : decode cX12_isSession 9 = .ok (.aload_n 0, 1) := by decide +kernel
theorem dX12_isSession_10 : decode cX12_isSession 10 = .ok (.getfield 207, 3) := by decide +kernel
theorem dX12_isSession_13 : decode cX12_isSession 13 = .ok (.iload_n 1, 1) := by decide +kernel
theorem dX12_isSession_14 : decode cX12_isSession 14 = .ok (.baload, 1) := by decide +kernel
theorem dX12_isSession_15 : decode cX12_isSession 15 = .ok (.ifCond .eq 7, 3) := by decide +kernel
theorem dX12_isSession_18 : decode cX12_isSession 18 = .ok (.iconst 1, 1) := by decide +kernel
theorem dX12_isSession_19 : decode cX12_isSession 19 = .ok (.goto 4, 3) := by decide +kernel
theorem dX12_isSession_22 : decode cX12_isSession 22 = .ok (.iconst 0, 1) := by decide +kernel
theorem dX12_isSession_23 : decode cX12_isSession 23 = .ok (.ireturn, 1) := by decide +kernel
theorem dX12_start__0 : decode cX12_start_ 0 = .ok (.iload_n 1, 1) := by decide +kernel
theorem dX12_start__1 : decode cX12_start_ 1 = .ok (.iconst 0, 1) := by decide +kernel
theorem dX12_start__2 : decode cX12_start_ 2 = .ok (.iconst 3, 1) := by decide +kernel
theorem dX12_start__3 : decode cX12_start_ 3 = .ok (.invokestatic 373, 3) := by decide +kernel
theorem dX12_start__6 : decode cX12_start_ 6 = .ok (.ifCond .eq 31, 3) := by decide +kernel
theorem dX12_start__9 : decode cX12_start_ 9 = .ok (.iload_n 3, 1) := by decide +kernel
theorem dX12_start__10 : decode cX12_start_ 10 = .ok (.invokestatic 377, 3) := by decide +kernel
theorem dX12_start__13 : decode cX12_start_ 13 = .ok (.ifCond .eq 24, 3) := by decide +kernel
theorem dX12_start__16 : decode cX12_start_ 16 = .ok (.iload 4, 2) := by decide +kernel
theorem dX12_start__18 : decode cX12_start_ 18 = .ok (.invokestatic 377, 3) := by decide +kernel
theorem dX12_start__21 : decode cX12_start_ 21 = .ok (.ifCond .eq 16, 3) := by decide +kernel
theorem dX12_start__24 : decode cX12_start_ 24 = .ok (.iload 5, 2) := by decide +kernel
theorem dX12_start__26 : decode cX12_start_ 26 = .ok (.iconst 0, 1) := by decide +kernel
theorem dX12_start__27 : decode cX12_start_ 27 = .ok (.aload_n 0, 1) := by decide +kernel
theorem dX12_start__28 : decode cX12_start_ 28 = .ok (.getfield 364, 3) := by decide +kernel
theorem dX12_start__31 : decode cX12_start_ 31 = .ok (.invokestatic 373, 3) := by decide +kernel
theorem dX12_start__34 : decode cX12_start_ 34 = .ok (.ifCond .ne 5, 3) := by decide +kernel
theorem dX12_start__37 : decode cX12_start_ 37 = .ok (.iconst 0, 1) := by decide +kernel
theorem dX12_start__38 : decode cX12_start_ 38 = .ok (.ireturn, 1) := by decide +kernel
theorem dX12_start__39 : decode cX12_start_ 39 = .ok (.aload_n 0, 1) := by decide +kernel
theorem dX12_start__40 : decode cX12_start_ 40 = .ok (.invokevirtual 381, 3) := by decide +kernel
theorem dX12_start__43 : decode cX12_start_ 43 = .ok (.sipush 352, 3) := by decide +kernel
theorem dX12_start__46 : decode cX12_start_ 46 = .ok (.iload_n 1, 1) := by decide +kernel
theorem dX12_start__47 : decode cX12_start_ 47 = .ok (.imul, 1) := by decide +kernel
theorem dX12_start__48 : decode cX12_start_ 48 = .ok (.istore 6, 2) := by decide +kernel
theorem dX12_start__50 : decode cX12_start_ 50 = .ok (.iconst 0, 1) := by decide +kernel
theorem dX12_start__51 : decode cX12_start_ 51 = .ok (.istore 7, 2) := by decide +kernel
theorem dX12_start__53 : decode cX12_start_ 53 = .ok (.iload 7, 2) := by decide +kernel
theorem dX12_start__55 : decode cX12_start_ 55 = .ok (.sipush 352, 3) := by decide +kernel
theorem dX12_start__58 : decode cX12_start_ 58 = .ok (.if_icmp .ge 20, 3) := by decide +kernel
theorem dX12_start__61 : decode cX12_start_ 61 = .ok (.aload_n 0, 1) := by decide +kernel
theorem dX12_start__62 : decode cX12_start_ 62 = .ok (.getfield 201, 3) := by decide +kernel
theorem dX12_start__65 : decode cX12_start_ 65 = .ok (.iload 6, 2) := by decide +kernel
theorem dX12_start__67 : decode cX12_start_ 67 = .ok (.iload 7, 2) := by decide +kernel
theorem dX12_start__69 : decode cX12_start_ 69 = .ok (.iadd, 1) := by decide +kernel
theorem dX12_start__70 : decode cX12_start_ 70 = .ok (.iconst 0, 1) := by decide +kernel
theorem dX12_start__71 : decode cX12_start_ 71 = .ok (.bastore, 1) := by decide +kernel
theorem dX12_start__72 : decode cX12_start_ 72 = .ok (.iinc 7 1, 3) := by decide +kernel
theorem dX12_start__75 : decode cX12_start_ 75 = .ok (.goto (-22), 3) := by decide +kernel
theorem dX12_start__78 : decode cX12_start_ 78 = .ok (.aload_n 0, 1) := by decide +kernel
theorem dX12_start__79 : decode cX12_start_ 79 = .ok (.getfield 207, 3) := by decide +kernel
theorem dX12_start__82 : decode cX12_start_ 82 = .ok (.iload_n 1, 1) := by decide +kernel
theorem dX12_start__83 : decode cX12_start_ 83 = .ok (.iconst 1, 1) := by decide +kernel
theorem dX12_start__84 : decode cX12_start_ 84 = .ok (.bastore, 1) := by decide +kernel
theorem dX12_start__85 : decode cX12_start_ 85 = .ok (.aload_n 0, 1) := by decide +kernel
theorem dX12_start__86 : decode cX12_start_ 86 = .ok (.getfield 211, 3) := by decide +kernel
theorem dX12_start__89 : decode cX12_start_ 89 = .ok (.iload_n 1, 1) := by decide +kernel
theorem dX12_start__90 : decode cX12_start_ 90 = .ok (.iload_n 2, 1) := by decide +kernel
theorem dX12_start__91 : decode cX12_start_ 91 = .ok (.bastore, 1) := by decide +kernel
theorem dX12_start__92 : decode cX12_start_ 92 = .ok (.aload_n 0, 1) := by decide +kernel
theorem dX12_start__93 : decode cX12_start_ 93 = .ok (.getfield 214, 3) := by decide +kernel
theorem dX12_start__96 : decode cX12_start_ 96 = .ok (.iload_n 1, 1) := by decide +kernel
theorem dX12_start__97 : decode cX12_start_ 97 = .ok (.iconst 0, 1) := by decide +kernel
theorem dX12_start__98 : decode cX12_start_ 98 = .ok (.bastore, 1) := by decide +kernel
theorem dX12_start__99 : decode cX12_start_ 99 = .ok (.aload_n 0, 1) := by decide +kernel
theorem dX12_start__100 : decode cX12_start_ 100 = .ok (.getfield 217, 3) := by decide +kernel
theorem dX12_start__103 : decode cX12_start_ 103 = .ok (.iload_n 1, 1) := by decide +kernel
theorem dX12_start__104 : decode cX12_start_ 104 = .ok (.iconst 0, 1) := by decide +kernel
theorem dX12_start__105 : decode cX12_start_ 105 = .ok (.bastore, 1) := by decide +kernel
theorem dX12_start__106 : decode cX12_start_ 106 = .ok (.aload_n 0, 1) := by decide +kernel
theorem dX12_start__107 : decode cX12_start_ 107 = .ok (.getfield 220, 3) := by decide +kernel
theorem dX12_start__110 : decode cX12_start_ 110 = .ok (.iload_n 1, 1) := by decide +kernel
theorem dX12_start__111 : decode cX12_start_ 111 = .ok (.iconst 0, 1) := by decide +kernel
theorem dX12_start__112 : decode cX12_start_ 112 = .ok (.bastore, 1) := by decide +kernel
theorem dX12_start__113 : decode cX12_start_ 113 = .ok (.aload_n 0, 1) := by decide +kernel
theorem dX12_start__114 : decode cX12_start_ 114 = .ok (.getfield 223, 3) := by decide +kernel
theorem dX12_start__117 : decode cX12_start_ 117 = .ok (.iload_n 1, 1) := by decide +kernel
theorem dX12_start__118 : decode cX12_start_ 118 = .ok (.iconst 0, 1) := by decide +kernel
theorem dX12_start__119 : decode cX12_start_ 119 = .ok (.iastore, 1) := by decide +kernel
theorem dX12_start__120 : decode cX12_start_ 120 = .ok (.aload_n 0, 1) := by decide +kernel
theorem dX12_start__121 : decode cX12_start_ 121 = .ok (.getfield 226, 3) := by decide +kernel
theorem dX12_start__124 : decode cX12_start_ 124 = .ok (.iload_n 1, 1) := by decide +kernel
theorem dX12_start__125 : decode cX12_start_ 125 = .ok (.iconst 0, 1) := by decide +kernel
theorem dX12_start__126 : decode cX12_start_ 126 = .ok (.iastore, 1) := by decide +kernel
theorem dX12_start__127 : decode cX12_start_ 127 = .ok (.aload_n 0, 1) := by decide +kernel
theorem dX12_start__128 : decode cX12_start_ 128 = .ok (.getfield 229, 3) := by decide +kernel
theorem dX12_start__131 : decode cX12_start_ 131 = .ok (.iload_n 1, 1) := by decide +kernel
theorem dX12_start__132 : decode cX12_start_ 132 = .ok (.lconst 0, 1) := by decide +kernel
theorem dX12_start__133 : decode cX12_start_ 133 = .ok (.lastore, 1) := by decide +kernel
theorem dX12_start__134 : decode cX12_start_ 134 = .ok (.aload_n 0, 1) := by decide +kernel
theorem dX12_start__135 : decode cX12_start_ 135 = .ok (.getfield 232, 3) := by decide +kernel
theorem dX12_start__138 : decode cX12_start_ 138 = .ok (.iload_n 1, 1) := by decide +kernel
theorem dX12_start__139 : decode cX12_start_ 139 = .ok (.lconst 0, 1) := by decide +kernel
theorem dX12_start__140 : decode cX12_start_ 140 = .ok (.lastore, 1) := by decide +kernel
theorem dX12_start__141 : decode cX12_start_ 141 = .ok (.aload_n 0, 1) := by decide +kernel
theorem dX12_start__142 : decode cX12_start_ 142 = .ok (.getfield 235, 3) := by decide +kernel
theorem dX12_start__145 : decode cX12_start_ 145 = .ok (.iload_n 1, 1) := by decide +kernel
theorem dX12_start__146 : decode cX12_start_ 146 = .ok (.lconst 0, 1) := by decide +kernel
theorem dX12_start__147 : decode cX12_start_ 147 = .ok (.lastore, 1) := by decide +kernel
theorem dX12_start__148 : decode cX12_start_ 148 = .ok (.iconst 0, 1) := by decide +kernel
theorem dX12_start__149 : decode cX12_start_ 149 = .ok (.istore 7, 2) := by decide +kernel
theorem dX12_start__151 : decode cX12_start_ 151 = .ok (.iload 7, 2) := by decide +kernel
theorem dX12_start__153 : decode cX12_start_ 153 = .ok (.bipush 32, 2) := by decide +kernel
theorem dX12_start__155 : decode cX12_start_ 155 = .ok (.if_icmp .ge 52, 3) := by decide +kernel
theorem dX12_start__158 : decode cX12_start_ 158 = .ok (.aload_n 0, 1) := by decide +kernel
theorem dX12_start__159 : decode cX12_start_ 159 = .ok (.getfield 201, 3) := by decide +kernel
theorem dX12_start__162 : decode cX12_start_ 162 = .ok (.iload 6, 2) := by decide +kernel
theorem dX12_start__164 : decode cX12_start_ 164 = .ok (.iconst 0, 1) := by decide +kernel
theorem dX12_start__165 : decode cX12_start_ 165 = .ok (.iadd, 1) := by decide +kernel
theorem dX12_start__166 : decode cX12_start_ 166 = .ok (.iload 7, 2) := by decide +kernel
theorem dX12_start__168 : decode cX12_start_ 168 = .ok (.iadd, 1) := by decide +kernel
theorem dX12_start__169 : decode cX12_start_ 169 = .ok (.ldc_w 402, 3) := by decide +kernel
theorem dX12_start__172 : decode cX12_start_ 172 = .ok (.iload 7, 2) := by decide +kernel
theorem dX12_start__174 : decode cX12_start_ 174 = .ok (.invokevirtual 404, 3) := by decide +kernel
theorem dX12_start__177 : decode cX12_start_ 177 = .ok (.i2b, 1) := by decide +kernel
theorem dX12_start__178 : decode cX12_start_ 178 = .ok (.bastore, 1) := by decide +kernel
theorem dX12_start__179 : decode cX12_start_ 179 = .ok (.aload_n 0, 1) := by decide +kernel
theorem dX12_start__180 : decode cX12_start_ 180 = .ok (.getfield 201, 3) := by decide +kernel
theorem dX12_start__183 : decode cX12_start_ 183 = .ok (.iload 6, 2) := by decide +kernel
theorem dX12_start__185 : decode cX12_start_ 185 = .ok (.bipush 32, 2) := by decide +kernel
theorem dX12_start__187 : decode cX12_start_ 187 = .ok (.iadd, 1) := by decide +kernel
theorem dX12_start__188 : decode cX12_start_ 188 = .ok (.iload 7, 2) := by decide +kernel
theorem dX12_start__190 : decode cX12_start_ 190 = .ok (.iadd, 1) := by decide +kernel
theorem dX12_start__191 : decode cX12_start_ 191 = .ok (.ldc_w 402, 3) := by decide +kernel
theorem dX12_start__194 : decode cX12_start_ 194 = .ok (.iload 7, 2) := by decide +kernel
theorem dX12_start__196 : decode cX12_start_ 196 = .ok (.invokevirtual 404, 3) := by decide +kernel
theorem dX12_start__199 : decode cX12_start_ 199 = .ok (.i2b, 1) := by decide +kernel
theorem dX12_start__200 : decode cX12_start_ 200 = .ok (.bastore, 1) := by decide +kernel
theorem dX12_start__201 : decode cX12_start_ 201 = .ok (.iinc 7 1, 3) := by decide +kernel
theorem dX12_start__204 : decode cX12_start_ 204 = .ok (.goto (-53), 3) := by decide +kernel
theorem dX12_start__207 : decode cX12_start_ 207 = .ok (.aload_n 0, 1) := by decide +kernel
theorem dX12_start__208 : decode cX12_start_ 208 = .ok (.iload_n 1, 1) := by decide +kernel
theorem dX12_start__209 : decode cX12_start_ 209 = .ok (.aload_n 0, 1) := by decide +kernel
theorem dX12_start__210 : decode cX12_start_ 210 = .ok (.getfield 13, 3) := by decide +kernel
theorem dX12_start__213 : decode cX12_start_ 213 = .ok (.iconst 0, 1) := by decide +kernel
theorem dX12_start__214 : decode cX12_start_ 214 = .ok (.iload 5, 2) := by decide +kernel
theorem dX12_start__216 : decode cX12_start_ 216 = .ok (.invokevirtual 410, 3) := by decide +kernel
theorem dX12_start__219 : decode cX12_start_ 219 = .ok (.aload_n 0, 1) := by decide +kernel
theorem dX12_start__220 : decode cX12_start_ 220 = .ok (.getfield 22, 3) := by decide +kernel
theorem dX12_start__223 : decode cX12_start_ 223 = .ok (.bipush 32, 2) := by decide +kernel
theorem dX12_start__225 : decode cX12_start_ 225 = .ok (.iload_n 3, 1) := by decide +kernel
theorem dX12_start__226 : decode cX12_start_ 226 = .ok (.imul, 1) := by decide +kernel
theorem dX12_start__227 : decode cX12_start_ 227 = .ok (.aload_n 0, 1) := by decide +kernel
theorem dX12_start__228 : decode cX12_start_ 228 = .ok (.getfield 201, 3) := by decide +kernel
theorem dX12_start__231 : decode cX12_start_ 231 = .ok (.iload 6, 2) := by decide +kernel
theorem dX12_start__233 : decode cX12_start_ 233 = .ok (.sipush 160, 3) := by decide +kernel
theorem dX12_start__236 : decode cX12_start_ 236 = .ok (.iadd, 1) := by decide +kernel
theorem dX12_start__237 : decode cX12_start_ 237 = .ok (.bipush 32, 2) := by decide +kernel
theorem dX12_start__239 : decode cX12_start_ 239 = .ok (.invokestatic 265, 3) := by decide +kernel
theorem dX12_start__242 : decode cX12_start_ 242 = .ok (.aload_n 0, 1) := by decide +kernel
theorem dX12_start__243 : decode cX12_start_ 243 = .ok (.getfield 22, 3) := by decide +kernel
theorem dX12_start__246 : decode cX12_start_ 246 = .ok (.bipush 32, 2) := by decide +kernel
theorem dX12_start__248 : decode cX12_start_ 248 = .ok (.iload 4, 2) := by decide +kernel
theorem dX12_start__250 : decode cX12_start_ 250 = .ok (.imul, 1) := by decide +kernel
theorem dX12_start__251 : decode cX12_start_ 251 = .ok (.aload_n 0, 1) := by decide +kernel
theorem dX12_start__252 : decode cX12_start_ 252 = .ok (.getfield 201, 3) := by decide +kernel
theorem dX12_start__255 : decode cX12_start_ 255 = .ok (.iload 6, 2) := by decide +kernel
theorem dX12_start__257 : decode cX12_start_ 257 = .ok (.sipush 224, 3) := by decide +kernel
theorem dX12_start__260 : decode cX12_start_ 260 = .ok (.iadd, 1) := by decide +kernel
theorem dX12_start__261 : decode cX12_start_ 261 = .ok (.bipush 32, 2) := by decide +kernel
theorem dX12_start__263 : decode cX12_start_ 263 = .ok (.invokestatic 265, 3) := by decide +kernel
theorem dX12_start__266 : decode cX12_start_ 266 = .ok (.aload_n 0, 1) := by decide +kernel
theorem dX12_start__267 : decode cX12_start_ 267 = .ok (.aload_n 0, 1) := by decide +kernel
theorem dX12_start__268 : decode cX12_start_ 268 = .ok (.getfield 201, 3) := by decide +kernel
theorem dX12_start__271 : decode cX12_start_ 271 = .ok (.iload 6, 2) := by decide +kernel
theorem dX12_start__273 : decode cX12_start_ 273 = .ok (.sipush 160, 3) := by decide +kernel
theorem dX12_start__276 : decode cX12_start_ 276 = .ok (.iadd, 1) := by decide +kernel
theorem dX12_start__277 : decode cX12_start_ 277 = .ok (.invokevirtual 384, 3) := by decide +kernel
theorem dX12_start__280 : decode cX12_start_ 280 = .ok (.aload_n 0, 1) := by decide +kernel
theorem dX12_start__281 : decode cX12_start_ 281 = .ok (.getfield 165, 3) := by decide +kernel
theorem dX12_start__284 : decode cX12_start_ 284 = .ok (.iconst 0, 1) := by decide +kernel
theorem dX12_start__285 : decode cX12_start_ 285 = .ok (.aload_n 0, 1) := by decide +kernel
theorem dX12_start__286 : decode cX12_start_ 286 = .ok (.getfield 201, 3) := by decide +kernel
theorem dX12_start__289 : decode cX12_start_ 289 = .ok (.iload 6, 2) := by decide +kernel
theorem dX12_start__291 : decode cX12_start_ 291 = .ok (.sipush 192, 3) := by decide +kernel
theorem dX12_start__294 : decode cX12_start_ 294 = .ok (.iadd, 1) := by decide +kernel
theorem dX12_start__295 : decode cX12_start_ 295 = .ok (.bipush 32, 2) := by decide +kernel
theorem dX12_start__297 : decode cX12_start_ 297 = .ok (.invokestatic 265, 3) := by decide +kernel
theorem dX12_start__300 : decode cX12_start_ 300 = .ok (.aload_n 0, 1) := by decide +kernel
theorem dX12_start__301 : decode cX12_start_ 301 = .ok (.aload_n 0, 1) := by decide +kernel
theorem dX12_start__302 : decode cX12_start_ 302 = .ok (.getfield 201, 3) := by decide +kernel
theorem dX12_start__305 : decode cX12_start_ 305 = .ok (.iload 6, 2) := by decide +kernel
theorem dX12_start__307 : decode cX12_start_ 307 = .ok (.sipush 224, 3) := by decide +kernel
theorem dX12_start__310 : decode cX12_start_ 310 = .ok (.iadd, 1) := by decide +kernel
theorem dX12_start__311 : decode cX12_start_ 311 = .ok (.invokevirtual 384, 3) := by decide +kernel
theorem dX12_start__314 : decode cX12_start_ 314 = .ok (.aload_n 0, 1) := by decide +kernel
theorem dX12_start__315 : decode cX12_start_ 315 = .ok (.getfield 165, 3) := by decide +kernel
theorem dX12_start__318 : decode cX12_start_ 318 = .ok (.iconst 0, 1) := by decide +kernel
theorem dX12_start__319 : decode cX12_start_ 319 = .ok (.aload_n 0, 1) := by decide +kernel
theorem dX12_start__320 : decode cX12_start_ 320 = .ok (.getfield 201, 3) := by decide +kernel
theorem dX12_start__323 : decode cX12_start_ 323 = .ok (.iload 6, 2) := by decide +kernel
theorem dX12_start__325 : decode cX12_start_ 325 = .ok (.sipush 256, 3) := by decide +kernel
theorem dX12_start__328 : decode cX12_start_ 328 = .ok (.iadd, 1) := by decide +kernel
theorem dX12_start__329 : decode cX12_start_ 329 = .ok (.bipush 32, 2) := by decide +kernel
theorem dX12_start__331 : decode cX12_start_ 331 = .ok (.invokestatic 265, 3) := by decide +kernel
theorem dX12_start__334 : decode cX12_start_ 334 = .ok (.iconst 1, 1) := by decide +kernel
theorem dX12_start__335 : decode cX12_start_ 335 = .ok (.ireturn, 1) := by decide +kernel
theorem dX12_mixHash_0 : decode cX12_mixHash 0 = .ok (.aload_n 0, 1) := by decide +kernel
theorem dX12_mixHash_1 : decode cX12_mixHash 1 = .ok (.invokevirtual 269, 3) := by decide +kernel
theorem dX12_mixHash_4 : decode cX12_mixHash 4 = .ok (.aload_n 0, 1) := by decide +kernel
theorem dX12_mixHash_5 : decode cX12_mixHash 5 = .ok (.aload_n 0, 1) := by decide +kernel
theorem dX12_mixHash_6 : decode cX12_mixHash 6 = .ok (.getfield 201, 3) := by decide +kernel
theorem dX12_mixHash_9 : decode cX12_mixHash 9 = .ok (.sipush 352, 3) := by decide +kernel
theorem dX12_mixHash_12 : decode cX12_mixHash 12 = .ok (.iload_n 1, 1) := by decide +kernel
theorem dX12_mixHash_13 : decode cX12_mixHash 13 = .ok (.imul, 1) := by decide +kernel
theorem dX12_mixHash_14 : decode cX12_mixHash 14 = .ok (.iconst 0, 1) := by decide +kernel
theorem dX12_mixHash_15 : decode cX12_mixHash 15 = .ok (.iadd, 1) := by decide +kernel
theorem dX12_mixHash_16 : decode cX12_mixHash 16 = .ok (.bipush 32, 2) := by decide +kernel
theorem dX12_mixHash_18 : decode cX12_mixHash 18 = .ok (.invokevirtual 272, 3) := by decide +kernel
theorem dX12_mixHash_21 : decode cX12_mixHash 21 = .ok (.aload_n 0, 1) := by decide +kernel
theorem dX12_mixHash_22 : decode cX12_mixHash 22 = .ok (.aload_n 2, 1) := by decide +kernel
theorem dX12_mixHash_23 : decode cX12_mixHash 23 = .ok (.iload_n 3, 1) := by decide +kernel
theorem dX12_mixHash_24 : decode cX12_mixHash 24 = .ok (.iload 4, 2) := by decide +kernel
theorem dX12_mixHash_26 : decode cX12_mixHash 26 = .ok (.invokevirtual 272, 3) := by decide +kernel
theorem dX12_mixHash_29 : decode cX12_mixHash 29 = .ok (.aload_n 0, 1) := by decide +kernel
theorem dX12_mixHash_30 : decode cX12_mixHash 30 = .ok (.invokevirtual 276, 3) := by decide +kernel
theorem dX12_mixHash_33 : decode cX12_mixHash 33 = .ok (.aload_n 0, 1) := by decide +kernel
theorem dX12_mixHash_34 : decode cX12_mixHash 34 = .ok (.getfield 116, 3) := by decide +kernel
theorem dX12_mixHash_37 : decode cX12_mixHash 37 = .ok (.iconst 0, 1) := by decide +kernel
theorem dX12_mixHash_38 : decode cX12_mixHash 38 = .ok (.aload_n 0, 1) := by decide +kernel
theorem dX12_mixHash_39 : decode cX12_mixHash 39 = .ok (.getfield 201, 3) := by decide +kernel
theorem dX12_mixHash_42 : decode cX12_mixHash 42 = .ok (.sipush 352, 3) := by decide +kernel
theorem dX12_mixHash_45 : decode cX12_mixHash 45 = .ok (.iload_n 1, 1) := by decide +kernel
theorem dX12_mixHash_46 : decode cX12_mixHash 46 = .ok (.imul, 1) := by decide +kernel
theorem dX12_mixHash_47 : decode cX12_mixHash 47 = .ok (.iconst 0, 1) := by decide +kernel
theorem dX12_mixHash_48 : decode cX12_mixHash 48 = .ok (.iadd, 1) := by decide +kernel
theorem dX12_mixHash_49 : decode cX12_mixHash 49 = .ok (.bipush 32, 2) := by decide +kernel
theorem dX12_mixHash_51 : decode cX12_mixHash 51 = .ok (.invokestatic 265, 3) := by decide +kernel
theorem dX12_mixHash_54 : decode cX12_mixHash 54 = .ok (.return_, 1) := by decide +kernel
theorem dX12_derived_0 : decode cX12_derived 0 = .ok (.aload_n 0, 1) := by decide +kernel
theorem dX12_derived_1 : decode cX12_derived 1 = .ok (.aload_n 0, 1) := by decide +kernel
theorem dX12_derived_2 : decode cX12_derived 2 = .ok (.getfield 201, 3) := by decide +kernel
theorem dX12_derived_5 : decode cX12_derived 5 = .ok (.sipush 352, 3) := by decide +kernel
theorem dX12_derived_8 : decode cX12_derived 8 = .ok (.iload_n 1, 1) := by decide +kernel
theorem dX12_derived_9 : decode cX12_derived 9 = .ok (.imul, 1) := by decide +kernel
theorem dX12_derived_10 : decode cX12_derived 10 = .ok (.bipush 32, 2) := by decide +kernel
theorem dX12_derived_12 : decode cX12_derived 12 = .ok (.iadd, 1) := by decide +kernel
theorem dX12_derived_13 : decode cX12_derived 13 = .ok (.aload_n 2, 1) := by decide +kernel
theorem dX12_derived_14 : decode cX12_derived 14 = .ok (.iconst 0, 1) := by decide +kernel
theorem dX12_derived_15 : decode cX12_derived 15 = .ok (.iload_n 3, 1) := by decide +kernel
theorem dX12_derived_16 : decode cX12_derived 16 = .ok (.invokevirtual 391, 3) := by decide +kernel
theorem dX12_derived_19 : decode cX12_derived 19 = .ok (.aload_n 0, 1) := by decide +kernel
theorem dX12_derived_20 : decode cX12_derived 20 = .ok (.getfield 116, 3) := by decide +kernel
theorem dX12_derived_23 : decode cX12_derived 23 = .ok (.iconst 0, 1) := by decide +kernel
theorem dX12_derived_24 : decode cX12_derived 24 = .ok (.aload_n 0, 1) := by decide +kernel
theorem dX12_derived_25 : decode cX12_derived 25 = .ok (.getfield 238, 3) := by decide +kernel
theorem dX12_derived_28 : decode cX12_derived 28 = .ok (.iconst 0, 1) := by decide +kernel
theorem dX12_derived_29 : decode cX12_derived 29 = .ok (.bipush 32, 2) := by decide +kernel
theorem dX12_derived_31 : decode cX12_derived 31 = .ok (.invokestatic 265, 3) := by decide +kernel
theorem dX12_derived_34 : decode cX12_derived 34 = .ok (.aload_n 0, 1) := by decide +kernel
theorem dX12_derived_35 : decode cX12_derived 35 = .ok (.getfield 247, 3) := by decide +kernel
theorem dX12_derived_38 : decode cX12_derived 38 = .ok (.iconst 0, 1) := by decide +kernel
theorem dX12_derived_39 : decode cX12_derived 39 = .ok (.iconst 1, 1) := by decide +kernel
theorem dX12_derived_40 : decode cX12_derived 40 = .ok (.bastore, 1) := by decide +kernel
theorem dX12_derived_41 : decode cX12_derived 41 = .ok (.aload_n 0, 1) := by decide +kernel
theorem dX12_derived_42 : decode cX12_derived 42 = .ok (.aload_n 0, 1) := by decide +kernel
theorem dX12_derived_43 : decode cX12_derived 43 = .ok (.getfield 238, 3) := by decide +kernel
theorem dX12_derived_46 : decode cX12_derived 46 = .ok (.iconst 0, 1) := by decide +kernel
theorem dX12_derived_47 : decode cX12_derived 47 = .ok (.aload_n 0, 1) := by decide +kernel
theorem dX12_derived_48 : decode cX12_derived 48 = .ok (.getfield 247, 3) := by decide +kernel
theorem dX12_derived_51 : decode cX12_derived 51 = .ok (.iconst 0, 1) := by decide +kernel
theorem dX12_derived_52 : decode cX12_derived 52 = .ok (.iconst 1, 1) := by decide +kernel
theorem dX12_derived_53 : decode cX12_derived 53 = .ok (.invokevirtual 391, 3) := by decide +kernel
theorem dX12_derived_56 : decode cX12_derived 56 = .ok (.aload_n 0, 1) := by decide +kernel
theorem dX12_derived_57 : decode cX12_derived 57 = .ok (.getfield 116, 3) := by decide +kernel
theorem dX12_derived_60 : decode cX12_derived 60 = .ok (.iconst 0, 1) := by decide +kernel
theorem dX12_derived_61 : decode cX12_derived 61 = .ok (.aload_n 0, 1) := by decide +kernel
theorem dX12_derived_62 : decode cX12_derived 62 = .ok (.getfield 241, 3) := by decide +kernel
theorem dX12_derived_65 : decode cX12_derived 65 = .ok (.iconst 0, 1) := by decide +kernel
theorem dX12_derived_66 : decode cX12_derived 66 = .ok (.bipush 32, 2) := by decide +kernel
theorem dX12_derived_68 : decode cX12_derived 68 = .ok (.invokestatic 265, 3) := by decide +kernel
theorem dX12_derived_71 : decode cX12_derived 71 = .ok (.aload_n 0, 1) := by decide +kernel
theorem dX12_derived_72 : decode cX12_derived 72 = .ok (.getfield 241, 3) := by decide +kernel
theorem dX12_derived_75 : decode cX12_derived 75 = .ok (.bipush 32, 2) := by decide +kernel
theorem dX12_derived_77 : decode cX12_derived 77 = .ok (.iconst 2, 1) := by decide +kernel
theorem dX12_derived_78 : decode cX12_derived 78 = .ok (.bastore, 1) := by decide +kernel
theorem dX12_derived_79 : decode cX12_derived 79 = .ok (.aload_n 0, 1) := by decide +kernel
theorem dX12_derived_80 : decode cX12_derived 80 = .ok (.aload_n 0, 1) := by decide +kernel
theorem dX12_derived_81 : decode cX12_derived 81 = .ok (.getfield 238, 3) := by decide +kernel
theorem dX12_derived_84 : decode cX12_derived 84 = .ok (.iconst 0, 1) := by decide +kernel
theorem dX12_derived_85 : decode cX12_derived 85 = .ok (.aload_n 0, 1) := by decide +kernel
theorem dX12_derived_86 : decode cX12_derived 86 = .ok (.getfield 241, 3) := by decide +kernel
theorem dX12_derived_89 : decode cX12_derived 89 = .ok (.iconst 0, 1) := by decide +kernel
theorem dX12_derived_90 : decode cX12_derived 90 = .ok (.bipush 33, 2) := by decide +kernel
theorem dX12_derived_92 : decode cX12_derived 92 = .ok (.invokevirtual 391, 3) := by decide +kernel
theorem dX12_derived_95 : decode cX12_derived 95 = .ok (.aload_n 0, 1) := by decide +kernel
theorem dX12_derived_96 : decode cX12_derived 96 = .ok (.getfield 116, 3) := by decide +kernel
theorem dX12_derived_99 : decode cX12_derived 99 = .ok (.iconst 0, 1) := by decide +kernel
theorem dX12_derived_100 : decode cX12_derived 100 = .ok (.aload_n 0, 1) := by decide +kernel
theorem dX12_derived_101 : decode cX12_derived 101 = .ok (.getfield 244, 3) := by decide +kernel
theorem dX12_derived_104 : decode cX12_derived 104 = .ok (.iconst 0, 1) := by decide +kernel
theorem dX12_derived_105 : decode cX12_derived 105 = .ok (.bipush 32, 2) := by decide +kernel
theorem dX12_derived_107 : decode cX12_derived 107 = .ok (.invokestatic 265, 3) := by decide +kernel
theorem dX12_derived_110 : decode cX12_derived 110 = .ok (.return_, 1) := by decide +kernel
theorem dX12_mixKey_0 : decode cX12_mixKey 0 = .ok (.aload_n 0, 1) := by decide +kernel
theorem dX12_mixKey_1 : decode cX12_mixKey 1 = .ok (.iload_n 1, 1) := by decide +kernel
theorem dX12_mixKey_2 : decode cX12_mixKey 2 = .ok (.aload_n 0, 1) := by decide +kernel
theorem dX12_mixKey_3 : decode cX12_mixKey 3 = .ok (.getfield 165, 3) := by decide +kernel
theorem dX12_mixKey_6 : decode cX12_mixKey 6 = .ok (.bipush 32, 2) := by decide +kernel
theorem dX12_mixKey_8 : decode cX12_mixKey 8 = .ok (.invokevirtual 414, 3) := by decide +kernel
theorem dX12_mixKey_11 : decode cX12_mixKey 11 = .ok (.aload_n 0, 1) := by decide +kernel
theorem dX12_mixKey_12 : decode cX12_mixKey 12 = .ok (.getfield 241, 3) := by decide +kernel
theorem dX12_mixKey_15 : decode cX12_mixKey 15 = .ok (.iconst 0, 1) := by decide +kernel
theorem dX12_mixKey_16 : decode cX12_mixKey 16 = .ok (.aload_n 0, 1) := by decide +kernel
theorem dX12_mixKey_17 : decode cX12_mixKey 17 = .ok (.getfield 201, 3) := by decide +kernel
theorem dX12_mixKey_20 : decode cX12_mixKey 20 = .ok (.sipush 352, 3) := by decide +kernel
theorem dX12_mixKey_23 : decode cX12_mixKey 23 = .ok (.iload_n 1, 1) := by decide +kernel
theorem dX12_mixKey_24 : decode cX12_mixKey 24 = .ok (.imul, 1) := by decide +kernel
theorem dX12_mixKey_25 : decode cX12_mixKey 25 = .ok (.bipush 32, 2) := by decide +kernel
theorem dX12_mixKey_27 : decode cX12_mixKey 27 = .ok (.iadd, 1) := by decide +kernel
theorem dX12_mixKey_28 : decode cX12_mixKey 28 = .ok (.bipush 32, 2) := by decide +kernel
theorem dX12_mixKey_30 : decode cX12_mixKey 30 = .ok (.invokestatic 265, 3) := by decide +kernel
theorem dX12_mixKey_33 : decode cX12_mixKey 33 = .ok (.aload_n 0, 1) := by decide +kernel
theorem dX12_mixKey_34 : decode cX12_mixKey 34 = .ok (.getfield 244, 3) := by decide +kernel
theorem dX12_mixKey_37 : decode cX12_mixKey 37 = .ok (.iconst 0, 1) := by decide +kernel
theorem dX12_mixKey_38 : decode cX12_mixKey 38 = .ok (.aload_n 0, 1) := by decide +kernel
theorem dX12_mixKey_39 : decode cX12_mixKey 39 = .ok (.getfield 201, 3) := by decide +kernel
theorem dX12_mixKey_42 : decode cX12_mixKey 42 = .ok (.sipush 352, 3) := by decide +kernel
theorem dX12_mixKey_45 : decode cX12_mixKey 45 = .ok (.iload_n 1, 1) := by decide +kernel
theorem dX12_mixKey_46 : decode cX12_mixKey 46 = .ok (.imul, 1) := by decide +kernel
theorem dX12_mixKey_47 : decode cX12_mixKey 47 = .ok (.bipush 64, 2) := by decide +kernel
theorem dX12_mixKey_49 : decode cX12_mixKey 49 = .ok (.iadd, 1) := by decide +kernel
theorem dX12_mixKey_50 : decode cX12_mixKey 50 = .ok (.bipush 32, 2) := by decide +kernel
theorem dX12_mixKey_52 : decode cX12_mixKey 52 = .ok (.invokestatic 265, 3) := by decide +kernel
theorem dX12_mixKey_55 : decode cX12_mixKey 55 = .ok (.aload_n 0, 1) := by decide +kernel
theorem dX12_mixKey_56 : decode cX12_mixKey 56 = .ok (.getfield 214, 3) := by decide +kernel
theorem dX12_mixKey_59 : decode cX12_mixKey 59 = .ok (.iload_n 1, 1) := by decide +kernel
theorem dX12_mixKey_60 : decode cX12_mixKey 60 = .ok (.iconst 1, 1) := by decide +kernel
theorem dX12_mixKey_61 : decode cX12_mixKey 61 = .ok (.bastore, 1) := by decide +kernel
theorem dX12_mixKey_62 : decode cX12_mixKey 62 = .ok (.aload_n 0, 1) := by decide +kernel
theorem dX12_mixKey_63 : decode cX12_mixKey 63 = .ok (.getfield 229, 3) := by decide +kernel
theorem dX12_mixKey_66 : decode cX12_mixKey 66 = .ok (.iload_n 1, 1) := by decide +kernel
theorem dX12_mixKey_67 : decode cX12_mixKey 67 = .ok (.lconst 0, 1) := by decide +kernel
theorem dX12_mixKey_68 : decode cX12_mixKey 68 = .ok (.lastore, 1) := by decide +kernel
theorem dX12_mixKey_69 : decode cX12_mixKey 69 = .ok (.return_, 1) := by decide +kernel
theorem dX12_agrees_0 : decode cX12_agrees 0 = .ok (.aload_n 0, 1) := by decide +kernel
theorem dX12_agrees_1 : decode cX12_agrees 1 = .ok (.aload_n 0, 1) := by decide +kernel
theorem dX12_agrees_2 : decode cX12_agrees 2 = .ok (.getfield 201, 3) := by decide +kernel
theorem dX12_agrees_5 : decode cX12_agrees 5 = .ok (.sipush 352, 3) := by decide +kernel
theorem dX12_agrees_8 : decode cX12_agrees 8 = .ok (.iload_n 1, 1) := by decide +kernel
theorem dX12_agrees_9 : decode cX12_agrees 9 = .ok (.imul, 1) := by decide +kernel
theorem dX12_agrees_10 : decode cX12_agrees 10 = .ok (.iload_n 2, 1) := by decide +kernel
theorem dX12_agrees_11 : decode cX12_agrees 11 = .ok (.iadd, 1) := by decide +kernel
theorem dX12_agrees_12 : decode cX12_agrees 12 = .ok (.aload_n 0, 1) := by decide +kernel
theorem dX12_agrees_13 : decode cX12_agrees 13 = .ok (.getfield 201, 3) := by decide +kernel
theorem dX12_agrees_16 : decode cX12_agrees 16 = .ok (.sipush 352, 3) := by decide +kernel
theorem dX12_agrees_19 : decode cX12_agrees 19 = .ok (.iload_n 1, 1) := by decide +kernel
theorem dX12_agrees_20 : decode cX12_agrees 20 = .ok (.imul, 1) := by decide +kernel
theorem dX12_agrees_21 : decode cX12_agrees 21 = .ok (.iload_n 3, 1) := by decide +kernel
theorem dX12_agrees_22 : decode cX12_agrees 22 = .ok (.iadd, 1) := by decide +kernel
theorem dX12_agrees_23 : decode cX12_agrees 23 = .ok (.invokevirtual 322, 3) := by decide +kernel
theorem dX12_agrees_26 : decode cX12_agrees 26 = .ok (.aload_n 0, 1) := by decide +kernel
theorem dX12_agrees_27 : decode cX12_agrees 27 = .ok (.iload_n 1, 1) := by decide +kernel
theorem dX12_agrees_28 : decode cX12_agrees 28 = .ok (.invokevirtual 418, 3) := by decide +kernel
theorem dX12_agrees_31 : decode cX12_agrees 31 = .ok (.return_, 1) := by decide +kernel
theorem dX12_split_0 : decode cX12_split 0 = .ok (.aload_n 0, 1) := by decide +kernel
theorem dX12_split_1 : decode cX12_split 1 = .ok (.iload_n 1, 1) := by decide +kernel
theorem dX12_split_2 : decode cX12_split 2 = .ok (.aload_n 0, 1) := by decide +kernel
theorem dX12_split_3 : decode cX12_split 3 = .ok (.getfield 165, 3) := by decide +kernel
theorem dX12_split_6 : decode cX12_split 6 = .ok (.iconst 0, 1) := by decide +kernel
theorem dX12_split_7 : decode cX12_split 7 = .ok (.invokevirtual 414, 3) := by decide +kernel
theorem dX12_split_10 : decode cX12_split 10 = .ok (.aload_n 0, 1) := by decide +kernel
theorem dX12_split_11 : decode cX12_split 11 = .ok (.getfield 241, 3) := by decide +kernel
theorem dX12_split_14 : decode cX12_split 14 = .ok (.iconst 0, 1) := by decide +kernel
theorem dX12_split_15 : decode cX12_split 15 = .ok (.aload_n 0, 1) := by decide +kernel
theorem dX12_split_16 : decode cX12_split 16 = .ok (.getfield 201, 3) := by decide +kernel
theorem dX12_split_19 : decode cX12_split 19 = .ok (.sipush 352, 3) := by decide +kernel
theorem dX12_split_22 : decode cX12_split 22 = .ok (.iload_n 1, 1) := by decide +kernel
theorem dX12_split_23 : decode cX12_split 23 = .ok (.imul, 1) := by decide +kernel
theorem dX12_split_24 : decode cX12_split 24 = .ok (.sipush 288, 3) := by decide +kernel
theorem dX12_split_27 : decode cX12_split 27 = .ok (.iadd, 1) := by decide +kernel
theorem dX12_split_28 : decode cX12_split 28 = .ok (.bipush 32, 2) := by decide +kernel
theorem dX12_split_30 : decode cX12_split 30 = .ok (.invokestatic 265, 3) := by decide +kernel
theorem dX12_split_33 : decode cX12_split 33 = .ok (.aload_n 0, 1) := by decide +kernel
theorem dX12_split_34 : decode cX12_split 34 = .ok (.getfield 244, 3) := by decide +kernel
theorem dX12_split_37 : decode cX12_split 37 = .ok (.iconst 0, 1) := by decide +kernel
theorem dX12_split_38 : decode cX12_split 38 = .ok (.aload_n 0, 1) := by decide +kernel
theorem dX12_split_39 : decode cX12_split 39 = .ok (.getfield 201, 3) := by decide +kernel
theorem dX12_split_42 : decode cX12_split 42 = .ok (.sipush 352, 3) := by decide +kernel
theorem dX12_split_45 : decode cX12_split 45 = .ok (.iload_n 1, 1) := by decide +kernel
theorem dX12_split_46 : decode cX12_split 46 = .ok (.imul, 1) := by decide +kernel
theorem dX12_split_47 : decode cX12_split 47 = .ok (.sipush 320, 3) := by decide +kernel
theorem dX12_split_50 : decode cX12_split 50 = .ok (.iadd, 1) := by decide +kernel
theorem dX12_split_51 : decode cX12_split 51 = .ok (.bipush 32, 2) := by decide +kernel
theorem dX12_split_53 : decode cX12_split 53 = .ok (.invokestatic 265, 3) := by decide +kernel
theorem dX12_split_56 : decode cX12_split 56 = .ok (.return_, 1) := by decide +kernel
theorem dX12_sealsInto_0 : decode cX12_sealsInto 0 = .ok (.sipush 352, 3) := by decide +kernel
theorem dX12_sealsInto_3 : decode cX12_sealsInto 3 = .ok (.iload_n 1, 1) := by decide +kernel
theorem dX12_sealsInto_4 : decode cX12_sealsInto 4 = .ok (.imul, 1) := by decide +kernel
theorem dX12_sealsInto_5 : decode cX12_sealsInto 5 = .ok (.istore 6, 2) := by decide +kernel
theorem dX12_sealsInto_7 : decode cX12_sealsInto 7 = .ok (.iload 4, 2) := by decide +kernel
theorem dX12_sealsInto_9 : decode cX12_sealsInto 9 = .ok (.istore 7, 2) := by decide +kernel
theorem dX12_sealsInto_11 : decode cX12_sealsInto 11 = .ok (.aload_n 0, 1) := by decide +kernel
theorem dX12_sealsInto_12 : decode cX12_sealsInto 12 = .ok (.getfield 214, 3) := by decide +kernel
theorem dX12_sealsInto_15 : decode cX12_sealsInto 15 = .ok (.iload_n 1, 1) := by decide +kernel
theorem dX12_sealsInto_16 : decode cX12_sealsInto 16 = .ok (.baload, 1) := by decide +kernel
theorem dX12_sealsInto_17 : decode cX12_sealsInto 17 = .ok (.ifCond .eq 62, 3) := by decide +kernel
theorem dX12_sealsInto_20 : decode cX12_sealsInto 20 = .ok (.aload_n 0, 1) := by decide +kernel
theorem dX12_sealsInto_21 : decode cX12_sealsInto 21 = .ok (.aload_n 0, 1) := by decide +kernel
theorem dX12_sealsInto_22 : decode cX12_sealsInto 22 = .ok (.getfield 201, 3) := by decide +kernel
theorem dX12_sealsInto_25 : decode cX12_sealsInto 25 = .ok (.iload 6, 2) := by decide +kernel
theorem dX12_sealsInto_27 : decode cX12_sealsInto 27 = .ok (.bipush 64, 2) := by decide +kernel
theorem dX12_sealsInto_29 : decode cX12_sealsInto 29 = .ok (.iadd, 1) := by decide +kernel
theorem dX12_sealsInto_30 : decode cX12_sealsInto 30 = .ok (.aload_n 0, 1) := by decide +kernel
theorem dX12_sealsInto_31 : decode cX12_sealsInto 31 = .ok (.getfield 229, 3) := by decide +kernel
theorem dX12_sealsInto_34 : decode cX12_sealsInto 34 = .ok (.iload_n 1, 1) := by decide +kernel
theorem dX12_sealsInto_35 : decode cX12_sealsInto 35 = .ok (.laload, 1) := by decide +kernel
theorem dX12_sealsInto_36 : decode cX12_sealsInto 36 = .ok (.aload_n 0, 1) := by decide +kernel
theorem dX12_sealsInto_37 : decode cX12_sealsInto 37 = .ok (.getfield 201, 3) := by decide +kernel
theorem dX12_sealsInto_40 : decode cX12_sealsInto 40 = .ok (.iload 6, 2) := by decide +kernel
theorem dX12_sealsInto_42 : decode cX12_sealsInto 42 = .ok (.iconst 0, 1) := by decide +kernel
theorem dX12_sealsInto_43 : decode cX12_sealsInto 43 = .ok (.iadd, 1) := by decide +kernel
theorem dX12_sealsInto_44 : decode cX12_sealsInto 44 = .ok (.bipush 32, 2) := by decide +kernel
theorem dX12_sealsInto_46 : decode cX12_sealsInto 46 = .ok (.aload_n 2, 1) := by decide +kernel
theorem dX12_sealsInto_47 : decode cX12_sealsInto 47 = .ok (.iload_n 3, 1) := by decide +kernel
theorem dX12_sealsInto_48 : decode cX12_sealsInto 48 = .ok (.iload 4, 2) := by decide +kernel
theorem dX12_sealsInto_50 : decode cX12_sealsInto 50 = .ok (.aload_n 0, 1) := by decide +kernel
theorem dX12_sealsInto_51 : decode cX12_sealsInto 51 = .ok (.getfield 16, 3) := by decide +kernel
theorem dX12_sealsInto_54 : decode cX12_sealsInto 54 = .ok (.iload 5, 2) := by decide +kernel
theorem dX12_sealsInto_56 : decode cX12_sealsInto 56 = .ok (.invokevirtual 394, 3) := by decide +kernel
theorem dX12_sealsInto_59 : decode cX12_sealsInto 59 = .ok (.aload_n 0, 1) := by decide +kernel
theorem dX12_sealsInto_60 : decode cX12_sealsInto 60 = .ok (.getfield 229, 3) := by decide +kernel
theorem dX12_sealsInto_63 : decode cX12_sealsInto 63 = .ok (.iload_n 1, 1) := by decide +kernel
theorem dX12_sealsInto_64 : decode cX12_sealsInto 64 = .ok (.dup2, 1) := by decide +kernel
theorem dX12_sealsInto_65 : decode cX12_sealsInto 65 = .ok (.laload, 1) := by decide +kernel
theorem dX12_sealsInto_66 : decode cX12_sealsInto 66 = .ok (.lconst 1, 1) := by decide +kernel
theorem dX12_sealsInto_67 : decode cX12_sealsInto 67 = .ok (.ladd, 1) := by decide +kernel
theorem dX12_sealsInto_68 : decode cX12_sealsInto 68 = .ok (.lastore, 1) := by decide +kernel
theorem dX12_sealsInto_69 : decode cX12_sealsInto 69 = .ok (.iload 4, 2) := by decide +kernel
theorem dX12_sealsInto_71 : decode cX12_sealsInto 71 = .ok (.bipush 16, 2) := by decide +kernel
theorem dX12_sealsInto_73 : decode cX12_sealsInto 73 = .ok (.iadd, 1) := by decide +kernel
theorem dX12_sealsInto_74 : decode cX12_sealsInto 74 = .ok (.istore 7, 2) := by decide +kernel
theorem dX12_sealsInto_76 : decode cX12_sealsInto 76 = .ok (.goto 16, 3) := by decide +kernel
theorem dX12_sealsInto_79 : decode cX12_sealsInto 79 = .ok (.aload_n 2, 1) := by decide +kernel
theorem dX12_sealsInto_80 : decode cX12_sealsInto 80 = .ok (.iload_n 3, 1) := by decide +kernel
theorem dX12_sealsInto_81 : decode cX12_sealsInto 81 = .ok (.aload_n 0, 1) := by decide +kernel
theorem dX12_sealsInto_82 : decode cX12_sealsInto 82 = .ok (.getfield 16, 3) := by decide +kernel
theorem dX12_sealsInto_85 : decode cX12_sealsInto 85 = .ok (.iload 5, 2) := by decide +kernel
theorem dX12_sealsInto_87 : decode cX12_sealsInto 87 = .ok (.iload 4, 2) := by decide +kernel
theorem dX12_sealsInto_89 : decode cX12_sealsInto 89 = .ok (.invokestatic 265, 3) := by decide +kernel
theorem dX12_sealsInto_92 : decode cX12_sealsInto 92 = .ok (.aload_n 0, 1) := by decide +kernel
theorem dX12_sealsInto_93 : decode cX12_sealsInto 93 = .ok (.iload_n 1, 1) := by decide +kernel
theorem dX12_sealsInto_94 : decode cX12_sealsInto 94 = .ok (.aload_n 0, 1) := by decide +kernel
theorem dX12_sealsInto_95 : decode cX12_sealsInto 95 = .ok (.getfield 16, 3) := by decide +kernel
theorem dX12_sealsInto_98 : decode cX12_sealsInto 98 = .ok (.iload 5, 2) := by decide +kernel
theorem dX12_sealsInto_100 : decode cX12_sealsInto 100 = .ok (.iload 7, 2) := by decide +kernel
theorem dX12_sealsInto_102 : decode cX12_sealsInto 102 = .ok (.invokevirtual 410, 3) := by decide +kernel
theorem dX12_sealsInto_105 : decode cX12_sealsInto 105 = .ok (.iload 5, 2) := by decide +kernel
theorem dX12_sealsInto_107 : decode cX12_sealsInto 107 = .ok (.iload 7, 2) := by decide +kernel
theorem dX12_sealsInto_109 : decode cX12_sealsInto 109 = .ok (.iadd, 1) := by decide +kernel
theorem dX12_sealsInto_110 : decode cX12_sealsInto 110 = .ok (.ireturn, 1) := by decide +kernel
theorem dX12_opensFrom_0 : decode cX12_opensFrom 0 = .ok (.sipush 352, 3) := by decide +kernel
theorem dX12_opensFrom_3 : decode cX12_opensFrom 3 = .ok (.iload_n 1, 1) := by decide +kernel
theorem dX12_opensFrom_4 : decode cX12_opensFrom 4 = .ok (.imul, 1) := by decide +kernel
theorem dX12_opensFrom_5 : decode cX12_opensFrom 5 = .ok (.istore 5, 2) := by decide +kernel
theorem dX12_opensFrom_7 : decode cX12_opensFrom 7 = .ok (.iload_n 3, 1) := by decide +kernel
theorem dX12_opensFrom_8 : decode cX12_opensFrom 8 = .ok (.ifCond .ge 5, 3) := by decide +kernel
theorem dX12_opensFrom_11 : decode cX12_opensFrom 11 = .ok (.iconst 0, 1) := by decide +kernel
theorem dX12_opensFrom_12 : decode cX12_opensFrom 12 = .ok (.ireturn, 1) := by decide +kernel
theorem dX12_opensFrom_13 : decode cX12_opensFrom 13 = .ok (.aload_n 0, 1) := by decide +kernel
theorem dX12_opensFrom_14 : decode cX12_opensFrom 14 = .ok (.getfield 214, 3) := by decide +kernel
theorem dX12_opensFrom_17 : decode cX12_opensFrom 17 = .ok (.iload_n 1, 1) := by decide +kernel
theorem dX12_opensFrom_18 : decode cX12_opensFrom 18 = .ok (.baload, 1) := by decide +kernel
theorem dX12_opensFrom_19 : decode cX12_opensFrom 19 = .ok (.ifCond .ne 21, 3) := by decide +kernel
theorem dX12_opensFrom_22 : decode cX12_opensFrom 22 = .ok (.aload_n 0, 1) := by decide +kernel
theorem dX12_opensFrom_23 : decode cX12_opensFrom 23 = .ok (.getfield 13, 3) := by decide +kernel
theorem dX12_opensFrom_26 : decode cX12_opensFrom 26 = .ok (.iload_n 2, 1) := by decide +kernel
theorem dX12_opensFrom_27 : decode cX12_opensFrom 27 = .ok (.aload_n 0, 1) := by decide +kernel
theorem dX12_opensFrom_28 : decode cX12_opensFrom 28 = .ok (.getfield 16, 3) := by decide +kernel
theorem dX12_opensFrom_31 : decode cX12_opensFrom 31 = .ok (.iload 4, 2) := by decide +kernel
theorem dX12_opensFrom_33 : decode cX12_opensFrom 33 = .ok (.iload_n 3, 1) := by decide +kernel
theorem dX12_opensFrom_34 : decode cX12_opensFrom 34 = .ok (.invokestatic 265, 3) := by decide +kernel
theorem dX12_opensFrom_37 : decode cX12_opensFrom 37 = .ok (.goto 59, 3) := by decide +kernel
theorem dX12_opensFrom_40 : decode cX12_opensFrom 40 = .ok (.aload_n 0, 1) := by decide +kernel
theorem dX12_opensFrom_41 : decode cX12_opensFrom 41 = .ok (.aload_n 0, 1) := by decide +kernel
theorem dX12_opensFrom_42 : decode cX12_opensFrom 42 = .ok (.getfield 201, 3) := by decide +kernel
theorem dX12_opensFrom_45 : decode cX12_opensFrom 45 = .ok (.iload 5, 2) := by decide +kernel
theorem dX12_opensFrom_47 : decode cX12_opensFrom 47 = .ok (.bipush 64, 2) := by decide +kernel
theorem dX12_opensFrom_49 : decode cX12_opensFrom 49 = .ok (.iadd, 1) := by decide +kernel
theorem dX12_opensFrom_50 : decode cX12_opensFrom 50 = .ok (.aload_n 0, 1) := by decide +kernel
theorem dX12_opensFrom_51 : decode cX12_opensFrom 51 = .ok (.getfield 229, 3) := by decide +kernel
theorem dX12_opensFrom_54 : decode cX12_opensFrom 54 = .ok (.iload_n 1, 1) := by decide +kernel
theorem dX12_opensFrom_55 : decode cX12_opensFrom 55 = .ok (.laload, 1) := by decide +kernel
theorem dX12_opensFrom_56 : decode cX12_opensFrom 56 = .ok (.aload_n 0, 1) := by decide +kernel
theorem dX12_opensFrom_57 : decode cX12_opensFrom 57 = .ok (.getfield 201, 3) := by decide +kernel
theorem dX12_opensFrom_60 : decode cX12_opensFrom 60 = .ok (.iload 5, 2) := by decide +kernel
theorem dX12_opensFrom_62 : decode cX12_opensFrom 62 = .ok (.iconst 0, 1) := by decide +kernel
theorem dX12_opensFrom_63 : decode cX12_opensFrom 63 = .ok (.iadd, 1) := by decide +kernel
theorem dX12_opensFrom_64 : decode cX12_opensFrom 64 = .ok (.bipush 32, 2) := by decide +kernel
theorem dX12_opensFrom_66 : decode cX12_opensFrom 66 = .ok (.aload_n 0, 1) := by decide +kernel
theorem dX12_opensFrom_67 : decode cX12_opensFrom 67 = .ok (.getfield 13, 3) := by decide +kernel
theorem dX12_opensFrom_70 : decode cX12_opensFrom 70 = .ok (.iload_n 2, 1) := by decide +kernel
theorem dX12_opensFrom_71 : decode cX12_opensFrom 71 = .ok (.iload_n 3, 1) := by decide +kernel
theorem dX12_opensFrom_72 : decode cX12_opensFrom 72 = .ok (.aload_n 0, 1) := by decide +kernel
theorem dX12_opensFrom_73 : decode cX12_opensFrom 73 = .ok (.getfield 16, 3) := by decide +kernel
theorem dX12_opensFrom_76 : decode cX12_opensFrom 76 = .ok (.iload 4, 2) := by decide +kernel
theorem dX12_opensFrom_78 : decode cX12_opensFrom 78 = .ok (.invokevirtual 398, 3) := by decide +kernel
theorem dX12_opensFrom_81 : decode cX12_opensFrom 81 = .ok (.ifCond .ne 5, 3) := by decide +kernel
theorem dX12_opensFrom_84 : decode cX12_opensFrom 84 = .ok (.iconst 0, 1) := by decide +kernel
theorem dX12_opensFrom_85 : decode cX12_opensFrom 85 = .ok (.ireturn, 1) := by decide +kernel
theorem dX12_opensFrom_86 : decode cX12_opensFrom 86 = .ok (.aload_n 0, 1) := by decide +kernel
theorem dX12_opensFrom_87 : decode cX12_opensFrom 87 = .ok (.getfield 229, 3) := by decide +kernel
theorem dX12_opensFrom_90 : decode cX12_opensFrom 90 = .ok (.iload_n 1, 1) := by decide +kernel
theorem dX12_opensFrom_91 : decode cX12_opensFrom 91 = .ok (.dup2, 1) := by decide +kernel
theorem dX12_opensFrom_92 : decode cX12_opensFrom 92 = .ok (.laload, 1) := by decide +kernel
theorem dX12_opensFrom_93 : decode cX12_opensFrom 93 = .ok (.lconst 1, 1) := by decide +kernel
theorem dX12_opensFrom_94 : decode cX12_opensFrom 94 = .ok (.ladd, 1) := by decide +kernel
theorem dX12_opensFrom_95 : decode cX12_opensFrom 95 = .ok (.lastore, 1) := by decide +kernel
theorem dX12_opensFrom_96 : decode cX12_opensFrom 96 = .ok (.aload_n 0, 1) := by decide +kernel
theorem dX12_opensFrom_97 : decode cX12_opensFrom 97 = .ok (.iload_n 1, 1) := by decide +kernel
theorem dX12_opensFrom_98 : decode cX12_opensFrom 98 = .ok (.aload_n 0, 1) := by decide +kernel
theorem dX12_opensFrom_99 : decode cX12_opensFrom 99 = .ok (.getfield 13, 3) := by decide +kernel
theorem dX12_opensFrom_102 : decode cX12_opensFrom 102 = .ok (.iload_n 2, 1) := by decide +kernel
theorem dX12_opensFrom_103 : decode cX12_opensFrom 103 = .ok (.iload_n 3, 1) := by decide +kernel
theorem dX12_opensFrom_104 : decode cX12_opensFrom 104 = .ok (.invokevirtual 410, 3) := by decide +kernel
theorem dX12_opensFrom_107 : decode cX12_opensFrom 107 = .ok (.iconst 1, 1) := by decide +kernel
theorem dX12_opensFrom_108 : decode cX12_opensFrom 108 = .ok (.ireturn, 1) := by decide +kernel
theorem dX12_isToWrite_0 : decode cX12_isToWrite 0 = .ok (.aload_n 0, 1) := by decide +kernel
theorem dX12_isToWrite_1 : decode cX12_isToWrite 1 = .ok (.getfield 223, 3) := by decide +kernel
theorem dX12_isToWrite_4 : decode cX12_isToWrite 4 = .ok (.iload_n 1, 1) := by decide +kernel
theorem dX12_isToWrite_5 : decode cX12_isToWrite 5 = .ok (.iaload, 1) := by decide +kernel
theorem dX12_isToWrite_6 : decode cX12_isToWrite 6 = .ok (.iconst 3, 1) := by decide +kernel
theorem dX12_isToWrite_7 : decode cX12_isToWrite 7 = .ok (.if_icmp .ge 32, 3) := by decide +kernel
theorem dX12_isToWrite_10 : decode cX12_isToWrite 10 = .ok (.aload_n 0, 1) := by decide +kernel
theorem dX12_isToWrite_11 : decode cX12_isToWrite 11 = .ok (.getfield 223, 3) := by decide +kernel
theorem dX12_isToWrite_14 : decode cX12_isToWrite 14 = .ok (.iload_n 1, 1) := by decide +kernel
theorem dX12_isToWrite_15 : decode cX12_isToWrite 15 = .ok (.iaload, 1) := by decide +kernel
theorem dX12_isToWrite_16 : decode cX12_isToWrite 16 = .ok (.iconst 2, 1) := by decide +kernel
theorem dX12_isToWrite_17 : decode cX12_isToWrite 17 = .ok (.irem, 1) := by decide +kernel
theorem dX12_isToWrite_18 : decode cX12_isToWrite 18 = .ok (.ifCond .ne 7, 3) := by decide +kernel
theorem dX12_isToWrite_21 : decode cX12_isToWrite 21 = .ok (.iconst 1, 1) := by decide +kernel
theorem dX12_isToWrite_22 : decode cX12_isToWrite 22 = .ok (.goto 4, 3) := by decide +kernel
theorem dX12_isToWrite_25 : decode cX12_isToWrite 25 = .ok (.iconst 0, 1) := by decide +kernel
theorem dX12_isToWrite_26 : decode cX12_isToWrite 26 = .ok (.aload_n 0, 1) := by decide +kernel
theorem dX12_isToWrite_27 : decode cX12_isToWrite 27 = .ok (.getfield 211, 3) := by decide +kernel
theorem dX12_isToWrite_30 : decode cX12_isToWrite 30 = .ok (.iload_n 1, 1) := by decide +kernel
theorem dX12_isToWrite_31 : decode cX12_isToWrite 31 = .ok (.baload, 1) := by decide +kernel
theorem dX12_isToWrite_32 : decode cX12_isToWrite 32 = .ok (.if_icmp .ne 7, 3) := by decide +kernel
theorem dX12_isToWrite_35 : decode cX12_isToWrite 35 = .ok (.iconst 1, 1) := by decide +kernel
theorem dX12_isToWrite_36 : decode cX12_isToWrite 36 = .ok (.goto 4, 3) := by decide +kernel
theorem dX12_isToWrite_39 : decode cX12_isToWrite 39 = .ok (.iconst 0, 1) := by decide +kernel
theorem dX12_isToWrite_40 : decode cX12_isToWrite 40 = .ok (.ireturn, 1) := by decide +kernel
theorem dX12_write_0 : decode cX12_write 0 = .ok (.aload_n 0, 1) := by decide +kernel
theorem dX12_write_1 : decode cX12_write 1 = .ok (.iload_n 1, 1) := by decide +kernel
theorem dX12_write_2 : decode cX12_write 2 = .ok (.invokevirtual 421, 3) := by decide +kernel
theorem dX12_write_5 : decode cX12_write 5 = .ok (.ifCond .eq 22, 3) := by decide +kernel
theorem dX12_write_8 : decode cX12_write 8 = .ok (.iload_n 2, 1) := by decide +kernel
theorem dX12_write_9 : decode cX12_write 9 = .ok (.iconst 0, 1) := by decide +kernel
theorem dX12_write_10 : decode cX12_write 10 = .ok (.sipush 900, 3) := by decide +kernel
theorem dX12_write_13 : decode cX12_write 13 = .ok (.invokestatic 373, 3) := by decide +kernel
theorem dX12_write_16 : decode cX12_write 16 = .ok (.ifCond .eq 11, 3) := by decide +kernel
theorem dX12_write_19 : decode cX12_write 19 = .ok (.iload_n 2, 1) := by decide +kernel
theorem dX12_write_20 : decode cX12_write 20 = .ok (.aload_n 0, 1) := by decide +kernel
theorem dX12_write_21 : decode cX12_write 21 = .ok (.getfield 364, 3) := by decide +kernel
theorem dX12_write_24 : decode cX12_write 24 = .ok (.if_icmp .le 6, 3) := by decide +kernel
theorem dX12_write_27 : decode cX12_write 27 = .ok (.bipush (-2), 2) := by decide +kernel
theorem dX12_write_29 : decode cX12_write 29 = .ok (.ireturn, 1) := by decide +kernel
theorem dX12_write_30 : decode cX12_write 30 = .ok (.aload_n 0, 1) := by decide +kernel
theorem dX12_write_31 : decode cX12_write 31 = .ok (.invokevirtual 381, 3) := by decide +kernel
theorem dX12_write_34 : decode cX12_write 34 = .ok (.aload_n 0, 1) := by decide +kernel
theorem dX12_write_35 : decode cX12_write 35 = .ok (.iload_n 1, 1) := by decide +kernel
theorem dX12_write_36 : decode cX12_write 36 = .ok (.invokevirtual 424, 3) := by decide +kernel
theorem dX12_write_39 : decode cX12_write 39 = .ok (.ifCond .ne 5, 3) := by decide +kernel
theorem dX12_write_42 : decode cX12_write 42 = .ok (.iconst (-1), 1) := by decide +kernel
theorem dX12_write_43 : decode cX12_write 43 = .ok (.ireturn, 1) := by decide +kernel
theorem dX12_write_44 : decode cX12_write 44 = .ok (.sipush 352, 3) := by decide +kernel
theorem dX12_write_47 : decode cX12_write 47 = .ok (.iload_n 1, 1) := by decide +kernel
theorem dX12_write_48 : decode cX12_write 48 = .ok (.imul, 1) := by decide +kernel
theorem dX12_write_49 : decode cX12_write 49 = .ok (.istore_n 3, 1) := by decide +kernel
theorem dX12_write_50 : decode cX12_write 50 = .ok (.iconst 0, 1) := by decide +kernel
theorem dX12_write_51 : decode cX12_write 51 = .ok (.istore 4, 2) := by decide +kernel
theorem dX12_write_53 : decode cX12_write 53 = .ok (.aload_n 0, 1) := by decide +kernel
theorem dX12_write_54 : decode cX12_write 54 = .ok (.getfield 223, 3) := by decide +kernel
theorem dX12_write_57 : decode cX12_write 57 = .ok (.iload_n 1, 1) := by decide +kernel
theorem dX12_write_58 : decode cX12_write 58 = .ok (.iaload, 1) := by decide +kernel
theorem dX12_write_59 : decode cX12_write 59 = .ok (.iconst 2, 1) := by decide +kernel
theorem dX12_write_60 : decode cX12_write 60 = .ok (.if_icmp .ge 38, 3) := by decide +kernel
theorem dX12_write_63 : decode cX12_write 63 = .ok (.aload_n 0, 1) := by decide +kernel
theorem dX12_write_64 : decode cX12_write 64 = .ok (.getfield 201, 3) := by decide +kernel
theorem dX12_write_67 : decode cX12_write 67 = .ok (.iload_n 3, 1) := by decide +kernel
theorem dX12_write_68 : decode cX12_write 68 = .ok (.sipush 256, 3) := by decide +kernel
theorem dX12_write_71 : decode cX12_write 71 = .ok (.iadd, 1) := by decide +kernel
theorem dX12_write_72 : decode cX12_write 72 = .ok (.aload_n 0, 1) := by decide +kernel
theorem dX12_write_73 : decode cX12_write 73 = .ok (.getfield 16, 3) := by decide +kernel
theorem dX12_write_76 : decode cX12_write 76 = .ok (.iconst 0, 1) := by decide +kernel
theorem dX12_write_77 : decode cX12_write 77 = .ok (.bipush 32, 2) := by decide +kernel
theorem dX12_write_79 : decode cX12_write 79 = .ok (.invokestatic 265, 3) := by decide +kernel
theorem dX12_write_82 : decode cX12_write 82 = .ok (.aload_n 0, 1) := by decide +kernel
theorem dX12_write_83 : decode cX12_write 83 = .ok (.iload_n 1, 1) := by decide +kernel
theorem dX12_write_84 : decode cX12_write 84 = .ok (.aload_n 0, 1) := by decide +kernel
theorem dX12_write_85 : decode cX12_write 85 = .ok (.getfield 16, 3) := by decide +kernel
theorem dX12_write_88 : decode cX12_write 88 = .ok (.iconst 0, 1) := by decide +kernel
theorem dX12_write_89 : decode cX12_write 89 = .ok (.bipush 32, 2) := by decide +kernel
theorem dX12_write_91 : decode cX12_write 91 = .ok (.invokevirtual 410, 3) := by decide +kernel
theorem dX12_write_94 : decode cX12_write 94 = .ok (.bipush 32, 2) := by decide +kernel
theorem dX12_write_96 : decode cX12_write 96 = .ok (.istore 4, 2) := by decide +kernel
theorem dX12_write_98 : decode cX12_write 98 = .ok (.aload_n 0, 1) := by decide +kernel
theorem dX12_write_99 : decode cX12_write 99 = .ok (.getfield 223, 3) := by decide +kernel
theorem dX12_write_102 : decode cX12_write 102 = .ok (.iload_n 1, 1) := by decide +kernel
theorem dX12_write_103 : decode cX12_write 103 = .ok (.iaload, 1) := by decide +kernel
theorem dX12_write_104 : decode cX12_write 104 = .ok (.iconst 1, 1) := by decide +kernel
theorem dX12_write_105 : decode cX12_write 105 = .ok (.if_icmp .ne 13, 3) := by decide +kernel
theorem dX12_write_108 : decode cX12_write 108 = .ok (.aload_n 0, 1) := by decide +kernel
theorem dX12_write_109 : decode cX12_write 109 = .ok (.iload_n 1, 1) := by decide +kernel
theorem dX12_write_110 : decode cX12_write 110 = .ok (.sipush 224, 3) := by decide +kernel
theorem dX12_write_113 : decode cX12_write 113 = .ok (.bipush 96, 2) := by decide +kernel
theorem dX12_write_115 : decode cX12_write 115 = .ok (.invokevirtual 427, 3) := by decide +kernel
theorem dX12_write_118 : decode cX12_write 118 = .ok (.aload_n 0, 1) := by decide +kernel
theorem dX12_write_119 : decode cX12_write 119 = .ok (.getfield 223, 3) := by decide +kernel
theorem dX12_write_122 : decode cX12_write 122 = .ok (.iload_n 1, 1) := by decide +kernel
theorem dX12_write_123 : decode cX12_write 123 = .ok (.iaload, 1) := by decide +kernel
theorem dX12_write_124 : decode cX12_write 124 = .ok (.ifCond .le 33, 3) := by decide +kernel
theorem dX12_write_127 : decode cX12_write 127 = .ok (.aload_n 0, 1) := by decide +kernel
theorem dX12_write_128 : decode cX12_write 128 = .ok (.iload_n 1, 1) := by decide +kernel
theorem dX12_write_129 : decode cX12_write 129 = .ok (.aload_n 0, 1) := by decide +kernel
theorem dX12_write_130 : decode cX12_write 130 = .ok (.getfield 201, 3) := by decide +kernel
theorem dX12_write_133 : decode cX12_write 133 = .ok (.iload_n 3, 1) := by decide +kernel
theorem dX12_write_134 : decode cX12_write 134 = .ok (.sipush 192, 3) := by decide +kernel
theorem dX12_write_137 : decode cX12_write 137 = .ok (.iadd, 1) := by decide +kernel
theorem dX12_write_138 : decode cX12_write 138 = .ok (.bipush 32, 2) := by decide +kernel
theorem dX12_write_140 : decode cX12_write 140 = .ok (.iload 4, 2) := by decide +kernel
theorem dX12_write_142 : decode cX12_write 142 = .ok (.invokevirtual 431, 3) := by decide +kernel
theorem dX12_write_145 : decode cX12_write 145 = .ok (.istore 4, 2) := by decide +kernel
theorem dX12_write_147 : decode cX12_write 147 = .ok (.aload_n 0, 1) := by decide +kernel
theorem dX12_write_148 : decode cX12_write 148 = .ok (.iload_n 1, 1) := by decide +kernel
theorem dX12_write_149 : decode cX12_write 149 = .ok (.sipush 160, 3) := by decide +kernel
theorem dX12_write_152 : decode cX12_write 152 = .ok (.bipush 96, 2) := by decide +kernel
theorem dX12_write_154 : decode cX12_write 154 = .ok (.invokevirtual 427, 3) := by decide +kernel
theorem dX12_write_157 : decode cX12_write 157 = .ok (.aload_n 0, 1) := by decide +kernel
theorem dX12_write_158 : decode cX12_write 158 = .ok (.iload_n 1, 1) := by decide +kernel
theorem dX12_write_159 : decode cX12_write 159 = .ok (.aload_n 0, 1) := by decide +kernel
theorem dX12_write_160 : decode cX12_write 160 = .ok (.getfield 13, 3) := by decide +kernel
theorem dX12_write_163 : decode cX12_write 163 = .ok (.iconst 0, 1) := by decide +kernel
theorem dX12_write_164 : decode cX12_write 164 = .ok (.iload_n 2, 1) := by decide +kernel
theorem dX12_write_165 : decode cX12_write 165 = .ok (.iload 4, 2) := by decide +kernel
theorem dX12_write_167 : decode cX12_write 167 = .ok (.invokevirtual 431, 3) := by decide +kernel
theorem dX12_write_170 : decode cX12_write 170 = .ok (.istore 4, 2) := by decide +kernel
theorem dX12_write_172 : decode cX12_write 172 = .ok (.aload_n 0, 1) := by decide +kernel
theorem dX12_write_173 : decode cX12_write 173 = .ok (.iload_n 1, 1) := by decide +kernel
theorem dX12_write_174 : decode cX12_write 174 = .ok (.invokevirtual 435, 3) := by decide +kernel
theorem dX12_write_177 : decode cX12_write 177 = .ok (.aload_n 0, 1) := by decide +kernel
theorem dX12_write_178 : decode cX12_write 178 = .ok (.aload_n 0, 1) := by decide +kernel
theorem dX12_write_179 : decode cX12_write 179 = .ok (.getfield 16, 3) := by decide +kernel
theorem dX12_write_182 : decode cX12_write 182 = .ok (.iload 4, 2) := by decide +kernel
theorem dX12_write_184 : decode cX12_write 184 = .ok (.invokevirtual 388, 3) := by decide +kernel
theorem dX12_write_187 : decode cX12_write 187 = .ok (.ireturn, 1) := by decide +kernel
theorem dX12_goesOn_0 : decode cX12_goesOn 0 = .ok (.aload_n 0, 1) := by decide +kernel
theorem dX12_goesOn_1 : decode cX12_goesOn 1 = .ok (.getfield 223, 3) := by decide +kernel
theorem dX12_goesOn_4 : decode cX12_goesOn 4 = .ok (.iload_n 1, 1) := by decide +kernel
theorem dX12_goesOn_5 : decode cX12_goesOn 5 = .ok (.dup2, 1) := by decide +kernel
theorem dX12_goesOn_6 : decode cX12_goesOn 6 = .ok (.iaload, 1) := by decide +kernel
theorem dX12_goesOn_7 : decode cX12_goesOn 7 = .ok (.iconst 1, 1) := by decide +kernel
theorem dX12_goesOn_8 : decode cX12_goesOn 8 = .ok (.iadd, 1) := by decide +kernel
theorem dX12_goesOn_9 : decode cX12_goesOn 9 = .ok (.iastore, 1) := by decide +kernel
theorem dX12_goesOn_10 : decode cX12_goesOn 10 = .ok (.aload_n 0, 1) := by decide +kernel
theorem dX12_goesOn_11 : decode cX12_goesOn 11 = .ok (.getfield 223, 3) := by decide +kernel
theorem dX12_goesOn_14 : decode cX12_goesOn 14 = .ok (.iload_n 1, 1) := by decide +kernel
theorem dX12_goesOn_15 : decode cX12_goesOn 15 = .ok (.iaload, 1) := by decide +kernel
theorem dX12_goesOn_16 : decode cX12_goesOn 16 = .ok (.iconst 3, 1) := by decide +kernel
theorem dX12_goesOn_17 : decode cX12_goesOn 17 = .ok (.if_icmp .ne 8, 3) := by decide +kernel
theorem dX12_goesOn_20 : decode cX12_goesOn 20 = .ok (.aload_n 0, 1) := by decide +kernel
theorem dX12_goesOn_21 : decode cX12_goesOn 21 = .ok (.iload_n 1, 1) := by decide +kernel
theorem dX12_goesOn_22 : decode cX12_goesOn 22 = .ok (.invokevirtual 438, 3) := by decide +kernel
theorem dX12_goesOn_25 : decode cX12_goesOn 25 = .ok (.return_, 1) := by decide +kernel
theorem dX12_reads_0 : decode cX12_reads 0 = .ok (.sipush 352, 3) := by decide +kernel
theorem dX12_reads_3 : decode cX12_reads 3 = .ok (.iload_n 1, 1) := by decide +kernel
theorem dX12_reads_4 : decode cX12_reads 4 = .ok (.imul, 1) := by decide +kernel
theorem dX12_reads_5 : decode cX12_reads 5 = .ok (.istore_n 3, 1) := by decide +kernel
theorem dX12_reads_6 : decode cX12_reads 6 = .ok (.iconst 0, 1) := by decide +kernel
theorem dX12_reads_7 : decode cX12_reads 7 = .ok (.istore 4, 2) := by decide +kernel
theorem dX12_reads_9 : decode cX12_reads 9 = .ok (.aload_n 0, 1) := by decide +kernel
theorem dX12_reads_10 : decode cX12_reads 10 = .ok (.getfield 223, 3) := by decide +kernel
theorem dX12_reads_13 : decode cX12_reads 13 = .ok (.iload_n 1, 1) := by decide +kernel
theorem dX12_reads_14 : decode cX12_reads 14 = .ok (.iaload, 1) := by decide +kernel
theorem dX12_reads_15 : decode cX12_reads 15 = .ok (.iconst 2, 1) := by decide +kernel
theorem dX12_reads_16 : decode cX12_reads 16 = .ok (.if_icmp .ge 52, 3) := by decide +kernel
theorem dX12_reads_19 : decode cX12_reads 19 = .ok (.iload_n 2, 1) := by decide +kernel
theorem dX12_reads_20 : decode cX12_reads 20 = .ok (.bipush 32, 2) := by decide +kernel
theorem dX12_reads_22 : decode cX12_reads 22 = .ok (.if_icmp .ge 5, 3) := by decide +kernel
theorem dX12_reads_25 : decode cX12_reads 25 = .ok (.iconst (-1), 1) := by decide +kernel
theorem dX12_reads_26 : decode cX12_reads 26 = .ok (.ireturn, 1) := by decide +kernel
theorem dX12_reads_27 : decode cX12_reads 27 = .ok (.aload_n 0, 1) := by decide +kernel
theorem dX12_reads_28 : decode cX12_reads 28 = .ok (.getfield 13, 3) := by decide +kernel
theorem dX12_reads_31 : decode cX12_reads 31 = .ok (.iconst 0, 1) := by decide +kernel
theorem dX12_reads_32 : decode cX12_reads 32 = .ok (.aload_n 0, 1) := by decide +kernel
theorem dX12_reads_33 : decode cX12_reads 33 = .ok (.getfield 201, 3) := by decide +kernel
theorem dX12_reads_36 : decode cX12_reads 36 = .ok (.iload_n 3, 1) := by decide +kernel
theorem dX12_reads_37 : decode cX12_reads 37 = .ok (.bipush 96, 2) := by decide +kernel
theorem dX12_reads_39 : decode cX12_reads 39 = .ok (.iadd, 1) := by decide +kernel
theorem dX12_reads_40 : decode cX12_reads 40 = .ok (.bipush 32, 2) := by decide +kernel
theorem dX12_reads_42 : decode cX12_reads 42 = .ok (.invokestatic 265, 3) := by decide +kernel
theorem dX12_reads_45 : decode cX12_reads 45 = .ok (.aload_n 0, 1) := by decide +kernel
theorem dX12_reads_46 : decode cX12_reads 46 = .ok (.getfield 217, 3) := by decide +kernel
theorem dX12_reads_49 : decode cX12_reads 49 = .ok (.iload_n 1, 1) := by decide +kernel
theorem dX12_reads_50 : decode cX12_reads 50 = .ok (.iconst 1, 1) := by decide +kernel
theorem dX12_reads_51 : decode cX12_reads 51 = .ok (.bastore, 1) := by decide +kernel
theorem dX12_reads_52 : decode cX12_reads 52 = .ok (.aload_n 0, 1) := by decide +kernel
theorem dX12_reads_53 : decode cX12_reads 53 = .ok (.iload_n 1, 1) := by decide +kernel
theorem dX12_reads_54 : decode cX12_reads 54 = .ok (.aload_n 0, 1) := by decide +kernel
theorem dX12_reads_55 : decode cX12_reads 55 = .ok (.getfield 13, 3) := by decide +kernel
theorem dX12_reads_58 : decode cX12_reads 58 = .ok (.iconst 0, 1) := by decide +kernel
theorem dX12_reads_59 : decode cX12_reads 59 = .ok (.bipush 32, 2) := by decide +kernel
theorem dX12_reads_61 : decode cX12_reads 61 = .ok (.invokevirtual 410, 3) := by decide +kernel
theorem dX12_reads_64 : decode cX12_reads 64 = .ok (.bipush 32, 2) := by decide +kernel
theorem dX12_reads_66 : decode cX12_reads 66 = .ok (.istore 4, 2) := by decide +kernel
theorem dX12_reads_68 : decode cX12_reads 68 = .ok (.aload_n 0, 1) := by decide +kernel
theorem dX12_reads_69 : decode cX12_reads 69 = .ok (.getfield 223, 3) := by decide +kernel
theorem dX12_reads_72 : decode cX12_reads 72 = .ok (.iload_n 1, 1) := by decide +kernel
theorem dX12_reads_73 : decode cX12_reads 73 = .ok (.iaload, 1) := by decide +kernel
theorem dX12_reads_74 : decode cX12_reads 74 = .ok (.iconst 1, 1) := by decide +kernel
theorem dX12_reads_75 : decode cX12_reads 75 = .ok (.if_icmp .ne 13, 3) := by decide +kernel
theorem dX12_reads_78 : decode cX12_reads 78 = .ok (.aload_n 0, 1) := by decide +kernel
theorem dX12_reads_79 : decode cX12_reads 79 = .ok (.iload_n 1, 1) := by decide +kernel
theorem dX12_reads_80 : decode cX12_reads 80 = .ok (.sipush 224, 3) := by decide +kernel
theorem dX12_reads_83 : decode cX12_reads 83 = .ok (.bipush 96, 2) := by decide +kernel
theorem dX12_reads_85 : decode cX12_reads 85 = .ok (.invokevirtual 427, 3) := by decide +kernel
theorem dX12_reads_88 : decode cX12_reads 88 = .ok (.aload_n 0, 1) := by decide +kernel
theorem dX12_reads_89 : decode cX12_reads 89 = .ok (.getfield 223, 3) := by decide +kernel
theorem dX12_reads_92 : decode cX12_reads 92 = .ok (.iload_n 1, 1) := by decide +kernel
theorem dX12_reads_93 : decode cX12_reads 93 = .ok (.iaload, 1) := by decide +kernel
theorem dX12_reads_94 : decode cX12_reads 94 = .ok (.ifCond .le 67, 3) := by decide +kernel
theorem dX12_reads_97 : decode cX12_reads 97 = .ok (.iload_n 2, 1) := by decide +kernel
theorem dX12_reads_98 : decode cX12_reads 98 = .ok (.iload 4, 2) := by decide +kernel
theorem dX12_reads_100 : decode cX12_reads 100 = .ok (.bipush 48, 2) := by decide +kernel
theorem dX12_reads_102 : decode cX12_reads 102 = .ok (.iadd, 1) := by decide +kernel
theorem dX12_reads_103 : decode cX12_reads 103 = .ok (.if_icmp .lt 16, 3) := by decide +kernel
theorem dX12_reads_106 : decode cX12_reads 106 = .ok (.aload_n 0, 1) := by decide +kernel
theorem dX12_reads_107 : decode cX12_reads 107 = .ok (.iload_n 1, 1) := by decide +kernel
theorem dX12_reads_108 : decode cX12_reads 108 = .ok (.iload 4, 2) := by decide +kernel
theorem dX12_reads_110 : decode cX12_reads 110 = .ok (.bipush 48, 2) := by decide +kernel
theorem dX12_reads_112 : decode cX12_reads 112 = .ok (.iconst 0, 1) := by decide +kernel
theorem dX12_reads_113 : decode cX12_reads 113 = .ok (.invokevirtual 441, 3) := by decide +kernel
theorem dX12_reads_116 : decode cX12_reads 116 = .ok (.ifCond .ne 5, 3) := by decide +kernel
theorem dX12_reads_119 : decode cX12_reads 119 = .ok (.iconst (-1), 1) := by decide +kernel
theorem dX12_reads_120 : decode cX12_reads 120 = .ok (.ireturn, 1) := by decide +kernel
theorem dX12_reads_121 : decode cX12_reads 121 = .ok (.aload_n 0, 1) := by decide +kernel
theorem dX12_reads_122 : decode cX12_reads 122 = .ok (.getfield 16, 3) := by decide +kernel
theorem dX12_reads_125 : decode cX12_reads 125 = .ok (.iconst 0, 1) := by decide +kernel
theorem dX12_reads_126 : decode cX12_reads 126 = .ok (.aload_n 0, 1) := by decide +kernel
theorem dX12_reads_127 : decode cX12_reads 127 = .ok (.getfield 201, 3) := by decide +kernel
theorem dX12_reads_130 : decode cX12_reads 130 = .ok (.iload_n 3, 1) := by decide +kernel
theorem dX12_reads_131 : decode cX12_reads 131 = .ok (.sipush 128, 3) := by decide +kernel
theorem dX12_reads_134 : decode cX12_reads 134 = .ok (.iadd, 1) := by decide +kernel
theorem dX12_reads_135 : decode cX12_reads 135 = .ok (.bipush 32, 2) := by decide +kernel
theorem dX12_reads_137 : decode cX12_reads 137 = .ok (.invokestatic 265, 3) := by decide +kernel
theorem dX12_reads_140 : decode cX12_reads 140 = .ok (.aload_n 0, 1) := by decide +kernel
theorem dX12_reads_141 : decode cX12_reads 141 = .ok (.getfield 220, 3) := by decide +kernel
theorem dX12_reads_144 : decode cX12_reads 144 = .ok (.iload_n 1, 1) := by decide +kernel
theorem dX12_reads_145 : decode cX12_reads 145 = .ok (.iconst 1, 1) := by decide +kernel
theorem dX12_reads_146 : decode cX12_reads 146 = .ok (.bastore, 1) := by decide +kernel
theorem dX12_reads_147 : decode cX12_reads 147 = .ok (.aload_n 0, 1) := by decide +kernel
theorem dX12_reads_148 : decode cX12_reads 148 = .ok (.iload_n 1, 1) := by decide +kernel
theorem dX12_reads_149 : decode cX12_reads 149 = .ok (.sipush 224, 3) := by decide +kernel
theorem dX12_reads_152 : decode cX12_reads 152 = .ok (.sipush 128, 3) := by decide +kernel
theorem dX12_reads_155 : decode cX12_reads 155 = .ok (.invokevirtual 427, 3) := by decide +kernel
theorem dX12_reads_158 : decode cX12_reads 158 = .ok (.iinc 4 48, 3) := by decide +kernel
theorem dX12_reads_161 : decode cX12_reads 161 = .ok (.aload_n 0, 1) := by decide +kernel
theorem dX12_reads_162 : decode cX12_reads 162 = .ok (.iload_n 1, 1) := by decide +kernel
theorem dX12_reads_163 : decode cX12_reads 163 = .ok (.iload 4, 2) := by decide +kernel
theorem dX12_reads_165 : decode cX12_reads 165 = .ok (.iload_n 2, 1) := by decide +kernel
theorem dX12_reads_166 : decode cX12_reads 166 = .ok (.iload 4, 2) := by decide +kernel
theorem dX12_reads_168 : decode cX12_reads 168 = .ok (.isub, 1) := by decide +kernel
theorem dX12_reads_169 : decode cX12_reads 169 = .ok (.iconst 0, 1) := by decide +kernel
theorem dX12_reads_170 : decode cX12_reads 170 = .ok (.invokevirtual 441, 3) := by decide +kernel
theorem dX12_reads_173 : decode cX12_reads 173 = .ok (.ifCond .ne 5, 3) := by decide +kernel
theorem dX12_reads_176 : decode cX12_reads 176 = .ok (.iconst (-1), 1) := by decide +kernel
theorem dX12_reads_177 : decode cX12_reads 177 = .ok (.ireturn, 1) := by decide +kernel
theorem dX12_reads_178 : decode cX12_reads 178 = .ok (.iload_n 2, 1) := by decide +kernel
theorem dX12_reads_179 : decode cX12_reads 179 = .ok (.iload 4, 2) := by decide +kernel
theorem dX12_reads_181 : decode cX12_reads 181 = .ok (.isub, 1) := by decide +kernel
theorem dX12_reads_182 : decode cX12_reads 182 = .ok (.aload_n 0, 1) := by decide +kernel
theorem dX12_reads_183 : decode cX12_reads 183 = .ok (.getfield 214, 3) := by decide +kernel
theorem dX12_reads_186 : decode cX12_reads 186 = .ok (.iload_n 1, 1) := by decide +kernel
theorem dX12_reads_187 : decode cX12_reads 187 = .ok (.baload, 1) := by decide +kernel
theorem dX12_reads_188 : decode cX12_reads 188 = .ok (.ifCond .eq 8, 3) := by decide +kernel
theorem dX12_reads_191 : decode cX12_reads 191 = .ok (.bipush 16, 2) := by decide +kernel
theorem dX12_reads_193 : decode cX12_reads 193 = .ok (.goto 4, 3) := by decide +kernel
theorem dX12_reads_196 : decode cX12_reads 196 = .ok (.iconst 0, 1) := by decide +kernel
theorem dX12_reads_197 : decode cX12_reads 197 = .ok (.isub, 1) := by decide +kernel
theorem dX12_reads_198 : decode cX12_reads 198 = .ok (.ireturn, 1) := by decide +kernel
theorem dX12_read_0 : decode cX12_read 0 = .ok (.aload_n 0, 1) := by decide +kernel
theorem dX12_read_1 : decode cX12_read 1 = .ok (.iload_n 1, 1) := by decide +kernel
theorem dX12_read_2 : decode cX12_read 2 = .ok (.invokevirtual 421, 3) := by decide +kernel
theorem dX12_read_5 : decode cX12_read 5 = .ok (.ifCond .eq 15, 3) := by decide +kernel
theorem dX12_read_8 : decode cX12_read 8 = .ok (.iload_n 2, 1) := by decide +kernel
theorem dX12_read_9 : decode cX12_read 9 = .ok (.iconst 0, 1) := by decide +kernel
theorem dX12_read_10 : decode cX12_read 10 = .ok (.aload_n 0, 1) := by decide +kernel
theorem dX12_read_11 : decode cX12_read 11 = .ok (.getfield 364, 3) := by decide +kernel
theorem dX12_read_14 : decode cX12_read 14 = .ok (.invokestatic 373, 3) := by decide +kernel
theorem dX12_read_17 : decode cX12_read 17 = .ok (.ifCond .ne 6, 3) := by decide +kernel
theorem dX12_read_20 : decode cX12_read 20 = .ok (.bipush (-2), 2) := by decide +kernel
theorem dX12_read_22 : decode cX12_read 22 = .ok (.ireturn, 1) := by decide +kernel
theorem dX12_read_23 : decode cX12_read 23 = .ok (.aload_n 0, 1) := by decide +kernel
theorem dX12_read_24 : decode cX12_read 24 = .ok (.invokevirtual 381, 3) := by decide +kernel
theorem dX12_read_27 : decode cX12_read 27 = .ok (.aload_n 0, 1) := by decide +kernel
theorem dX12_read_28 : decode cX12_read 28 = .ok (.getfield 223, 3) := by decide +kernel
theorem dX12_read_31 : decode cX12_read 31 = .ok (.iload_n 1, 1) := by decide +kernel
theorem dX12_read_32 : decode cX12_read 32 = .ok (.iaload, 1) := by decide +kernel
theorem dX12_read_33 : decode cX12_read 33 = .ok (.iconst 3, 1) := by decide +kernel
theorem dX12_read_34 : decode cX12_read 34 = .ok (.if_icmp .eq 11, 3) := by decide +kernel
theorem dX12_read_37 : decode cX12_read 37 = .ok (.aload_n 0, 1) := by decide +kernel
theorem dX12_read_38 : decode cX12_read 38 = .ok (.iload_n 1, 1) := by decide +kernel
theorem dX12_read_39 : decode cX12_read 39 = .ok (.invokevirtual 424, 3) := by decide +kernel
theorem dX12_read_42 : decode cX12_read 42 = .ok (.ifCond .eq 5, 3) := by decide +kernel
theorem dX12_read_45 : decode cX12_read 45 = .ok (.iconst (-1), 1) := by decide +kernel
theorem dX12_read_46 : decode cX12_read 46 = .ok (.ireturn, 1) := by decide +kernel
theorem dX12_read_47 : decode cX12_read 47 = .ok (.aload_n 0, 1) := by decide +kernel
theorem dX12_read_48 : decode cX12_read 48 = .ok (.getfield 201, 3) := by decide +kernel
theorem dX12_read_51 : decode cX12_read 51 = .ok (.sipush 352, 3) := by decide +kernel
theorem dX12_read_54 : decode cX12_read 54 = .ok (.iload_n 1, 1) := by decide +kernel
theorem dX12_read_55 : decode cX12_read 55 = .ok (.imul, 1) := by decide +kernel
theorem dX12_read_56 : decode cX12_read 56 = .ok (.aload_n 0, 1) := by decide +kernel
theorem dX12_read_57 : decode cX12_read 57 = .ok (.getfield 204, 3) := by decide +kernel
theorem dX12_read_60 : decode cX12_read 60 = .ok (.iconst 0, 1) := by decide +kernel
theorem dX12_read_61 : decode cX12_read 61 = .ok (.sipush 352, 3) := by decide +kernel
theorem dX12_read_64 : decode cX12_read 64 = .ok (.invokestatic 265, 3) := by decide +kernel
theorem dX12_read_67 : decode cX12_read 67 = .ok (.aload_n 0, 1) := by decide +kernel
theorem dX12_read_68 : decode cX12_read 68 = .ok (.getfield 214, 3) := by decide +kernel
theorem dX12_read_71 : decode cX12_read 71 = .ok (.iload_n 1, 1) := by decide +kernel
theorem dX12_read_72 : decode cX12_read 72 = .ok (.baload, 1) := by decide +kernel
theorem dX12_read_73 : decode cX12_read 73 = .ok (.istore_n 3, 1) := by decide +kernel
theorem dX12_read_74 : decode cX12_read 74 = .ok (.aload_n 0, 1) := by decide +kernel
theorem dX12_read_75 : decode cX12_read 75 = .ok (.getfield 217, 3) := by decide +kernel
theorem dX12_read_78 : decode cX12_read 78 = .ok (.iload_n 1, 1) := by decide +kernel
theorem dX12_read_79 : decode cX12_read 79 = .ok (.baload, 1) := by decide +kernel
theorem dX12_read_80 : decode cX12_read 80 = .ok (.istore 4, 2) := by decide +kernel
theorem dX12_read_82 : decode cX12_read 82 = .ok (.aload_n 0, 1) := by decide +kernel
theorem dX12_read_83 : decode cX12_read 83 = .ok (.getfield 220, 3) := by decide +kernel
theorem dX12_read_86 : decode cX12_read 86 = .ok (.iload_n 1, 1) := by decide +kernel
theorem dX12_read_87 : decode cX12_read 87 = .ok (.baload, 1) := by decide +kernel
theorem dX12_read_88 : decode cX12_read 88 = .ok (.istore 5, 2) := by decide +kernel
theorem dX12_read_90 : decode cX12_read 90 = .ok (.aload_n 0, 1) := by decide +kernel
theorem dX12_read_91 : decode cX12_read 91 = .ok (.getfield 229, 3) := by decide +kernel
theorem dX12_read_94 : decode cX12_read 94 = .ok (.iload_n 1, 1) := by decide +kernel
theorem dX12_read_95 : decode cX12_read 95 = .ok (.laload, 1) := by decide +kernel
theorem dX12_read_96 : decode cX12_read 96 = .ok (.lstore 6, 2) := by decide +kernel
theorem dX12_read_98 : decode cX12_read 98 = .ok (.aload_n 0, 1) := by decide +kernel
theorem dX12_read_99 : decode cX12_read 99 = .ok (.iload_n 1, 1) := by decide +kernel
theorem dX12_read_100 : decode cX12_read 100 = .ok (.iload_n 2, 1) := by decide +kernel
theorem dX12_read_101 : decode cX12_read 101 = .ok (.invokevirtual 445, 3) := by decide +kernel
theorem dX12_read_104 : decode cX12_read 104 = .ok (.istore 8, 2) := by decide +kernel
theorem dX12_read_106 : decode cX12_read 106 = .ok (.iload 8, 2) := by decide +kernel
theorem dX12_read_108 : decode cX12_read 108 = .ok (.ifCond .ge 66, 3) := by decide +kernel
theorem dX12_read_111 : decode cX12_read 111 = .ok (.aload_n 0, 1) := by decide +kernel
theorem dX12_read_112 : decode cX12_read 112 = .ok (.getfield 204, 3) := by decide +kernel
theorem dX12_read_115 : decode cX12_read 115 = .ok (.iconst 0, 1) := by decide +kernel
theorem dX12_read_116 : decode cX12_read 116 = .ok (.aload_n 0, 1) := by decide +kernel
theorem dX12_read_117 : decode cX12_read 117 = .ok (.getfield 201, 3) := by decide +kernel
theorem dX12_read_120 : decode cX12_read 120 = .ok (.sipush 352, 3) := by decide +kernel
theorem dX12_read_123 : decode cX12_read 123 = .ok (.iload_n 1, 1) := by decide +kernel
theorem dX12_read_124 : decode cX12_read 124 = .ok (.imul, 1) := by decide +kernel
theorem dX12_read_125 : decode cX12_read 125 = .ok (.sipush 352, 3) := by decide +kernel
theorem dX12_read_128 : decode cX12_read 128 = .ok (.invokestatic 265, 3) := by decide +kernel
theorem dX12_read_131 : decode cX12_read 131 = .ok (.aload_n 0, 1) := by decide +kernel
theorem dX12_read_132 : decode cX12_read 132 = .ok (.getfield 214, 3) := by decide +kernel
theorem dX12_read_135 : decode cX12_read 135 = .ok (.iload_n 1, 1) := by decide +kernel
theorem dX12_read_136 : decode cX12_read 136 = .ok (.iload_n 3, 1) := by decide +kernel
theorem dX12_read_137 : decode cX12_read 137 = .ok (.bastore, 1) := by decide +kernel
theorem dX12_read_138 : decode cX12_read 138 = .ok (.aload_n 0, 1) := by decide +kernel
theorem dX12_read_139 : decode cX12_read 139 = .ok (.getfield 217, 3) := by decide +kernel
theorem dX12_read_142 : decode cX12_read 142 = .ok (.iload_n 1, 1) := by decide +kernel
theorem dX12_read_143 : decode cX12_read 143 = .ok (.iload 4, 2) := by decide +kernel
theorem dX12_read_145 : decode cX12_read 145 = .ok (.bastore, 1) := by decide +kernel
theorem dX12_read_146 : decode cX12_read 146 = .ok (.aload_n 0, 1) := by decide +kernel
theorem dX12_read_147 : decode cX12_read 147 = .ok (.getfield 220, 3) := by decide +kernel
theorem dX12_read_150 : decode cX12_read 150 = .ok (.iload_n 1, 1) := by decide +kernel
theorem dX12_read_151 : decode cX12_read 151 = .ok (.iload 5, 2) := by decide +kernel
theorem dX12_read_153 : decode cX12_read 153 = .ok (.bastore, 1) := by decide +kernel
theorem dX12_read_154 : decode cX12_read 154 = .ok (.aload_n 0, 1) := by decide +kernel
theorem dX12_read_155 : decode cX12_read 155 = .ok (.getfield 229, 3) := by decide +kernel
theorem dX12_read_158 : decode cX12_read 158 = .ok (.iload_n 1, 1) := by decide +kernel
theorem dX12_read_159 : decode cX12_read 159 = .ok (.lload 6, 2) := by decide +kernel
theorem dX12_read_161 : decode cX12_read 161 = .ok (.lastore, 1) := by decide +kernel
theorem dX12_read_162 : decode cX12_read 162 = .ok (.aload_n 0, 1) := by decide +kernel
theorem dX12_read_163 : decode cX12_read 163 = .ok (.getfield 226, 3) := by decide +kernel
theorem dX12_read_166 : decode cX12_read 166 = .ok (.iload_n 1, 1) := by decide +kernel
theorem dX12_read_167 : decode cX12_read 167 = .ok (.dup2, 1) := by decide +kernel
theorem dX12_read_168 : decode cX12_read 168 = .ok (.iaload, 1) := by decide +kernel
theorem dX12_read_169 : decode cX12_read 169 = .ok (.iconst 1, 1) := by decide +kernel
theorem dX12_read_170 : decode cX12_read 170 = .ok (.iadd, 1) := by decide +kernel
theorem dX12_read_171 : decode cX12_read 171 = .ok (.iastore, 1) := by decide +kernel
theorem dX12_read_172 : decode cX12_read 172 = .ok (.iconst (-1), 1) := by decide +kernel
theorem dX12_read_173 : decode cX12_read 173 = .ok (.ireturn, 1) := by decide +kernel
theorem dX12_read_174 : decode cX12_read 174 = .ok (.aload_n 0, 1) := by decide +kernel
theorem dX12_read_175 : decode cX12_read 175 = .ok (.iload_n 1, 1) := by decide +kernel
theorem dX12_read_176 : decode cX12_read 176 = .ok (.invokevirtual 435, 3) := by decide +kernel
theorem dX12_read_179 : decode cX12_read 179 = .ok (.aload_n 0, 1) := by decide +kernel
theorem dX12_read_180 : decode cX12_read 180 = .ok (.aload_n 0, 1) := by decide +kernel
theorem dX12_read_181 : decode cX12_read 181 = .ok (.getfield 16, 3) := by decide +kernel
theorem dX12_read_184 : decode cX12_read 184 = .ok (.iload 8, 2) := by decide +kernel
theorem dX12_read_186 : decode cX12_read 186 = .ok (.invokevirtual 388, 3) := by decide +kernel
theorem dX12_read_189 : decode cX12_read 189 = .ok (.ireturn, 1) := by decide +kernel
theorem dX12_send_0 : decode cX12_send 0 = .ok (.aload_n 0, 1) := by decide +kernel
theorem dX12_send_1 : decode cX12_send 1 = .ok (.iload_n 1, 1) := by decide +kernel
theorem dX12_send_2 : decode cX12_send 2 = .ok (.invokevirtual 421, 3) := by decide +kernel
theorem dX12_send_5 : decode cX12_send 5 = .ok (.ifCond .eq 22, 3) := by decide +kernel
theorem dX12_send_8 : decode cX12_send 8 = .ok (.iload_n 2, 1) := by decide +kernel
theorem dX12_send_9 : decode cX12_send 9 = .ok (.iconst 0, 1) := by decide +kernel
theorem dX12_send_10 : decode cX12_send 10 = .ok (.sipush 900, 3) := by decide +kernel
theorem dX12_send_13 : decode cX12_send 13 = .ok (.invokestatic 373, 3) := by decide +kernel
theorem dX12_send_16 : decode cX12_send 16 = .ok (.ifCond .eq 11, 3) := by decide +kernel
theorem dX12_send_19 : decode cX12_send 19 = .ok (.iload_n 2, 1) := by decide +kernel
theorem dX12_send_20 : decode cX12_send 20 = .ok (.aload_n 0, 1) := by decide +kernel
theorem dX12_send_21 : decode cX12_send 21 = .ok (.getfield 364, 3) := by decide +kernel
theorem dX12_send_24 : decode cX12_send 24 = .ok (.if_icmp .le 6, 3) := by decide +kernel
theorem dX12_send_27 : decode cX12_send 27 = .ok (.bipush (-2), 2) := by decide +kernel
theorem dX12_send_29 : decode cX12_send 29 = .ok (.ireturn, 1) := by decide +kernel
theorem dX12_send_30 : decode cX12_send 30 = .ok (.aload_n 0, 1) := by decide +kernel
theorem dX12_send_31 : decode cX12_send 31 = .ok (.invokevirtual 381, 3) := by decide +kernel
theorem dX12_send_34 : decode cX12_send 34 = .ok (.aload_n 0, 1) := by decide +kernel
theorem dX12_send_35 : decode cX12_send 35 = .ok (.getfield 223, 3) := by decide +kernel
theorem dX12_send_38 : decode cX12_send 38 = .ok (.iload_n 1, 1) := by decide +kernel
theorem dX12_send_39 : decode cX12_send 39 = .ok (.iaload, 1) := by decide +kernel
theorem dX12_send_40 : decode cX12_send 40 = .ok (.iconst 3, 1) := by decide +kernel
theorem dX12_send_41 : decode cX12_send 41 = .ok (.if_icmp .ge 5, 3) := by decide +kernel
theorem dX12_send_44 : decode cX12_send 44 = .ok (.iconst (-1), 1) := by decide +kernel
theorem dX12_send_45 : decode cX12_send 45 = .ok (.ireturn, 1) := by decide +kernel
theorem dX12_send_46 : decode cX12_send 46 = .ok (.sipush 352, 3) := by decide +kernel
theorem dX12_send_49 : decode cX12_send 49 = .ok (.iload_n 1, 1) := by decide +kernel
theorem dX12_send_50 : decode cX12_send 50 = .ok (.imul, 1) := by decide +kernel
theorem dX12_send_51 : decode cX12_send 51 = .ok (.aload_n 0, 1) := by decide +kernel
theorem dX12_send_52 : decode cX12_send 52 = .ok (.getfield 211, 3) := by decide +kernel
theorem dX12_send_55 : decode cX12_send 55 = .ok (.iload_n 1, 1) := by decide +kernel
theorem dX12_send_56 : decode cX12_send 56 = .ok (.baload, 1) := by decide +kernel
theorem dX12_send_57 : decode cX12_send 57 = .ok (.ifCond .eq 9, 3) := by decide +kernel
theorem dX12_send_60 : decode cX12_send 60 = .ok (.sipush 288, 3) := by decide +kernel
theorem dX12_send_63 : decode cX12_send 63 = .ok (.goto 6, 3) := by decide +kernel
theorem dX12_send_66 : decode cX12_send 66 = .ok (.sipush 320, 3) := by decide +kernel
theorem dX12_send_69 : decode cX12_send 69 = .ok (.iadd, 1) := by decide +kernel
theorem dX12_send_70 : decode cX12_send 70 = .ok (.istore_n 3, 1) := by decide +kernel
theorem dX12_send_71 : decode cX12_send 71 = .ok (.aload_n 0, 1) := by decide +kernel
theorem dX12_send_72 : decode cX12_send 72 = .ok (.aload_n 0, 1) := by decide +kernel
theorem dX12_send_73 : decode cX12_send 73 = .ok (.getfield 201, 3) := by decide +kernel
theorem dX12_send_76 : decode cX12_send 76 = .ok (.iload_n 3, 1) := by decide +kernel
theorem dX12_send_77 : decode cX12_send 77 = .ok (.aload_n 0, 1) := by decide +kernel
theorem dX12_send_78 : decode cX12_send 78 = .ok (.getfield 211, 3) := by decide +kernel
theorem dX12_send_81 : decode cX12_send 81 = .ok (.iload_n 1, 1) := by decide +kernel
theorem dX12_send_82 : decode cX12_send 82 = .ok (.baload, 1) := by decide +kernel
theorem dX12_send_83 : decode cX12_send 83 = .ok (.ifCond .eq 12, 3) := by decide +kernel
theorem dX12_send_86 : decode cX12_send 86 = .ok (.aload_n 0, 1) := by decide +kernel
theorem dX12_send_87 : decode cX12_send 87 = .ok (.getfield 232, 3) := by decide +kernel
theorem dX12_send_90 : decode cX12_send 90 = .ok (.iload_n 1, 1) := by decide +kernel
theorem dX12_send_91 : decode cX12_send 91 = .ok (.laload, 1) := by decide +kernel
theorem dX12_send_92 : decode cX12_send 92 = .ok (.goto 9, 3) := by decide +kernel
theorem dX12_send_95 : decode cX12_send 95 = .ok (.aload_n 0, 1) := by decide +kernel
theorem dX12_send_96 : decode cX12_send 96 = .ok (.getfield 235, 3) := by decide +kernel
theorem dX12_send_99 : decode cX12_send 99 = .ok (.iload_n 1, 1) := by decide +kernel
theorem dX12_send_100 : decode cX12_send 100 = .ok (.laload, 1) := by decide +kernel
theorem dX12_send_101 : decode cX12_send 101 = .ok (.aload_n 0, 1) := by decide +kernel
theorem dX12_send_102 : decode cX12_send 102 = .ok (.getfield 13, 3) := by decide +kernel
theorem dX12_send_105 : decode cX12_send 105 = .ok (.iconst 0, 1) := by decide +kernel
theorem dX12_send_106 : decode cX12_send 106 = .ok (.iconst 0, 1) := by decide +kernel
theorem dX12_send_107 : decode cX12_send 107 = .ok (.aload_n 0, 1) := by decide +kernel
theorem dX12_send_108 : decode cX12_send 108 = .ok (.getfield 13, 3) := by decide +kernel
theorem dX12_send_111 : decode cX12_send 111 = .ok (.iconst 0, 1) := by decide +kernel
theorem dX12_send_112 : decode cX12_send 112 = .ok (.iload_n 2, 1) := by decide +kernel
theorem dX12_send_113 : decode cX12_send 113 = .ok (.aload_n 0, 1) := by decide +kernel
theorem dX12_send_114 : decode cX12_send 114 = .ok (.getfield 16, 3) := by decide +kernel
theorem dX12_send_117 : decode cX12_send 117 = .ok (.iconst 0, 1) := by decide +kernel
theorem dX12_send_118 : decode cX12_send 118 = .ok (.invokevirtual 394, 3) := by decide +kernel
theorem dX12_send_121 : decode cX12_send 121 = .ok (.aload_n 0, 1) := by decide +kernel
theorem dX12_send_122 : decode cX12_send 122 = .ok (.iload_n 1, 1) := by decide +kernel
theorem dX12_send_123 : decode cX12_send 123 = .ok (.aload_n 0, 1) := by decide +kernel
theorem dX12_send_124 : decode cX12_send 124 = .ok (.getfield 211, 3) := by decide +kernel
theorem dX12_send_127 : decode cX12_send 127 = .ok (.iload_n 1, 1) := by decide +kernel
theorem dX12_send_128 : decode cX12_send 128 = .ok (.baload, 1) := by decide +kernel
theorem dX12_send_129 : decode cX12_send 129 = .ok (.invokevirtual 448, 3) := by decide +kernel
theorem dX12_send_132 : decode cX12_send 132 = .ok (.aload_n 0, 1) := by decide +kernel
theorem dX12_send_133 : decode cX12_send 133 = .ok (.aload_n 0, 1) := by decide +kernel
theorem dX12_send_134 : decode cX12_send 134 = .ok (.getfield 16, 3) := by decide +kernel
theorem dX12_send_137 : decode cX12_send 137 = .ok (.iload_n 2, 1) := by decide +kernel
theorem dX12_send_138 : decode cX12_send 138 = .ok (.bipush 16, 2) := by decide +kernel
theorem dX12_send_140 : decode cX12_send 140 = .ok (.iadd, 1) := by decide +kernel
theorem dX12_send_141 : decode cX12_send 141 = .ok (.invokevirtual 388, 3) := by decide +kernel
theorem dX12_send_144 : decode cX12_send 144 = .ok (.ireturn, 1) := by decide +kernel
theorem dX12_counts_0 : decode cX12_counts 0 = .ok (.iload_n 2, 1) := by decide +kernel
theorem dX12_counts_1 : decode cX12_counts 1 = .ok (.ifCond .eq 16, 3) := by decide +kernel
theorem dX12_counts_4 : decode cX12_counts 4 = .ok (.aload_n 0, 1) := by decide +kernel
theorem dX12_counts_5 : decode cX12_counts 5 = .ok (.getfield 232, 3) := by decide +kernel
theorem dX12_counts_8 : decode cX12_counts 8 = .ok (.iload_n 1, 1) := by decide +kernel
theorem dX12_counts_9 : decode cX12_counts 9 = .ok (.dup2, 1) := by decide +kernel
theorem dX12_counts_10 : decode cX12_counts 10 = .ok (.laload, 1) := by decide +kernel
theorem dX12_counts_11 : decode cX12_counts 11 = .ok (.lconst 1, 1) := by decide +kernel
theorem dX12_counts_12 : decode cX12_counts 12 = .ok (.ladd, 1) := by decide +kernel
theorem dX12_counts_13 : decode cX12_counts 13 = .ok (.lastore, 1) := by decide +kernel
theorem dX12_counts_14 : decode cX12_counts 14 = .ok (.goto 13, 3) := by decide +kernel
theorem dX12_counts_17 : decode cX12_counts 17 = .ok (.aload_n 0, 1) := by decide +kernel
theorem dX12_counts_18 : decode cX12_counts 18 = .ok (.getfield 235, 3) := by decide +kernel
theorem dX12_counts_21 : decode cX12_counts 21 = .ok (.iload_n 1, 1) := by decide +kernel
theorem dX12_counts_22 : decode cX12_counts 22 = .ok (.dup2, 1) := by decide +kernel
theorem dX12_counts_23 : decode cX12_counts 23 = .ok (.laload, 1) := by decide +kernel
theorem dX12_counts_24 : decode cX12_counts 24 = .ok (.lconst 1, 1) := by decide +kernel
theorem dX12_counts_25 : decode cX12_counts 25 = .ok (.ladd, 1) := by decide +kernel
theorem dX12_counts_26 : decode cX12_counts 26 = .ok (.lastore, 1) := by decide +kernel
theorem dX12_counts_27 : decode cX12_counts 27 = .ok (.return_, 1) := by decide +kernel
theorem dX12_receive_0 : decode cX12_receive 0 = .ok (.aload_n 0, 1) := by decide +kernel
theorem dX12_receive_1 : decode cX12_receive 1 = .ok (.iload_n 1, 1) := by decide +kernel
theorem dX12_receive_2 : decode cX12_receive 2 = .ok (.invokevirtual 421, 3) := by decide +kernel
theorem dX12_receive_5 : decode cX12_receive 5 = .ok (.ifCond .eq 15, 3) := by decide +kernel
theorem dX12_receive_8 : decode cX12_receive 8 = .ok (.iload_n 2, 1) := by decide +kernel
theorem dX12_receive_9 : decode cX12_receive 9 = .ok (.iconst 0, 1) := by decide +kernel
theorem dX12_receive_10 : decode cX12_receive 10 = .ok (.aload_n 0, 1) := by decide +kernel
theorem dX12_receive_11 : decode cX12_receive 11 = .ok (.getfield 364, 3) := by decide +kernel
theorem dX12_receive_14 : decode cX12_receive 14 = .ok (.invokestatic 373, 3) := by decide +kernel
theorem dX12_receive_17 : decode cX12_receive 17 = .ok (.ifCond .ne 6, 3) := by decide +kernel
theorem dX12_receive_20 : decode cX12_receive 20 = .ok (.bipush (-2), 2) := by decide +kernel
theorem dX12_receive_22 : decode cX12_receive 22 = .ok (.ireturn, 1) := by decide +kernel
theorem dX12_receive_23 : decode cX12_receive 23 = .ok (.aload_n 0, 1) := by decide +kernel
theorem dX12_receive_24 : decode cX12_receive 24 = .ok (.invokevirtual 381, 3) := by decide +kernel
theorem dX12_receive_27 : decode cX12_receive 27 = .ok (.aload_n 0, 1) := by decide +kernel
theorem dX12_receive_28 : decode cX12_receive 28 = .ok (.getfield 223, 3) := by decide +kernel
theorem dX12_receive_31 : decode cX12_receive 31 = .ok (.iload_n 1, 1) := by decide +kernel
theorem dX12_receive_32 : decode cX12_receive 32 = .ok (.iaload, 1) := by decide +kernel
theorem dX12_receive_33 : decode cX12_receive 33 = .ok (.iconst 3, 1) := by decide +kernel
theorem dX12_receive_34 : decode cX12_receive 34 = .ok (.if_icmp .ge 5, 3) := by decide +kernel
theorem dX12_receive_37 : decode cX12_receive 37 = .ok (.iconst (-1), 1) := by decide +kernel
theorem dX12_receive_38 : decode cX12_receive 38 = .ok (.ireturn, 1) := by decide +kernel
theorem dX12_receive_39 : decode cX12_receive 39 = .ok (.sipush 352, 3) := by decide +kernel
theorem dX12_receive_42 : decode cX12_receive 42 = .ok (.iload_n 1, 1) := by decide +kernel
theorem dX12_receive_43 : decode cX12_receive 43 = .ok (.imul, 1) := by decide +kernel
theorem dX12_receive_44 : decode cX12_receive 44 = .ok (.aload_n 0, 1) := by decide +kernel
theorem dX12_receive_45 : decode cX12_receive 45 = .ok (.getfield 211, 3) := by decide +kernel
theorem dX12_receive_48 : decode cX12_receive 48 = .ok (.iload_n 1, 1) := by decide +kernel
theorem dX12_receive_49 : decode cX12_receive 49 = .ok (.baload, 1) := by decide +kernel
theorem dX12_receive_50 : decode cX12_receive 50 = .ok (.ifCond .eq 9, 3) := by decide +kernel
theorem dX12_receive_53 : decode cX12_receive 53 = .ok (.sipush 320, 3) := by decide +kernel
theorem dX12_receive_56 : decode cX12_receive 56 = .ok (.goto 6, 3) := by decide +kernel
theorem dX12_receive_59 : decode cX12_receive 59 = .ok (.sipush 288, 3) := by decide +kernel
theorem dX12_receive_62 : decode cX12_receive 62 = .ok (.iadd, 1) := by decide +kernel
theorem dX12_receive_63 : decode cX12_receive 63 = .ok (.istore_n 3, 1) := by decide +kernel
theorem dX12_receive_64 : decode cX12_receive 64 = .ok (.aload_n 0, 1) := by decide +kernel
theorem dX12_receive_65 : decode cX12_receive 65 = .ok (.aload_n 0, 1) := by decide +kernel
theorem dX12_receive_66 : decode cX12_receive 66 = .ok (.getfield 201, 3) := by decide +kernel
theorem dX12_receive_69 : decode cX12_receive 69 = .ok (.iload_n 3, 1) := by decide +kernel
theorem dX12_receive_70 : decode cX12_receive 70 = .ok (.aload_n 0, 1) := by decide +kernel
theorem dX12_receive_71 : decode cX12_receive 71 = .ok (.getfield 211, 3) := by decide +kernel
theorem dX12_receive_74 : decode cX12_receive 74 = .ok (.iload_n 1, 1) := by decide +kernel
theorem dX12_receive_75 : decode cX12_receive 75 = .ok (.baload, 1) := by decide +kernel
theorem dX12_receive_76 : decode cX12_receive 76 = .ok (.ifCond .eq 12, 3) := by decide +kernel
theorem dX12_receive_79 : decode cX12_receive 79 = .ok (.aload_n 0, 1) := by decide +kernel
theorem dX12_receive_80 : decode cX12_receive 80 = .ok (.getfield 235, 3) := by decide +kernel
theorem dX12_receive_83 : decode cX12_receive 83 = .ok (.iload_n 1, 1) := by decide +kernel
theorem dX12_receive_84 : decode cX12_receive 84 = .ok (.laload, 1) := by decide +kernel
theorem dX12_receive_85 : decode cX12_receive 85 = .ok (.goto 9, 3) := by decide +kernel
theorem dX12_receive_88 : decode cX12_receive 88 = .ok (.aload_n 0, 1) := by decide +kernel
theorem dX12_receive_89 : decode cX12_receive 89 = .ok (.getfield 232, 3) := by decide +kernel
theorem dX12_receive_92 : decode cX12_receive 92 = .ok (.iload_n 1, 1) := by decide +kernel
theorem dX12_receive_93 : decode cX12_receive 93 = .ok (.laload, 1) := by decide +kernel
theorem dX12_receive_94 : decode cX12_receive 94 = .ok (.aload_n 0, 1) := by decide +kernel
theorem dX12_receive_95 : decode cX12_receive 95 = .ok (.getfield 13, 3) := by decide +kernel
theorem dX12_receive_98 : decode cX12_receive 98 = .ok (.iconst 0, 1) := by decide +kernel
theorem dX12_receive_99 : decode cX12_receive 99 = .ok (.iconst 0, 1) := by decide +kernel
theorem dX12_receive_100 : decode cX12_receive 100 = .ok (.aload_n 0, 1) := by decide +kernel
theorem dX12_receive_101 : decode cX12_receive 101 = .ok (.getfield 13, 3) := by decide +kernel
theorem dX12_receive_104 : decode cX12_receive 104 = .ok (.iconst 0, 1) := by decide +kernel
theorem dX12_receive_105 : decode cX12_receive 105 = .ok (.iload_n 2, 1) := by decide +kernel
theorem dX12_receive_106 : decode cX12_receive 106 = .ok (.aload_n 0, 1) := by decide +kernel
theorem dX12_receive_107 : decode cX12_receive 107 = .ok (.getfield 16, 3) := by decide +kernel
theorem dX12_receive_110 : decode cX12_receive 110 = .ok (.iconst 0, 1) := by decide +kernel
theorem dX12_receive_111 : decode cX12_receive 111 = .ok (.invokevirtual 398, 3) := by decide +kernel
theorem dX12_receive_114 : decode cX12_receive 114 = .ok (.ifCond .ne 15, 3) := by decide +kernel
theorem dX12_receive_117 : decode cX12_receive 117 = .ok (.aload_n 0, 1) := by decide +kernel
theorem dX12_receive_118 : decode cX12_receive 118 = .ok (.getfield 226, 3) := by decide +kernel
theorem dX12_receive_121 : decode cX12_receive 121 = .ok (.iload_n 1, 1) := by decide +kernel
theorem dX12_receive_122 : decode cX12_receive 122 = .ok (.dup2, 1) := by decide +kernel
theorem dX12_receive_123 : decode cX12_receive 123 = .ok (.iaload, 1) := by decide +kernel
theorem dX12_receive_124 : decode cX12_receive 124 = .ok (.iconst 1, 1) := by decide +kernel
theorem dX12_receive_125 : decode cX12_receive 125 = .ok (.iadd, 1) := by decide +kernel
theorem dX12_receive_126 : decode cX12_receive 126 = .ok (.iastore, 1) := by decide +kernel
theorem dX12_receive_127 : decode cX12_receive 127 = .ok (.iconst (-1), 1) := by decide +kernel
theorem dX12_receive_128 : decode cX12_receive 128 = .ok (.ireturn, 1) := by decide +kernel
theorem dX12_receive_129 : decode cX12_receive 129 = .ok (.aload_n 0, 1) := by decide +kernel
theorem dX12_receive_130 : decode cX12_receive 130 = .ok (.iload_n 1, 1) := by decide +kernel
theorem dX12_receive_131 : decode cX12_receive 131 = .ok (.aload_n 0, 1) := by decide +kernel
theorem dX12_receive_132 : decode cX12_receive 132 = .ok (.getfield 211, 3) := by decide +kernel
theorem dX12_receive_135 : decode cX12_receive 135 = .ok (.iload_n 1, 1) := by decide +kernel
theorem dX12_receive_136 : decode cX12_receive 136 = .ok (.baload, 1) := by decide +kernel
theorem dX12_receive_137 : decode cX12_receive 137 = .ok (.ifCond .ne 7, 3) := by decide +kernel
theorem dX12_receive_140 : decode cX12_receive 140 = .ok (.iconst 1, 1) := by decide +kernel
theorem dX12_receive_141 : decode cX12_receive 141 = .ok (.goto 4, 3) := by decide +kernel
theorem dX12_receive_144 : decode cX12_receive 144 = .ok (.iconst 0, 1) := by decide +kernel
theorem dX12_receive_145 : decode cX12_receive 145 = .ok (.invokevirtual 448, 3) := by decide +kernel
theorem dX12_receive_148 : decode cX12_receive 148 = .ok (.aload_n 0, 1) := by decide +kernel
theorem dX12_receive_149 : decode cX12_receive 149 = .ok (.aload_n 0, 1) := by decide +kernel
theorem dX12_receive_150 : decode cX12_receive 150 = .ok (.getfield 16, 3) := by decide +kernel
theorem dX12_receive_153 : decode cX12_receive 153 = .ok (.iload_n 2, 1) := by decide +kernel
theorem dX12_receive_154 : decode cX12_receive 154 = .ok (.bipush 16, 2) := by decide +kernel
theorem dX12_receive_156 : decode cX12_receive 156 = .ok (.isub, 1) := by decide +kernel
theorem dX12_receive_157 : decode cX12_receive 157 = .ok (.invokevirtual 388, 3) := by decide +kernel
theorem dX12_receive_160 : decode cX12_receive 160 = .ok (.ireturn, 1) := by decide +kernel
theorem dX12_rekey_0 : decode cX12_rekey 0 = .ok (.aload_n 0, 1) := by decide +kernel
theorem dX12_rekey_1 : decode cX12_rekey 1 = .ok (.iload_n 1, 1) := by decide +kernel
theorem dX12_rekey_2 : decode cX12_rekey 2 = .ok (.invokevirtual 421, 3) := by decide +kernel
theorem dX12_rekey_5 : decode cX12_rekey 5 = .ok (.ifCond .eq 13, 3) := by decide +kernel
theorem dX12_rekey_8 : decode cX12_rekey 8 = .ok (.aload_n 0, 1) := by decide +kernel
theorem dX12_rekey_9 : decode cX12_rekey 9 = .ok (.getfield 223, 3) := by decide +kernel
theorem dX12_rekey_12 : decode cX12_rekey 12 = .ok (.iload_n 1, 1) := by decide +kernel
theorem dX12_rekey_13 : decode cX12_rekey 13 = .ok (.iaload, 1) := by decide +kernel
theorem dX12_rekey_14 : decode cX12_rekey 14 = .ok (.iconst 3, 1) := by decide +kernel
theorem dX12_rekey_15 : decode cX12_rekey 15 = .ok (.if_icmp .ge 5, 3) := by decide +kernel
theorem dX12_rekey_18 : decode cX12_rekey 18 = .ok (.iconst 0, 1) := by decide +kernel
theorem dX12_rekey_19 : decode cX12_rekey 19 = .ok (.ireturn, 1) := by decide +kernel
theorem dX12_rekey_20 : decode cX12_rekey 20 = .ok (.sipush 352, 3) := by decide +kernel
theorem dX12_rekey_23 : decode cX12_rekey 23 = .ok (.iload_n 1, 1) := by decide +kernel
theorem dX12_rekey_24 : decode cX12_rekey 24 = .ok (.imul, 1) := by decide +kernel
theorem dX12_rekey_25 : decode cX12_rekey 25 = .ok (.aload_n 0, 1) := by decide +kernel
theorem dX12_rekey_26 : decode cX12_rekey 26 = .ok (.getfield 211, 3) := by decide +kernel
theorem dX12_rekey_29 : decode cX12_rekey 29 = .ok (.iload_n 1, 1) := by decide +kernel
theorem dX12_rekey_30 : decode cX12_rekey 30 = .ok (.baload, 1) := by decide +kernel
theorem dX12_rekey_31 : decode cX12_rekey 31 = .ok (.iload_n 2, 1) := by decide +kernel
theorem dX12_rekey_32 : decode cX12_rekey 32 = .ok (.if_icmp .ne 9, 3) := by decide +kernel
theorem dX12_rekey_35 : decode cX12_rekey 35 = .ok (.sipush 288, 3) := by decide +kernel
theorem dX12_rekey_38 : decode cX12_rekey 38 = .ok (.goto 6, 3) := by decide +kernel
theorem dX12_rekey_41 : decode cX12_rekey 41 = .ok (.sipush 320, 3) := by decide +kernel
theorem dX12_rekey_44 : decode cX12_rekey 44 = .ok (.iadd, 1) := by decide +kernel
theorem dX12_rekey_45 : decode cX12_rekey 45 = .ok (.istore_n 3, 1) := by decide +kernel
theorem dX12_rekey_46 : decode cX12_rekey 46 = .ok (.aload_n 0, 1) := by decide +kernel
theorem dX12_rekey_47 : decode cX12_rekey 47 = .ok (.aload_n 0, 1) := by decide +kernel
theorem dX12_rekey_48 : decode cX12_rekey 48 = .ok (.getfield 201, 3) := by decide +kernel
theorem dX12_rekey_51 : decode cX12_rekey 51 = .ok (.iload_n 3, 1) := by decide +kernel
theorem dX12_rekey_52 : decode cX12_rekey 52 = .ok (.iconst 1, 1) := by decide +kernel
theorem dX12_rekey_53 : decode cX12_rekey 53 = .ok (.ldc2_w 452, 3) := by decide +kernel
theorem dX12_rekey_56 : decode cX12_rekey 56 = .ok (.invokevirtual 338, 3) := by decide +kernel
theorem dX12_rekey_59 : decode cX12_rekey 59 = .ok (.aload_n 0, 1) := by decide +kernel
theorem dX12_rekey_60 : decode cX12_rekey 60 = .ok (.getfield 177, 3) := by decide +kernel
theorem dX12_rekey_63 : decode cX12_rekey 63 = .ok (.iconst 0, 1) := by decide +kernel
theorem dX12_rekey_64 : decode cX12_rekey 64 = .ok (.aload_n 0, 1) := by decide +kernel
theorem dX12_rekey_65 : decode cX12_rekey 65 = .ok (.getfield 201, 3) := by decide +kernel
theorem dX12_rekey_68 : decode cX12_rekey 68 = .ok (.iload_n 3, 1) := by decide +kernel
theorem dX12_rekey_69 : decode cX12_rekey 69 = .ok (.bipush 32, 2) := by decide +kernel
theorem dX12_rekey_71 : decode cX12_rekey 71 = .ok (.invokestatic 265, 3) := by decide +kernel
theorem dX12_rekey_74 : decode cX12_rekey 74 = .ok (.iconst 1, 1) := by decide +kernel
theorem dX12_rekey_75 : decode cX12_rekey 75 = .ok (.ireturn, 1) := by decide +kernel
theorem dX12_state_0 : decode cX12_state 0 = .ok (.aload_n 0, 1) := by decide +kernel
theorem dX12_state_1 : decode cX12_state 1 = .ok (.iload_n 1, 1) := by decide +kernel
theorem dX12_state_2 : decode cX12_state 2 = .ok (.invokevirtual 421, 3) := by decide +kernel
theorem dX12_state_5 : decode cX12_state 5 = .ok (.ifCond .ne 5, 3) := by decide +kernel
theorem dX12_state_8 : decode cX12_state 8 = .ok (.iconst (-1), 1) := by decide +kernel
theorem dX12_state_9 : decode cX12_state 9 = .ok (.ireturn, 1) := by decide +kernel
theorem dX12_state_10 : decode cX12_state 10 = .ok (.iload_n 2, 1) := by decide +kernel
theorem dX12_state_11 : decode cX12_state 11 = .ok (.tableswitch 133 0 5 #[37, 44, 59, 74, 100, 126], 37) := by decide +kernel
theorem dX12_state_48 : decode cX12_state 48 = .ok (.aload_n 0, 1) := by decide +kernel
theorem dX12_state_49 : decode cX12_state 49 = .ok (.getfield 223, 3) := by decide +kernel
theorem dX12_state_52 : decode cX12_state 52 = .ok (.iload_n 1, 1) := by decide +kernel
theorem dX12_state_53 : decode cX12_state 53 = .ok (.iaload, 1) := by decide +kernel
theorem dX12_state_54 : decode cX12_state 54 = .ok (.ireturn, 1) := by decide +kernel
theorem dX12_state_55 : decode cX12_state 55 = .ok (.aload_n 0, 1) := by decide +kernel
theorem dX12_state_56 : decode cX12_state 56 = .ok (.getfield 211, 3) := by decide +kernel
theorem dX12_state_59 : decode cX12_state 59 = .ok (.iload_n 1, 1) := by decide +kernel
theorem dX12_state_60 : decode cX12_state 60 = .ok (.baload, 1) := by decide +kernel
theorem dX12_state_61 : decode cX12_state 61 = .ok (.ifCond .eq 7, 3) := by decide +kernel
theorem dX12_state_64 : decode cX12_state 64 = .ok (.iconst 1, 1) := by decide +kernel
theorem dX12_state_65 : decode cX12_state 65 = .ok (.goto 4, 3) := by decide +kernel
theorem dX12_state_68 : decode cX12_state 68 = .ok (.iconst 0, 1) := by decide +kernel
theorem dX12_state_69 : decode cX12_state 69 = .ok (.ireturn, 1) := by decide +kernel
theorem dX12_state_70 : decode cX12_state 70 = .ok (.aload_n 0, 1) := by decide +kernel
theorem dX12_state_71 : decode cX12_state 71 = .ok (.getfield 220, 3) := by decide +kernel
theorem dX12_state_74 : decode cX12_state 74 = .ok (.iload_n 1, 1) := by decide +kernel
theorem dX12_state_75 : decode cX12_state 75 = .ok (.baload, 1) := by decide +kernel
theorem dX12_state_76 : decode cX12_state 76 = .ok (.ifCond .eq 7, 3) := by decide +kernel
theorem dX12_state_79 : decode cX12_state 79 = .ok (.iconst 1, 1) := by decide +kernel
theorem dX12_state_80 : decode cX12_state 80 = .ok (.goto 4, 3) := by decide +kernel
theorem dX12_state_83 : decode cX12_state 83 = .ok (.iconst 0, 1) := by decide +kernel
theorem dX12_state_84 : decode cX12_state 84 = .ok (.ireturn, 1) := by decide +kernel
theorem dX12_state_85 : decode cX12_state 85 = .ok (.aload_n 0, 1) := by decide +kernel
theorem dX12_state_86 : decode cX12_state 86 = .ok (.getfield 211, 3) := by decide +kernel
theorem dX12_state_89 : decode cX12_state 89 = .ok (.iload_n 1, 1) := by decide +kernel
theorem dX12_state_90 : decode cX12_state 90 = .ok (.baload, 1) := by decide +kernel
theorem dX12_state_91 : decode cX12_state 91 = .ok (.ifCond .eq 12, 3) := by decide +kernel
theorem dX12_state_94 : decode cX12_state 94 = .ok (.aload_n 0, 1) := by decide +kernel
theorem dX12_state_95 : decode cX12_state 95 = .ok (.getfield 232, 3) := by decide +kernel
theorem dX12_state_98 : decode cX12_state 98 = .ok (.iload_n 1, 1) := by decide +kernel
theorem dX12_state_99 : decode cX12_state 99 = .ok (.laload, 1) := by decide +kernel
theorem dX12_state_100 : decode cX12_state 100 = .ok (.goto 9, 3) := by decide +kernel
theorem dX12_state_103 : decode cX12_state 103 = .ok (.aload_n 0, 1) := by decide +kernel
theorem dX12_state_104 : decode cX12_state 104 = .ok (.getfield 235, 3) := by decide +kernel
theorem dX12_state_107 : decode cX12_state 107 = .ok (.iload_n 1, 1) := by decide +kernel
theorem dX12_state_108 : decode cX12_state 108 = .ok (.laload, 1) := by decide +kernel
theorem dX12_state_109 : decode cX12_state 109 = .ok (.l2i, 1) := by decide +kernel
theorem dX12_state_110 : decode cX12_state 110 = .ok (.ireturn, 1) := by decide +kernel
theorem dX12_state_111 : decode cX12_state 111 = .ok (.aload_n 0, 1) := by decide +kernel
theorem dX12_state_112 : decode cX12_state 112 = .ok (.getfield 211, 3) := by decide +kernel
theorem dX12_state_115 : decode cX12_state 115 = .ok (.iload_n 1, 1) := by decide +kernel
theorem dX12_state_116 : decode cX12_state 116 = .ok (.baload, 1) := by decide +kernel
theorem dX12_state_117 : decode cX12_state 117 = .ok (.ifCond .eq 12, 3) := by decide +kernel
theorem dX12_state_120 : decode cX12_state 120 = .ok (.aload_n 0, 1) := by decide +kernel
theorem dX12_state_121 : decode cX12_state 121 = .ok (.getfield 235, 3) := by decide +kernel
theorem dX12_state_124 : decode cX12_state 124 = .ok (.iload_n 1, 1) := by decide +kernel
theorem dX12_state_125 : decode cX12_state 125 = .ok (.laload, 1) := by decide +kernel
theorem dX12_state_126 : decode cX12_state 126 = .ok (.goto 9, 3) := by decide +kernel
theorem dX12_state_129 : decode cX12_state 129 = .ok (.aload_n 0, 1) := by decide +kernel
theorem dX12_state_130 : decode cX12_state 130 = .ok (.getfield 232, 3) := by decide +kernel
theorem dX12_state_133 : decode cX12_state 133 = .ok (.iload_n 1, 1) := by decide +kernel
theorem dX12_state_134 : decode cX12_state 134 = .ok (.laload, 1) := by decide +kernel
theorem dX12_state_135 : decode cX12_state 135 = .ok (.l2i, 1) := by decide +kernel
theorem dX12_state_136 : decode cX12_state 136 = .ok (.ireturn, 1) := by decide +kernel
theorem dX12_state_137 : decode cX12_state 137 = .ok (.aload_n 0, 1) := by decide +kernel
theorem dX12_state_138 : decode cX12_state 138 = .ok (.getfield 226, 3) := by decide +kernel
theorem dX12_state_141 : decode cX12_state 141 = .ok (.iload_n 1, 1) := by decide +kernel
theorem dX12_state_142 : decode cX12_state 142 = .ok (.iaload, 1) := by decide +kernel
theorem dX12_state_143 : decode cX12_state 143 = .ok (.ireturn, 1) := by decide +kernel
theorem dX12_state_144 : decode cX12_state 144 = .ok (.iconst (-1), 1) := by decide +kernel
theorem dX12_state_145 : decode cX12_state 145 = .ok (.ireturn, 1) := by decide +kernel
theorem dX12_told_0 : decode cX12_told 0 = .ok (.aload_n 0, 1) := by decide +kernel
theorem dX12_told_1 : decode cX12_told 1 = .ok (.iload_n 1, 1) := by decide +kernel
theorem dX12_told_2 : decode cX12_told 2 = .ok (.invokevirtual 421, 3) := by decide +kernel
theorem dX12_told_5 : decode cX12_told 5 = .ok (.ifCond .eq 13, 3) := by decide +kernel
theorem dX12_told_8 : decode cX12_told 8 = .ok (.iload_n 3, 1) := by decide +kernel
theorem dX12_told_9 : decode cX12_told 9 = .ok (.iconst 0, 1) := by decide +kernel
theorem dX12_told_10 : decode cX12_told 10 = .ok (.bipush 31, 2) := by decide +kernel
theorem dX12_told_12 : decode cX12_told 12 = .ok (.invokestatic 373, 3) := by decide +kernel
theorem dX12_told_15 : decode cX12_told 15 = .ok (.ifCond .ne 5, 3) := by decide +kernel
theorem dX12_told_18 : decode cX12_told 18 = .ok (.iconst (-1), 1) := by decide +kernel
theorem dX12_told_19 : decode cX12_told 19 = .ok (.ireturn, 1) := by decide +kernel
theorem dX12_told_20 : decode cX12_told 20 = .ok (.sipush 352, 3) := by decide +kernel
theorem dX12_told_23 : decode cX12_told 23 = .ok (.iload_n 1, 1) := by decide +kernel
theorem dX12_told_24 : decode cX12_told 24 = .ok (.imul, 1) := by decide +kernel
theorem dX12_told_25 : decode cX12_told 25 = .ok (.iload_n 3, 1) := by decide +kernel
theorem dX12_told_26 : decode cX12_told 26 = .ok (.iadd, 1) := by decide +kernel
theorem dX12_told_27 : decode cX12_told 27 = .ok (.istore 4, 2) := by decide +kernel
theorem dX12_told_29 : decode cX12_told 29 = .ok (.iload_n 2, 1) := by decide +kernel
theorem dX12_told_30 : decode cX12_told 30 = .ok (.tableswitch 97 0 2 #[26, 40, 69], 26) := by decide +kernel
theorem dX12_told_56 : decode cX12_told 56 = .ok (.aload_n 0, 1) := by decide +kernel
theorem dX12_told_57 : decode cX12_told 57 = .ok (.getfield 201, 3) := by decide +kernel
theorem dX12_told_60 : decode cX12_told 60 = .ok (.iload 4, 2) := by decide +kernel
theorem dX12_told_62 : decode cX12_told 62 = .ok (.iconst 0, 1) := by decide +kernel
theorem dX12_told_63 : decode cX12_told 63 = .ok (.iadd, 1) := by decide +kernel
theorem dX12_told_64 : decode cX12_told 64 = .ok (.baload, 1) := by decide +kernel
theorem dX12_told_65 : decode cX12_told 65 = .ok (.sipush 255, 3) := by decide +kernel
theorem dX12_told_68 : decode cX12_told 68 = .ok (.iand, 1) := by decide +kernel
theorem dX12_told_69 : decode cX12_told 69 = .ok (.ireturn, 1) := by decide +kernel
theorem dX12_told_70 : decode cX12_told 70 = .ok (.aload_n 0, 1) := by decide +kernel
theorem dX12_told_71 : decode cX12_told 71 = .ok (.getfield 220, 3) := by decide +kernel
theorem dX12_told_74 : decode cX12_told 74 = .ok (.iload_n 1, 1) := by decide +kernel
theorem dX12_told_75 : decode cX12_told 75 = .ok (.baload, 1) := by decide +kernel
theorem dX12_told_76 : decode cX12_told 76 = .ok (.ifCond .eq 21, 3) := by decide +kernel
theorem dX12_told_79 : decode cX12_told 79 = .ok (.aload_n 0, 1) := by decide +kernel
theorem dX12_told_80 : decode cX12_told 80 = .ok (.getfield 201, 3) := by decide +kernel
theorem dX12_told_83 : decode cX12_told 83 = .ok (.iload 4, 2) := by decide +kernel
theorem dX12_told_85 : decode cX12_told 85 = .ok (.sipush 128, 3) := by decide +kernel
theorem dX12_told_88 : decode cX12_told 88 = .ok (.iadd, 1) := by decide +kernel
theorem dX12_told_89 : decode cX12_told 89 = .ok (.baload, 1) := by decide +kernel
theorem dX12_told_90 : decode cX12_told 90 = .ok (.sipush 255, 3) := by decide +kernel
theorem dX12_told_93 : decode cX12_told 93 = .ok (.iand, 1) := by decide +kernel
theorem dX12_told_94 : decode cX12_told 94 = .ok (.goto 4, 3) := by decide +kernel
theorem dX12_told_97 : decode cX12_told 97 = .ok (.iconst (-1), 1) := by decide +kernel
theorem dX12_told_98 : decode cX12_told 98 = .ok (.ireturn, 1) := by decide +kernel
theorem dX12_told_99 : decode cX12_told 99 = .ok (.aload_n 0, 1) := by decide +kernel
theorem dX12_told_100 : decode cX12_told 100 = .ok (.getfield 217, 3) := by decide +kernel
theorem dX12_told_103 : decode cX12_told 103 = .ok (.iload_n 1, 1) := by decide +kernel
theorem dX12_told_104 : decode cX12_told 104 = .ok (.baload, 1) := by decide +kernel
theorem dX12_told_105 : decode cX12_told 105 = .ok (.ifCond .eq 20, 3) := by decide +kernel
theorem dX12_told_108 : decode cX12_told 108 = .ok (.aload_n 0, 1) := by decide +kernel
theorem dX12_told_109 : decode cX12_told 109 = .ok (.getfield 201, 3) := by decide +kernel
theorem dX12_told_112 : decode cX12_told 112 = .ok (.iload 4, 2) := by decide +kernel
theorem dX12_told_114 : decode cX12_told 114 = .ok (.bipush 96, 2) := by decide +kernel
theorem dX12_told_116 : decode cX12_told 116 = .ok (.iadd, 1) := by decide +kernel
theorem dX12_told_117 : decode cX12_told 117 = .ok (.baload, 1) := by decide +kernel
theorem dX12_told_118 : decode cX12_told 118 = .ok (.sipush 255, 3) := by decide +kernel
theorem dX12_told_121 : decode cX12_told 121 = .ok (.iand, 1) := by decide +kernel
theorem dX12_told_122 : decode cX12_told 122 = .ok (.goto 4, 3) := by decide +kernel
theorem dX12_told_125 : decode cX12_told 125 = .ok (.iconst (-1), 1) := by decide +kernel
theorem dX12_told_126 : decode cX12_told 126 = .ok (.ireturn, 1) := by decide +kernel
theorem dX12_told_127 : decode cX12_told 127 = .ok (.iconst (-1), 1) := by decide +kernel
theorem dX12_told_128 : decode cX12_told 128 = .ok (.ireturn, 1) := by decide +kernel
theorem dX12_out_0 : decode cX12_out 0 = .ok (.iload_n 1, 1) := by decide +kernel
theorem dX12_out_1 : decode cX12_out 1 = .ok (.iconst 0, 1) := by decide +kernel
theorem dX12_out_2 : decode cX12_out 2 = .ok (.aload_n 0, 1) := by decide +kernel
theorem dX12_out_3 : decode cX12_out 3 = .ok (.getfield 370, 3) := by decide +kernel
theorem dX12_out_6 : decode cX12_out 6 = .ok (.iconst 1, 1) := by decide +kernel
theorem dX12_out_7 : decode cX12_out 7 = .ok (.isub, 1) := by decide +kernel
theorem dX12_out_8 : decode cX12_out 8 = .ok (.invokestatic 373, 3) := by decide +kernel
theorem dX12_out_11 : decode cX12_out 11 = .ok (.ifCond .eq 16, 3) := by decide +kernel
theorem dX12_out_14 : decode cX12_out 14 = .ok (.aload_n 0, 1) := by decide +kernel
theorem dX12_out_15 : decode cX12_out 15 = .ok (.getfield 19, 3) := by decide +kernel
theorem dX12_out_18 : decode cX12_out 18 = .ok (.iload_n 1, 1) := by decide +kernel
theorem dX12_out_19 : decode cX12_out 19 = .ok (.baload, 1) := by decide +kernel
theorem dX12_out_20 : decode cX12_out 20 = .ok (.sipush 255, 3) := by decide +kernel
theorem dX12_out_23 : decode cX12_out 23 = .ok (.iand, 1) := by decide +kernel
theorem dX12_out_24 : decode cX12_out 24 = .ok (.goto 4, 3) := by decide +kernel
theorem dX12_out_27 : decode cX12_out 27 = .ok (.iconst (-1), 1) := by decide +kernel
theorem dX12_out_28 : decode cX12_out 28 = .ok (.ireturn, 1) := by decide +kernel
theorem dX12_count_0 : decode cX12_count 0 = .ok (.iload_n 1, 1) := by decide +kernel
theorem dX12_count_1 : decode cX12_count 1 = .ok (.ifCond .ne 10, 3) := by decide +kernel
theorem dX12_count_4 : decode cX12_count 4 = .ok (.aload_n 0, 1) := by decide +kernel
theorem dX12_count_5 : decode cX12_count 5 = .ok (.getfield 364, 3) := by decide +kernel
theorem dX12_count_8 : decode cX12_count 8 = .ok (.goto 16, 3) := by decide +kernel
theorem dX12_count_11 : decode cX12_count 11 = .ok (.iload_n 1, 1) := by decide +kernel
theorem dX12_count_12 : decode cX12_count 12 = .ok (.iconst 1, 1) := by decide +kernel
theorem dX12_count_13 : decode cX12_count 13 = .ok (.if_icmp .ne 10, 3) := by decide +kernel
theorem dX12_count_16 : decode cX12_count 16 = .ok (.aload_n 0, 1) := by decide +kernel
theorem dX12_count_17 : decode cX12_count 17 = .ok (.getfield 370, 3) := by decide +kernel
theorem dX12_count_20 : decode cX12_count 20 = .ok (.goto 4, 3) := by decide +kernel
theorem dX12_count_23 : decode cX12_count 23 = .ok (.iconst (-1), 1) := by decide +kernel
theorem dX12_count_24 : decode cX12_count 24 = .ok (.ireturn, 1) := by decide +kernel
