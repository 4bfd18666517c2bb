theorem dX12_init_0 : decode cX12_init 0 = .ok (.aload_n 0, 1) := by decide +kernel
theorem dX12_init_1 : decode cX12_init 1 = .ok (.invokespecial 1, 3) := by decide +kernel
theorem dX12_init_4 : decode cX12_init 4 = .ok (.aload_n 0, 1) := by decide +kernel
theorem dX12_init_5 : decode cX12_init 5 = .ok (.bipush 7, 2) := by decide +kernel
theorem dX12_init_7 : decode cX12_init 7 = .ok (.newarray .int, 2) := by decide +kernel
theorem dX12_init_9 : decode cX12_init 9 = .ok (.dup, 1) := by decide +kernel
theorem dX12_init_10 : decode cX12_init 10 = .ok (.iconst 0, 1) := by decide +kernel
theorem dX12_init_11 : decode cX12_init 11 = .ok (.bipush 60, 2) := by decide +kernel
theorem dX12_init_13 : decode cX12_init 13 = .ok (.iastore, 1) := by decide +kernel
theorem dX12_init_14 : decode cX12_init 14 = .ok (.dup, 1) := by decide +kernel
theorem dX12_init_15 : decode cX12_init 15 = .ok (.iconst 1, 1) := by decide +kernel
theorem dX12_init_16 : decode cX12_init 16 = .ok (.bipush 120, 2) := by decide +kernel
theorem dX12_init_18 : decode cX12_init 18 = .ok (.iastore, 1) := by decide +kernel
theorem dX12_init_19 : decode cX12_init 19 = .ok (.dup, 1) := by decide +kernel
theorem dX12_init_20 : decode cX12_init 20 = .ok (.iconst 2, 1) := by decide +kernel
theorem dX12_init_21 : decode cX12_init 21 = .ok (.iconst 0, 1) := by decide +kernel
theorem dX12_init_22 : decode cX12_init 22 = .ok (.iastore, 1) := by decide +kernel
theorem dX12_init_23 : decode cX12_init 23 = .ok (.dup, 1) := by decide +kernel
theorem dX12_init_24 : decode cX12_init 24 = .ok (.iconst 3, 1) := by decide +kernel
theorem dX12_init_25 : decode cX12_init 25 = .ok (.iconst 5, 1) := by decide +kernel
theorem dX12_init_26 : decode cX12_init 26 = .ok (.iastore, 1) := by decide +kernel
theorem dX12_init_27 : decode cX12_init 27 = .ok (.dup, 1) := by decide +kernel
theorem dX12_init_28 : decode cX12_init 28 = .ok (.iconst 4, 1) := by decide +kernel
theorem dX12_init_29 : decode cX12_init 29 = .ok (.iconst 2, 1) := by decide +kernel
theorem dX12_init_30 : decode cX12_init 30 = .ok (.iastore, 1) := by decide +kernel
theorem dX12_init_31 : decode cX12_init 31 = .ok (.dup, 1) := by decide +kernel
theorem dX12_init_32 : decode cX12_init 32 = .ok (.iconst 5, 1) := by decide +kernel
theorem dX12_init_33 : decode cX12_init 33 = .ok (.bipush 20, 2) := by decide +kernel
theorem dX12_init_35 : decode cX12_init 35 = .ok (.iastore, 1) := by decide +kernel
theorem dX12_init_36 : decode cX12_init 36 = .ok (.dup, 1) := by decide +kernel
theorem dX12_init_37 : decode cX12_init 37 = .ok (.bipush 6, 2) := by decide +kernel
theorem dX12_init_39 : decode cX12_init 39 = .ok (.iconst 0, 1) := by decide +kernel
theorem dX12_init_40 : decode cX12_init 40 = .ok (.iastore, 1) := by decide +kernel
theorem dX12_init_41 : decode cX12_init 41 = .ok (.putfield 7, 3) := by decide +kernel
theorem dX12_init_44 : decode cX12_init 44 = .ok (.aload_n 0, 1) := by decide +kernel
theorem dX12_init_45 : decode cX12_init 45 = .ok (.sipush 14622, 3) := by decide +kernel
theorem dX12_init_48 : decode cX12_init 48 = .ok (.newarray .int, 2) := by decide +kernel
theorem dX12_init_50 : decode cX12_init 50 = .ok (.putfield 13, 3) := by decide +kernel
theorem dX12_init_53 : decode cX12_init 53 = .ok (.aload_n 0, 1) := by decide +kernel
theorem dX12_init_54 : decode cX12_init 54 = .ok (.sipush 14622, 3) := by decide +kernel
theorem dX12_init_57 : decode cX12_init 57 = .ok (.newarray .int, 2) := by decide +kernel
theorem dX12_init_59 : decode cX12_init 59 = .ok (.putfield 16, 3) := by decide +kernel
theorem dX12_init_62 : decode cX12_init 62 = .ok (.aload_n 0, 1) := by decide +kernel
theorem dX12_init_63 : decode cX12_init 63 = .ok (.ldc 19, 2) := by decide +kernel
theorem dX12_init_65 : decode cX12_init 65 = .ok (.newarray .int, 2) := by decide +kernel
theorem dX12_init_67 : decode cX12_init 67 = .ok (.putfield 20, 3) := by decide +kernel
theorem dX12_init_70 : decode cX12_init 70 = .ok (.aload_n 0, 1) := by decide +kernel
theorem dX12_init_71 : decode cX12_init 71 = .ok (.sipush 29244, 3) := by decide +kernel
theorem dX12_init_74 : decode cX12_init 74 = .ok (.newarray .int, 2) := by decide +kernel
theorem dX12_init_76 : decode cX12_init 76 = .ok (.putfield 23, 3) := by decide +kernel
theorem dX12_init_79 : decode cX12_init 79 = .ok (.aload_n 0, 1) := by decide +kernel
theorem dX12_init_80 : decode cX12_init 80 = .ok (.iconst 2, 1) := by decide +kernel
theorem dX12_init_81 : decode cX12_init 81 = .ok (.newarray .boolean, 2) := by decide +kernel
theorem dX12_init_83 : decode cX12_init 83 = .ok (.putfield 26, 3) := by decide +kernel
theorem dX12_init_86 : decode cX12_init 86 = .ok (.aload_n 0, 1) := by decide +kernel
theorem dX12_init_87 : decode cX12_init 87 = .ok (.bipush 11, 2) := by decide +kernel
theorem dX12_init_89 : decode cX12_init 89 = .ok (.newarray .int, 2) := by decide +kernel
theorem dX12_init_91 : decode cX12_init 91 = .ok (.putfield 30, 3) := by decide +kernel
theorem dX12_init_94 : decode cX12_init 94 = .ok (.aload_n 0, 1) := by decide +kernel
theorem dX12_init_95 : decode cX12_init 95 = .ok (.bipush 6, 2) := by decide +kernel
theorem dX12_init_97 : decode cX12_init 97 = .ok (.newarray .int, 2) := by decide +kernel
theorem dX12_init_99 : decode cX12_init 99 = .ok (.putfield 33, 3) := by decide +kernel
theorem dX12_init_102 : decode cX12_init 102 = .ok (.aload_n 0, 1) := by decide +kernel
theorem dX12_init_103 : decode cX12_init 103 = .ok (.sipush 792, 3) := by decide +kernel
theorem dX12_init_106 : decode cX12_init 106 = .ok (.newarray .int, 2) := by decide +kernel
theorem dX12_init_108 : decode cX12_init 108 = .ok (.putfield 36, 3) := by decide +kernel
theorem dX12_init_111 : decode cX12_init 111 = .ok (.aload_n 0, 1) := by decide +kernel
theorem dX12_init_112 : decode cX12_init 112 = .ok (.sipush 700, 3) := by decide +kernel
theorem dX12_init_115 : decode cX12_init 115 = .ok (.newarray .byte, 2) := by decide +kernel
theorem dX12_init_117 : decode cX12_init 117 = .ok (.putfield 39, 3) := by decide +kernel
theorem dX12_init_120 : decode cX12_init 120 = .ok (.aload_n 0, 1) := by decide +kernel
theorem dX12_init_121 : decode cX12_init 121 = .ok (.iconst (-1), 1) := by decide +kernel
theorem dX12_init_122 : decode cX12_init 122 = .ok (.putfield 43, 3) := by decide +kernel
theorem dX12_init_125 : decode cX12_init 125 = .ok (.aload_n 0, 1) := by decide +kernel
theorem dX12_init_126 : decode cX12_init 126 = .ok (.bipush 62, 2) := by decide +kernel
theorem dX12_init_128 : decode cX12_init 128 = .ok (.newarray .byte, 2) := by decide +kernel
theorem dX12_init_130 : decode cX12_init 130 = .ok (.dup, 1) := by decide +kernel
theorem dX12_init_131 : decode cX12_init 131 = .ok (.iconst 0, 1) := by decide +kernel
theorem dX12_init_132 : decode cX12_init 132 = .ok (.bipush 97, 2) := by decide +kernel
theorem dX12_init_134 : decode cX12_init 134 = .ok (.bastore, 1) := by decide +kernel
theorem dX12_init_135 : decode cX12_init 135 = .ok (.dup, 1) := by decide +kernel
theorem dX12_init_136 : decode cX12_init 136 = .ok (.iconst 1, 1) := by decide +kernel
theorem dX12_init_137 : decode cX12_init 137 = .ok (.bipush 112, 2) := by decide +kernel
theorem dX12_init_139 : decode cX12_init 139 = .ok (.bastore, 1) := by decide +kernel
theorem dX12_init_140 : decode cX12_init 140 = .ok (.dup, 1) := by decide +kernel
theorem dX12_init_141 : decode cX12_init 141 = .ok (.iconst 2, 1) := by decide +kernel
theorem dX12_init_142 : decode cX12_init 142 = .ok (.bipush 112, 2) := by decide +kernel
theorem dX12_init_144 : decode cX12_init 144 = .ok (.bastore, 1) := by decide +kernel
theorem dX12_init_145 : decode cX12_init 145 = .ok (.dup, 1) := by decide +kernel
theorem dX12_init_146 : decode cX12_init 146 = .ok (.iconst 3, 1) := by decide +kernel
theorem dX12_init_147 : decode cX12_init 147 = .ok (.bipush 101, 2) := by decide +kernel
theorem dX12_init_149 : decode cX12_init 149 = .ok (.bastore, 1) := by decide +kernel
theorem dX12_init_150 : decode cX12_init 150 = .ok (.dup, 1) := by decide +kernel
theorem dX12_init_151 : decode cX12_init 151 = .ok (.iconst 4, 1) := by decide +kernel
theorem dX12_init_152 : decode cX12_init 152 = .ok (.bipush 110, 2) := by decide +kernel
theorem dX12_init_154 : decode cX12_init 154 = .ok (.bastore, 1) := by decide +kernel
theorem dX12_init_155 : decode cX12_init 155 = .ok (.dup, 1) := by decide +kernel
theorem dX12_init_156 : decode cX12_init 156 = .ok (.iconst 5, 1) := by decide +kernel
theorem dX12_init_157 : decode cX12_init 157 = .ok (.bipush 100, 2) := by decide +kernel
theorem dX12_init_159 : decode cX12_init 159 = .ok (.bastore, 1) := by decide +kernel
theorem dX12_init_160 : decode cX12_init 160 = .ok (.dup, 1) := by decide +kernel
theorem dX12_init_161 : decode cX12_init 161 = .ok (.bipush 6, 2) := by decide +kernel
theorem dX12_init_163 : decode cX12_init 163 = .ok (.bipush 32, 2) := by decide +kernel
theorem dX12_init_165 : decode cX12_init 165 = .ok (.bastore, 1) := by decide +kernel
theorem dX12_init_166 : decode cX12_init 166 = .ok (.dup, 1) := by decide +kernel
theorem dX12_init_167 : decode cX12_init 167 = .ok (.bipush 7, 2) := by decide +kernel
theorem dX12_init_169 : decode cX12_init 169 = .ok (.bipush 106, 2) := by decide +kernel
theorem dX12_init_171 : decode cX12_init 171 = .ok (.bastore, 1) := by decide +kernel
theorem dX12_init_172 : decode cX12_init 172 = .ok (.dup, 1) := by decide +kernel
theorem dX12_init_173 : decode cX12_init 173 = .ok (.bipush 8, 2) := by decide +kernel
theorem dX12_init_175 : decode cX12_init 175 = .ok (.bipush 111, 2) := by decide +kernel
theorem dX12_init_177 : decode cX12_init 177 = .ok (.bastore, 1) := by decide +kernel
theorem dX12_init_178 : decode cX12_init 178 = .ok (.dup, 1) := by decide +kernel
theorem dX12_init_179 : decode cX12_init 179 = .ok (.bipush 9, 2) := by decide +kernel
theorem dX12_init_181 : decode cX12_init 181 = .ok (.bipush 105, 2) := by decide +kernel
theorem dX12_init_183 : decode cX12_init 183 = .ok (.bastore, 1) := by decide +kernel
theorem dX12_init_184 : decode cX12_init 184 = .ok (.dup, 1) := by decide +kernel
theorem dX12_init_185 : decode cX12_init 185 = .ok (.bipush 10, 2) := by decide +kernel
theorem dX12_init_187 : decode cX12_init 187 = .ok (.bipush 110, 2) := by decide +kernel
theorem dX12_init_189 : decode cX12_init 189 = .ok (.bastore, 1) := by decide +kernel
theorem dX12_init_190 : decode cX12_init 190 = .ok (.dup, 1) := by decide +kernel
theorem dX12_init_191 : decode cX12_init 191 = .ok (.bipush 11, 2) := by decide +kernel
theorem dX12_init_193 : decode cX12_init 193 = .ok (.bipush 32, 2) := by decide +kernel
theorem dX12_init_195 : decode cX12_init 195 = .ok (.bastore, 1) := by decide +kernel
theorem dX12_init_196 : decode cX12_init 196 = .ok (.dup, 1) := by decide +kernel
theorem dX12_init_197 : decode cX12_init 197 = .ok (.bipush 12, 2) := by decide +kernel
theorem dX12_init_199 : decode cX12_init 199 = .ok (.bipush 114, 2) := by decide +kernel
theorem dX12_init_201 : decode cX12_init 201 = .ok (.bastore, 1) := by decide +kernel
theorem dX12_init_202 : decode cX12_init 202 = .ok (.dup, 1) := by decide +kernel
theorem dX12_init_203 : decode cX12_init 203 = .ok (.bipush 13, 2) := by decide +kernel
theorem dX12_init_205 : decode cX12_init 205 = .ok (.bipush 101, 2) := by decide +kernel
theorem dX12_init_207 : decode cX12_init 207 = .ok (.bastore, 1) := by decide +kernel
theorem dX12_init_208 : decode cX12_init 208 = .ok (.dup, 1) := by decide +kernel
theorem dX12_init_209 : decode cX12_init 209 = .ok (.bipush 14, 2) := by decide +kernel
theorem dX12_init_211 : decode cX12_init 211 = .ok (.bipush 97, 2) := by decide +kernel
theorem dX12_init_213 : decode cX12_init 213 = .ok (.bastore, 1) := by decide +kernel
theorem dX12_init_214 : decode cX12_init 214 = .ok (.dup, 1) := by decide +kernel
theorem dX12_init_215 : decode cX12_init 215 = .ok (.bipush 15, 2) := by decide +kernel
theorem dX12_init_217 : decode cX12_init 217 = .ok (.bipush 100, 2) := by decide +kernel
theorem dX12_init_219 : decode cX12_init 219 = .ok (.bastore, 1) := by decide +kernel
theorem dX12_init_220 : decode cX12_init 220 = .ok (.dup, 1) := by decide +kernel
theorem dX12_init_221 : decode cX12_init 221 = .ok (.bipush 16, 2) := by decide +kernel
theorem dX12_init_223 : decode cX12_init 223 = .ok (.bipush 32, 2) := by decide +kernel
theorem dX12_init_225 : decode cX12_init 225 = .ok (.bastore, 1) := by decide +kernel
theorem dX12_init_226 : decode cX12_init 226 = .ok (.dup, 1) := by decide +kernel
theorem dX12_init_227 : decode cX12_init 227 = .ok (.bipush 17, 2) := by decide +kernel
theorem dX12_init_229 : decode cX12_init 229 = .ok (.bipush 112, 2) := by decide +kernel
theorem dX12_init_231 : decode cX12_init 231 = .ok (.bastore, 1) := by decide +kernel
theorem dX12_init_232 : decode cX12_init 232 = .ok (.dup, 1) := by decide +kernel
theorem dX12_init_233 : decode cX12_init 233 = .ok (.bipush 18, 2) := by decide +kernel
theorem dX12_init_235 : decode cX12_init 235 = .ok (.bipush 114, 2) := by decide +kernel
theorem dX12_init_237 : decode cX12_init 237 = .ok (.bastore, 1) := by decide +kernel
theorem dX12_init_238 : decode cX12_init 238 = .ok (.dup, 1) := by decide +kernel
theorem dX12_init_239 : decode cX12_init 239 = .ok (.bipush 19, 2) := by decide +kernel
theorem dX12_init_241 : decode cX12_init 241 = .ok (.bipush 111, 2) := by decide +kernel
theorem dX12_init_243 : decode cX12_init 243 = .ok (.bastore, 1) := by decide +kernel
theorem dX12_init_244 : decode cX12_init 244 = .ok (.dup, 1) := by decide +kernel
theorem dX12_init_245 : decode cX12_init 245 = .ok (.bipush 20, 2) := by decide +kernel
theorem dX12_init_247 : decode cX12_init 247 = .ok (.bipush 109, 2) := by decide +kernel
theorem dX12_init_249 : decode cX12_init 249 = .ok (.bastore, 1) := by decide +kernel
theorem dX12_init_250 : decode cX12_init 250 = .ok (.dup, 1) := by decide +kernel
theorem dX12_init_251 : decode cX12_init 251 = .ok (.bipush 21, 2) := by decide +kernel
theorem dX12_init_253 : decode cX12_init 253 = .ok (.bipush 105, 2) := by decide +kernel
theorem dX12_init_255 : decode cX12_init 255 = .ok (.bastore, 1) := by decide +kernel
theorem dX12_init_256 : decode cX12_init 256 = .ok (.dup, 1) := by decide +kernel
theorem dX12_init_257 : decode cX12_init 257 = .ok (.bipush 22, 2) := by decide +kernel
theorem dX12_init_259 : decode cX12_init 259 = .ok (.bipush 115, 2) := by decide +kernel
theorem dX12_init_261 : decode cX12_init 261 = .ok (.bastore, 1) := by decide +kernel
theorem dX12_init_262 : decode cX12_init 262 = .ok (.dup, 1) := by decide +kernel
theorem dX12_init_263 : decode cX12_init 263 = .ok (.bipush 23, 2) := by decide +kernel
theorem dX12_init_265 : decode cX12_init 265 = .ok (.bipush 101, 2) := by decide +kernel
theorem dX12_init_267 : decode cX12_init 267 = .ok (.bastore, 1) := by decide +kernel
theorem dX12_init_268 : decode cX12_init 268 = .ok (.dup, 1) := by decide +kernel
theorem dX12_init_269 : decode cX12_init 269 = .ok (.bipush 24, 2) := by decide +kernel
theorem dX12_init_271 : decode cX12_init 271 = .ok (.bipush 32, 2) := by decide +kernel
theorem dX12_init_273 : decode cX12_init 273 = .ok (.bastore, 1) := by decide +kernel
theorem dX12_init_274 : decode cX12_init 274 = .ok (.dup, 1) := by decide +kernel
theorem dX12_init_275 : decode cX12_init 275 = .ok (.bipush 25, 2) := by decide +kernel
theorem dX12_init_277 : decode cX12_init 277 = .ok (.bipush 109, 2) := by decide +kernel
theorem dX12_init_279 : decode cX12_init 279 = .ok (.bastore, 1) := by decide +kernel
theorem dX12_init_280 : decode cX12_init 280 = .ok (.dup, 1) := by decide +kernel
theorem dX12_init_281 : decode cX12_init 281 = .ok (.bipush 26, 2) := by decide +kernel
theorem dX12_init_283 : decode cX12_init 283 = .ok (.bipush 111, 2) := by decide +kernel
theorem dX12_init_285 : decode cX12_init 285 = .ok (.bastore, 1) := by decide +kernel
theorem dX12_init_286 : decode cX12_init 286 = .ok (.dup, 1) := by decide +kernel
theorem dX12_init_287 : decode cX12_init 287 = .ok (.bipush 27, 2) := by decide +kernel
theorem dX12_init_289 : decode cX12_init 289 = .ok (.bipush 118, 2) := by decide +kernel
theorem dX12_init_291 : decode cX12_init 291 = .ok (.bastore, 1) := by decide +kernel
theorem dX12_init_292 : decode cX12_init 292 = .ok (.dup, 1) := by decide +kernel
theorem dX12_init_293 : decode cX12_init 293 = .ok (.bipush 28, 2) := by decide +kernel
theorem dX12_init_295 : decode cX12_init 295 = .ok (.bipush 101, 2) := by decide +kernel
theorem dX12_init_297 : decode cX12_init 297 = .ok (.bastore, 1) := by decide +kernel
theorem dX12_init_298 : decode cX12_init 298 = .ok (.dup, 1) := by decide +kernel
theorem dX12_init_299 : decode cX12_init 299 = .ok (.bipush 29, 2) := by decide +kernel
theorem dX12_init_301 : decode cX12_init 301 = .ok (.bipush 32, 2) := by decide +kernel
theorem dX12_init_303 : decode cX12_init 303 = .ok (.bastore, 1) := by decide +kernel
theorem dX12_init_304 : decode cX12_init 304 = .ok (.dup, 1) := by decide +kernel
theorem dX12_init_305 : decode cX12_init 305 = .ok (.bipush 30, 2) := by decide +kernel
theorem dX12_init_307 : decode cX12_init 307 = .ok (.bipush 108, 2) := by decide +kernel
theorem dX12_init_309 : decode cX12_init 309 = .ok (.bastore, 1) := by decide +kernel
theorem dX12_init_310 : decode cX12_init 310 = .ok (.dup, 1) := by decide +kernel
theorem dX12_init_311 : decode cX12_init 311 = .ok (.bipush 31, 2) := by decide +kernel
theorem dX12_init_313 : decode cX12_init 313 = .ok (.bipush 101, 2) := by decide +kernel
theorem dX12_init_315 : decode cX12_init 315 = .ok (.bastore, 1) := by decide +kernel
theorem dX12_init_316 : decode cX12_init 316 = .ok (.dup, 1) := by decide +kernel
theorem dX12_init_317 : decode cX12_init 317 = .ok (.bipush 32, 2) := by decide +kernel
theorem dX12_init_319 : decode cX12_init 319 = .ok (.bipush 97, 2) := by decide +kernel
theorem dX12_init_321 : decode cX12_init 321 = .ok (.bastore, 1) := by decide +kernel
theorem dX12_init_322 : decode cX12_init 322 = .ok (.dup, 1) := by decide +kernel
theorem dX12_init_323 : decode cX12_init 323 = .ok (.bipush 33, 2) := by decide +kernel
theorem dX12_init_325 : decode cX12_init 325 = .ok (.bipush 118, 2) := by decide +kernel
theorem dX12_init_327 : decode cX12_init 327 = .ok (.bastore, 1) := by decide +kernel
theorem dX12_init_328 : decode cX12_init 328 = .ok (.dup, 1) := by decide +kernel
theorem dX12_init_329 : decode cX12_init 329 = .ok (.bipush 34, 2) := by decide +kernel
theorem dX12_init_331 : decode cX12_init 331 = .ok (.bipush 101, 2) := by decide +kernel
theorem dX12_init_333 : decode cX12_init 333 = .ok (.bastore, 1) := by decide +kernel
theorem dX12_init_334 : decode cX12_init 334 = .ok (.dup, 1) := by decide +kernel
theorem dX12_init_335 : decode cX12_init 335 = .ok (.bipush 35, 2) := by decide +kernel
theorem dX12_init_337 : decode cX12_init 337 = .ok (.bipush 32, 2) := by decide +kernel
theorem dX12_init_339 : decode cX12_init 339 = .ok (.bastore, 1) := by decide +kernel
theorem dX12_init_340 : decode cX12_init 340 = .ok (.dup, 1) := by decide +kernel
theorem dX12_init_341 : decode cX12_init 341 = .ok (.bipush 36, 2) := by decide +kernel
theorem dX12_init_343 : decode cX12_init 343 = .ok (.bipush 102, 2) := by decide +kernel
theorem dX12_init_345 : decode cX12_init 345 = .ok (.bastore, 1) := by decide +kernel
theorem dX12_init_346 : decode cX12_init 346 = .ok (.dup, 1) := by decide +kernel
theorem dX12_init_347 : decode cX12_init 347 = .ok (.bipush 37, 2) := by decide +kernel
theorem dX12_init_349 : decode cX12_init 349 = .ok (.bipush 111, 2) := by decide +kernel
theorem dX12_init_351 : decode cX12_init 351 = .ok (.bastore, 1) := by decide +kernel
theorem dX12_init_352 : decode cX12_init 352 = .ok (.dup, 1) := by decide +kernel
theorem dX12_init_353 : decode cX12_init 353 = .ok (.bipush 38, 2) := by decide +kernel
theorem dX12_init_355 : decode cX12_init 355 = .ok (.bipush 114, 2) := by decide +kernel
theorem dX12_init_357 : decode cX12_init 357 = .ok (.bastore, 1) := by decide +kernel
theorem dX12_init_358 : decode cX12_init 358 = .ok (.dup, 1) := by decide +kernel
theorem dX12_init_359 : decode cX12_init 359 = .ok (.bipush 39, 2) := by decide +kernel
theorem dX12_init_361 : decode cX12_init 361 = .ok (.bipush 107, 2) := by decide +kernel
theorem dX12_init_363 : decode cX12_init 363 = .ok (.bastore, 1) := by decide +kernel
theorem dX12_init_364 : decode cX12_init 364 = .ok (.dup, 1) := by decide +kernel
theorem dX12_init_365 : decode cX12_init 365 = .ok (.bipush 40, 2) := by decide +kernel
theorem dX12_init_367 : decode cX12_init 367 = .ok (.bipush 32, 2) := by decide +kernel
theorem dX12_init_369 : decode cX12_init 369 = .ok (.bastore, 1) := by decide +kernel
theorem dX12_init_370 : decode cX12_init 370 = .ok (.dup, 1) := by decide +kernel
theorem dX12_init_371 : decode cX12_init 371 = .ok (.bipush 41, 2) := by decide +kernel
theorem dX12_init_373 : decode cX12_init 373 = .ok (.bipush 109, 2) := by decide +kernel
theorem dX12_init_375 : decode cX12_init 375 = .ok (.bastore, 1) := by decide +kernel
theorem dX12_init_376 : decode cX12_init 376 = .ok (.dup, 1) := by decide +kernel
theorem dX12_init_377 : decode cX12_init 377 = .ok (.bipush 42, 2) := by decide +kernel
theorem dX12_init_379 : decode cX12_init 379 = .ok (.bipush 101, 2) := by decide +kernel
theorem dX12_init_381 : decode cX12_init 381 = .ok (.bastore, 1) := by decide +kernel
theorem dX12_init_382 : decode cX12_init 382 = .ok (.dup, 1) := by decide +kernel
theorem dX12_init_383 : decode cX12_init 383 = .ok (.bipush 43, 2) := by decide +kernel
theorem dX12_init_385 : decode cX12_init 385 = .ok (.bipush 114, 2) := by decide +kernel
theorem dX12_init_387 : decode cX12_init 387 = .ok (.bastore, 1) := by decide +kernel
theorem dX12_init_388 : decode cX12_init 388 = .ok (.dup, 1) := by decide +kernel
theorem dX12_init_389 : decode cX12_init 389 = .ok (.bipush 44, 2) := by decide +kernel
theorem dX12_init_391 : decode cX12_init 391 = .ok (.bipush 103, 2) := by decide +kernel
theorem dX12_init_393 : decode cX12_init 393 = .ok (.bastore, 1) := by decide +kernel
theorem dX12_init_394 : decode cX12_init 394 = .ok (.dup, 1) := by decide +kernel
theorem dX12_init_395 : decode cX12_init 395 = .ok (.bipush 45, 2) := by decide +kernel
theorem dX12_init_397 : decode cX12_init 397 = .ok (.bipush 101, 2) := by decide +kernel
theorem dX12_init_399 : decode cX12_init 399 = .ok (.bastore, 1) := by decide +kernel
theorem dX12_init_400 : decode cX12_init 400 = .ok (.dup, 1) := by decide +kernel
theorem dX12_init_401 : decode cX12_init 401 = .ok (.bipush 46, 2) := by decide +kernel
theorem dX12_init_403 : decode cX12_init 403 = .ok (.bipush 32, 2) := by decide +kernel
theorem dX12_init_405 : decode cX12_init 405 = .ok (.bastore, 1) := by decide +kernel
theorem dX12_init_406 : decode cX12_init 406 = .ok (.dup, 1) := by decide +kernel
theorem dX12_init_407 : decode cX12_init 407 = .ok (.bipush 47, 2) := by decide +kernel
theorem dX12_init_409 : decode cX12_init 409 = .ok (.bipush 100, 2) := by decide +kernel
theorem dX12_init_411 : decode cX12_init 411 = .ok (.bastore, 1) := by decide +kernel
theorem dX12_init_412 : decode cX12_init 412 = .ok (.dup, 1) := by decide +kernel
theorem dX12_init_413 : decode cX12_init 413 = .ok (.bipush 48, 2) := by decide +kernel
theorem dX12_init_415 : decode cX12_init 415 = .ok (.bipush 114, 2) := by decide +kernel
theorem dX12_init_417 : decode cX12_init 417 = .ok (.bastore, 1) := by decide +kernel
theorem dX12_init_418 : decode cX12_init 418 = .ok (.dup, 1) := by decide +kernel
theorem dX12_init_419 : decode cX12_init 419 = .ok (.bipush 49, 2) := by decide +kernel
theorem dX12_init_421 : decode cX12_init 421 = .ok (.bipush 111, 2) := by decide +kernel
theorem dX12_init_423 : decode cX12_init 423 = .ok (.bastore, 1) := by decide +kernel
theorem dX12_init_424 : decode cX12_init 424 = .ok (.dup, 1) := by decide +kernel
theorem dX12_init_425 : decode cX12_init 425 = .ok (.bipush 50, 2) := by decide +kernel
theorem dX12_init_427 : decode cX12_init 427 = .ok (.bipush 112, 2) := by decide +kernel
theorem dX12_init_429 : decode cX12_init 429 = .ok (.bastore, 1) := by decide +kernel
theorem dX12_init_430 : decode cX12_init 430 = .ok (.dup, 1) := by decide +kernel
theorem dX12_init_431 : decode cX12_init 431 = .ok (.bipush 51, 2) := by decide +kernel
theorem dX12_init_433 : decode cX12_init 433 = .ok (.bipush 32, 2) := by decide +kernel
theorem dX12_init_435 : decode cX12_init 435 = .ok (.bastore, 1) := by decide +kernel
theorem dX12_init_436 : decode cX12_init 436 = .ok (.dup, 1) := by decide +kernel
theorem dX12_init_437 : decode cX12_init 437 = .ok (.bipush 52, 2) := by decide +kernel
theorem dX12_init_439 : decode cX12_init 439 = .ok (.bipush 116, 2) := by decide +kernel
theorem dX12_init_441 : decode cX12_init 441 = .ok (.bastore, 1) := by decide +kernel
theorem dX12_init_442 : decode cX12_init 442 = .ok (.dup, 1) := by decide +kernel
theorem dX12_init_443 : decode cX12_init 443 = .ok (.bipush 53, 2) := by decide +kernel
theorem dX12_init_445 : decode cX12_init 445 = .ok (.bipush 105, 2) := by decide +kernel
theorem dX12_init_447 : decode cX12_init 447 = .ok (.bastore, 1) := by decide +kernel
theorem dX12_init_448 : decode cX12_init 448 = .ok (.dup, 1) := by decide +kernel
theorem dX12_init_449 : decode cX12_init 449 = .ok (.bipush 54, 2) := by decide +kernel
theorem dX12_init_451 : decode cX12_init 451 = .ok (.bipush 99, 2) := by decide +kernel
theorem dX12_init_453 : decode cX12_init 453 = .ok (.bastore, 1) := by decide +kernel
theorem dX12_init_454 : decode cX12_init 454 = .ok (.dup, 1) := by decide +kernel
theorem dX12_init_455 : decode cX12_init 455 = .ok (.bipush 55, 2) := by decide +kernel
theorem dX12_init_457 : decode cX12_init 457 = .ok (.bipush 107, 2) := by decide +kernel
theorem dX12_init_459 : decode cX12_init 459 = .ok (.bastore, 1) := by decide +kernel
theorem dX12_init_460 : decode cX12_init 460 = .ok (.dup, 1) := by decide +kernel
theorem dX12_init_461 : decode cX12_init 461 = .ok (.bipush 56, 2) := by decide +kernel
theorem dX12_init_463 : decode cX12_init 463 = .ok (.bipush 115, 2) := by decide +kernel
theorem dX12_init_465 : decode cX12_init 465 = .ok (.bastore, 1) := by decide +kernel
theorem dX12_init_466 : decode cX12_init 466 = .ok (.dup, 1) := by decide +kernel
theorem dX12_init_467 : decode cX12_init 467 = .ok (.bipush 57, 2) := by decide +kernel
theorem dX12_init_469 : decode cX12_init 469 = .ok (.bipush 32, 2) := by decide +kernel
theorem dX12_init_471 : decode cX12_init 471 = .ok (.bastore, 1) := by decide +kernel
theorem dX12_init_472 : decode cX12_init 472 = .ok (.dup, 1) := by decide +kernel
theorem dX12_init_473 : decode cX12_init 473 = .ok (.bipush 58, 2) := by decide +kernel
theorem dX12_init_475 : decode cX12_init 475 = .ok (.bipush 101, 2) := by decide +kernel
theorem dX12_init_477 : decode cX12_init 477 = .ok (.bastore, 1) := by decide +kernel
theorem dX12_init_478 : decode cX12_init 478 = .ok (.dup, 1) := by decide +kernel
theorem dX12_init_479 : decode cX12_init 479 = .ok (.bipush 59, 2) := by decide +kernel
theorem dX12_init_481 : decode cX12_init 481 = .ok (.bipush 110, 2) := by decide +kernel
theorem dX12_init_483 : decode cX12_init 483 = .ok (.bastore, 1) := by decide +kernel
theorem dX12_init_484 : decode cX12_init 484 = .ok (.dup, 1) := by decide +kernel
theorem dX12_init_485 : decode cX12_init 485 = .ok (.bipush 60, 2) := by decide +kernel
theorem dX12_init_487 : decode cX12_init 487 = .ok (.bipush 100, 2) := by decide +kernel
theorem dX12_init_489 : decode cX12_init 489 = .ok (.bastore, 1) := by decide +kernel
theorem dX12_init_490 : decode cX12_init 490 = .ok (.dup, 1) := by decide +kernel
theorem dX12_init_491 : decode cX12_init 491 = .ok (.bipush 61, 2) := by decide +kernel
theorem dX12_init_493 : decode cX12_init 493 = .ok (.bipush 32, 2) := by decide +kernel
theorem dX12_init_495 : decode cX12_init 495 = .ok (.bastore, 1) := by decide +kernel
theorem dX12_init_496 : decode cX12_init 496 = .ok (.putfield 47, 3) := by decide +kernel
theorem dX12_init_499 : decode cX12_init 499 = .ok (.aload_n 0, 1) := by decide +kernel
theorem dX12_init_500 : decode cX12_init 500 = .ok (.sipush 305, 3) := by decide +kernel
theorem dX12_init_503 : decode cX12_init 503 = .ok (.newarray .int, 2) := by decide +kernel
theorem dX12_init_505 : decode cX12_init 505 = .ok (.putfield 50, 3) := by decide +kernel
theorem dX12_init_508 : decode cX12_init 508 = .ok (.aload_n 0, 1) := by decide +kernel
theorem dX12_init_509 : decode cX12_init 509 = .ok (.sipush 200, 3) := by decide +kernel
theorem dX12_init_512 : decode cX12_init 512 = .ok (.newarray .byte, 2) := by decide +kernel
theorem dX12_init_514 : decode cX12_init 514 = .ok (.putfield 53, 3) := by decide +kernel
theorem dX12_init_517 : decode cX12_init 517 = .ok (.aload_n 0, 1) := by decide +kernel
theorem dX12_init_518 : decode cX12_init 518 = .ok (.getfield 13, 3) := by decide +kernel
theorem dX12_init_521 : decode cX12_init 521 = .ok (.iconst 0, 1) := by decide +kernel
theorem dX12_init_522 : decode cX12_init 522 = .ok (.invokestatic 56, 3) := by decide +kernel
theorem dX12_init_525 : decode cX12_init 525 = .ok (.iconst 0, 1) := by decide +kernel
theorem dX12_init_526 : decode cX12_init 526 = .ok (.iadd, 1) := by decide +kernel
theorem dX12_init_527 : decode cX12_init 527 = .ok (.iconst 1, 1) := by decide +kernel
theorem dX12_init_528 : decode cX12_init 528 = .ok (.iastore, 1) := by decide +kernel
theorem dX12_init_529 : decode cX12_init 529 = .ok (.aload_n 0, 1) := by decide +kernel
theorem dX12_init_530 : decode cX12_init 530 = .ok (.getfield 13, 3) := by decide +kernel
theorem dX12_init_533 : decode cX12_init 533 = .ok (.iconst 0, 1) := by decide +kernel
theorem dX12_init_534 : decode cX12_init 534 = .ok (.invokestatic 56, 3) := by decide +kernel
theorem dX12_init_537 : decode cX12_init 537 = .ok (.iconst 4, 1) := by decide +kernel
theorem dX12_init_538 : decode cX12_init 538 = .ok (.iadd, 1) := by decide +kernel
theorem dX12_init_539 : decode cX12_init 539 = .ok (.iconst (-1), 1) := by decide +kernel
theorem dX12_init_540 : decode cX12_init 540 = .ok (.iastore, 1) := by decide +kernel
theorem dX12_init_541 : decode cX12_init 541 = .ok (.aload_n 0, 1) := by decide +kernel
theorem dX12_init_542 : decode cX12_init 542 = .ok (.getfield 13, 3) := by decide +kernel
theorem dX12_init_545 : decode cX12_init 545 = .ok (.iconst 0, 1) := by decide +kernel
theorem dX12_init_546 : decode cX12_init 546 = .ok (.invokestatic 56, 3) := by decide +kernel
theorem dX12_init_549 : decode cX12_init 549 = .ok (.iconst 5, 1) := by decide +kernel
theorem dX12_init_550 : decode cX12_init 550 = .ok (.iadd, 1) := by decide +kernel
theorem dX12_init_551 : decode cX12_init 551 = .ok (.iconst (-1), 1) := by decide +kernel
theorem dX12_init_552 : decode cX12_init 552 = .ok (.iastore, 1) := by decide +kernel
theorem dX12_init_553 : decode cX12_init 553 = .ok (.return_, 1) := by decide +kernel
theorem dX12_thrown_0 : decode cX12_thrown 0 = .ok (.aload_n 0, 1) := by decide +kernel
theorem dX12_thrown_1 : decode cX12_thrown 1 = .ok (.getfield 60, 3) := by decide +kernel
theorem dX12_thrown_4 : decode cX12_thrown 4 = .ok (.ireturn, 1) := by decide +kernel
theorem dX12_in_0 : decode cX12_in 0 = .ok (.iload_n 0, 1) := by decide +kernel
theorem dX12_in_1 : decode cX12_in 1 = .ok (.iload_n 1, 1) := by decide +kernel
theorem dX12_in_2 : decode cX12_in 2 = .ok (.if_icmp .lt 12, 3) := by decide +kernel
theorem dX12_in_5 : decode cX12_in 5 = .ok (.iload_n 0, 1) := by decide +kernel
theorem dX12_in_6 : decode cX12_in 6 = .ok (.iload_n 2, 1) := by decide +kernel
theorem dX12_in_7 : decode cX12_in 7 = .ok (.if_icmp .gt 7, 3) := by decide +kernel
theorem dX12_in_10 : decode cX12_in 10 = .ok (.iconst 1, 1) := by decide +kernel
theorem dX12_in_11 : decode cX12_in 11 = .ok (.goto 4, 3) := by decide +kernel
theorem dX12_in_14 : decode cX12_in 14 = .ok (.iconst 0, 1) := by decide +kernel
theorem dX12_in_15 : decode cX12_in 15 = .ok (.ireturn, 1) := by decide +kernel
theorem dX12_copies_0 : decode cX12_copies 0 = .ok (.iconst 0, 1) := by decide +kernel
theorem dX12_copies_1 : decode cX12_copies 1 = .ok (.istore 4, 2) := by decide +kernel
theorem dX12_copies_3 : decode cX12_copies 3 = .ok (.iload 4, 2) := by decide +kernel
theorem dX12_copies_5 : decode cX12_copies 5 = .ok (.sipush 14622, 3) := by decide +kernel
theorem dX12_copies_8 : decode cX12_copies 8 = .ok (.if_icmp .ge 21, 3) := by decide +kernel
theorem dX12_copies_11 : decode cX12_copies 11 = .ok (.aload_n 2, 1) := by decide +kernel
theorem dX12_copies_12 : decode cX12_copies 12 = .ok (.iload_n 3, 1) := by decide +kernel
theorem dX12_copies_13 : decode cX12_copies 13 = .ok (.iload 4, 2) := by decide +kernel
theorem dX12_copies_15 : decode cX12_copies 15 = .ok (.iadd, 1) := by decide +kernel
theorem dX12_copies_16 : decode cX12_copies 16 = .ok (.aload_n 0, 1) := by decide +kernel
theorem dX12_copies_17 : decode cX12_copies 17 = .ok (.iload_n 1, 1) := by decide +kernel
theorem dX12_copies_18 : decode cX12_copies 18 = .ok (.iload 4, 2) := by decide +kernel
theorem dX12_copies_20 : decode cX12_copies 20 = .ok (.iadd, 1) := by decide +kernel
theorem dX12_copies_21 : decode cX12_copies 21 = .ok (.iaload, 1) := by decide +kernel
theorem dX12_copies_22 : decode cX12_copies 22 = .ok (.iastore, 1) := by decide +kernel
theorem dX12_copies_23 : decode cX12_copies 23 = .ok (.iinc 4 1, 3) := by decide +kernel
theorem dX12_copies_26 : decode cX12_copies 26 = .ok (.goto (-23), 3) := by decide +kernel
theorem dX12_copies_29 : decode cX12_copies 29 = .ok (.return_, 1) := by decide +kernel
theorem dX12_branchAt_0 : decode cX12_branchAt 0 = .ok (.bipush 6, 2) := by decide +kernel
theorem dX12_branchAt_2 : decode cX12_branchAt 2 = .ok (.bipush 7, 2) := by decide +kernel
theorem dX12_branchAt_4 : decode cX12_branchAt 4 = .ok (.iload_n 0, 1) := by decide +kernel
theorem dX12_branchAt_5 : decode cX12_branchAt 5 = .ok (.imul, 1) := by decide +kernel
theorem dX12_branchAt_6 : decode cX12_branchAt 6 = .ok (.iadd, 1) := by decide +kernel
theorem dX12_branchAt_7 : decode cX12_branchAt 7 = .ok (.ireturn, 1) := by decide +kernel
theorem dX12_readerAt_0 : decode cX12_readerAt 0 = .ok (.bipush 34, 2) := by decide +kernel
theorem dX12_readerAt_2 : decode cX12_readerAt 2 = .ok (.bipush 26, 2) := by decide +kernel
theorem dX12_readerAt_4 : decode cX12_readerAt 4 = .ok (.iload_n 0, 1) := by decide +kernel
theorem dX12_readerAt_5 : decode cX12_readerAt 5 = .ok (.imul, 1) := by decide +kernel
theorem dX12_readerAt_6 : decode cX12_readerAt 6 = .ok (.iadd, 1) := by decide +kernel
theorem dX12_readerAt_7 : decode cX12_readerAt 7 = .ok (.ireturn, 1) := by decide +kernel
theorem dX12_ofBranch_0 : decode cX12_ofBranch 0 = .ok (.aload_n 0, 1) := by decide +kernel
theorem dX12_ofBranch_1 : decode cX12_ofBranch 1 = .ok (.getfield 13, 3) := by decide +kernel
theorem dX12_ofBranch_4 : decode cX12_ofBranch 4 = .ok (.iload_n 1, 1) := by decide +kernel
theorem dX12_ofBranch_5 : decode cX12_ofBranch 5 = .ok (.invokestatic 56, 3) := by decide +kernel
theorem dX12_ofBranch_8 : decode cX12_ofBranch 8 = .ok (.iload_n 2, 1) := by decide +kernel
theorem dX12_ofBranch_9 : decode cX12_ofBranch 9 = .ok (.iadd, 1) := by decide +kernel
theorem dX12_ofBranch_10 : decode cX12_ofBranch 10 = .ok (.iaload, 1) := by decide +kernel
theorem dX12_ofBranch_11 : decode cX12_ofBranch 11 = .ok (.ireturn, 1) := by decide +kernel
theorem dX12_ofReader_0 : decode cX12_ofReader 0 = .ok (.aload_n 0, 1) := by decide +kernel
theorem dX12_ofReader_1 : decode cX12_ofReader 1 = .ok (.getfield 13, 3) := by decide +kernel
theorem dX12_ofReader_4 : decode cX12_ofReader 4 = .ok (.iload_n 1, 1) := by decide +kernel
theorem dX12_ofReader_5 : decode cX12_ofReader 5 = .ok (.invokestatic 63, 3) := by decide +kernel
theorem dX12_ofReader_8 : decode cX12_ofReader 8 = .ok (.iload_n 2, 1) := by decide +kernel
theorem dX12_ofReader_9 : decode cX12_ofReader 9 = .ok (.iadd, 1) := by decide +kernel
theorem dX12_ofReader_10 : decode cX12_ofReader 10 = .ok (.iaload, 1) := by decide +kernel
theorem dX12_ofReader_11 : decode cX12_ofReader 11 = .ok (.ireturn, 1) := by decide +kernel
theorem dX12_isBranch_0 : decode cX12_isBranch 0 = .ok (.iload_n 1, 1) := by decide +kernel
theorem dX12_isBranch_1 : decode cX12_isBranch 1 = .ok (.iconst 0, 1) := by decide +kernel
theorem dX12_isBranch_2 : decode cX12_isBranch 2 = .ok (.iconst 3, 1) := by decide +kernel
theorem dX12_isBranch_3 : decode cX12_isBranch 3 = .ok (.invokestatic 66, 3) := by decide +kernel
theorem dX12_isBranch_6 : decode cX12_isBranch 6 = .ok (.ifCond .eq 17, 3) := by decide +kernel
theorem dX12_isBranch_9 : decode cX12_isBranch 9 = .ok (.aload_n 0, 1) := by decide +kernel
theorem dX12_isBranch_10 : decode cX12_isBranch 10 = .ok (.iload_n 1, 1) := by decide +kernel
theorem dX12_isBranch_11 : decode cX12_isBranch 11 = .ok (.iconst 0, 1) := by decide +kernel
theorem dX12_isBranch_12 : decode cX12_isBranch 12 = .ok (.invokevirtual 70, 3) := by decide +kernel
theorem dX12_isBranch_15 : decode cX12_isBranch 15 = .ok (.iconst 1, 1) := by decide +kernel
theorem dX12_isBranch_16 : decode cX12_isBranch 16 = .ok (.if_icmp .ne 7, 3) := by decide +kernel
theorem dX12_isBranch_19 : decode cX12_isBranch 19 = .ok (.iconst 1, 1) := by decide +kernel
theorem dX12_isBranch_20 : decode cX12_isBranch 20 = .ok (.goto 4, 3) := by decide +kernel
theorem dX12_isBranch_23 : decode cX12_isBranch 23 = .ok (.iconst 0, 1) := by decide +kernel
theorem dX12_isBranch_24 : decode cX12_isBranch 24 = .ok (.ireturn, 1) := by decide +kernel
theorem dX12_isReader_0 : decode cX12_isReader 0 = .ok (.iload_n 1, 1) := by decide +kernel
theorem dX12_isReader_1 : decode cX12_isReader 1 = .ok (.iconst 0, 1) := by decide +kernel
theorem dX12_isReader_2 : decode cX12_isReader 2 = .ok (.iconst 5, 1) := by decide +kernel
theorem dX12_isReader_3 : decode cX12_isReader 3 = .ok (.invokestatic 66, 3) := by decide +kernel
theorem dX12_isReader_6 : decode cX12_isReader 6 = .ok (.ifCond .eq 17, 3) := by decide +kernel
theorem dX12_isReader_9 : decode cX12_isReader 9 = .ok (.aload_n 0, 1) := by decide +kernel
theorem dX12_isReader_10 : decode cX12_isReader 10 = .ok (.iload_n 1, 1) := by decide +kernel
theorem dX12_isReader_11 : decode cX12_isReader 11 = .ok (.iconst 0, 1) := by decide +kernel
theorem dX12_isReader_12 : decode cX12_isReader 12 = .ok (.invokevirtual 74, 3) := by decide +kernel
theorem dX12_isReader_15 : decode cX12_isReader 15 = .ok (.iconst 1, 1) := by decide +kernel
theorem dX12_isReader_16 : decode cX12_isReader 16 = .ok (.if_icmp .ne 7, 3) := by decide +kernel
theorem dX12_isReader_19 : decode cX12_isReader 19 = .ok (.iconst 1, 1) := by decide +kernel
theorem dX12_isReader_20 : decode cX12_isReader 20 = .ok (.goto 4, 3) := by decide +kernel
theorem dX12_isReader_23 : decode cX12_isReader 23 = .ok (.iconst 0, 1) := by decide +kernel
theorem dX12_isReader_24 : decode cX12_isReader 24 = .ok (.ireturn, 1) := by decide +kernel
theorem dX12_endOf_0 : decode cX12_endOf 0 = .ok (.aload_n 0, 1) := by decide +kernel
theorem dX12_endOf_1 : decode cX12_endOf 1 = .ok (.iload_n 1, 1) := by decide +kernel
theorem dX12_endOf_2 : decode cX12_endOf 2 = .ok (.iconst 1, 1) := by decide +kernel
theorem dX12_endOf_3 : decode cX12_endOf 3 = .ok (.invokevirtual 70, 3) := by decide +kernel
theorem dX12_endOf_6 : decode cX12_endOf 6 = .ok (.aload_n 0, 1) := by decide +kernel
theorem dX12_endOf_7 : decode cX12_endOf 7 = .ok (.iload_n 1, 1) := by decide +kernel
theorem dX12_endOf_8 : decode cX12_endOf 8 = .ok (.iconst 2, 1) := by decide +kernel
theorem dX12_endOf_9 : decode cX12_endOf 9 = .ok (.invokevirtual 70, 3) := by decide +kernel
theorem dX12_endOf_12 : decode cX12_endOf 12 = .ok (.iadd, 1) := by decide +kernel
theorem dX12_endOf_13 : decode cX12_endOf 13 = .ok (.ireturn, 1) := by decide +kernel
theorem dX12_isIn_0 : decode cX12_isIn 0 = .ok (.aload_n 0, 1) := by decide +kernel
theorem dX12_isIn_1 : decode cX12_isIn 1 = .ok (.iload_n 1, 1) := by decide +kernel
theorem dX12_isIn_2 : decode cX12_isIn 2 = .ok (.invokevirtual 77, 3) := by decide +kernel
theorem dX12_isIn_5 : decode cX12_isIn 5 = .ok (.ifCond .eq 17, 3) := by decide +kernel
theorem dX12_isIn_8 : decode cX12_isIn 8 = .ok (.aload_n 0, 1) := by decide +kernel
theorem dX12_isIn_9 : decode cX12_isIn 9 = .ok (.iload_n 1, 1) := by decide +kernel
theorem dX12_isIn_10 : decode cX12_isIn 10 = .ok (.iconst 1, 1) := by decide +kernel
theorem dX12_isIn_11 : decode cX12_isIn 11 = .ok (.invokevirtual 74, 3) := by decide +kernel
theorem dX12_isIn_14 : decode cX12_isIn 14 = .ok (.iload_n 2, 1) := by decide +kernel
theorem dX12_isIn_15 : decode cX12_isIn 15 = .ok (.if_icmp .ne 7, 3) := by decide +kernel
theorem dX12_isIn_18 : decode cX12_isIn 18 = .ok (.iconst 1, 1) := by decide +kernel
theorem dX12_isIn_19 : decode cX12_isIn 19 = .ok (.goto 4, 3) := by decide +kernel
theorem dX12_isIn_22 : decode cX12_isIn 22 = .ok (.iconst 0, 1) := by decide +kernel
theorem dX12_isIn_23 : decode cX12_isIn 23 = .ok (.ireturn, 1) := by decide +kernel
theorem dX12_entryAt_0 : decode cX12_entryAt 0 = .ok (.sipush 1804, 3) := by decide +kernel
theorem dX12_entryAt_3 : decode cX12_entryAt 3 = .ok (.iload_n 0, 1) := by decide +kernel
theorem dX12_entryAt_4 : decode cX12_entryAt 4 = .ok (.imul, 1) := by decide +kernel
theorem dX12_entryAt_5 : decode cX12_entryAt 5 = .ok (.iload_n 1, 1) := by decide +kernel
theorem dX12_entryAt_6 : decode cX12_entryAt 6 = .ok (.iadd, 1) := by decide +kernel
theorem dX12_entryAt_7 : decode cX12_entryAt 7 = .ok (.ireturn, 1) := by decide +kernel
theorem dX12_timeOf_0 : decode cX12_timeOf 0 = .ok (.aload_n 0, 1) := by decide +kernel
theorem dX12_timeOf_1 : decode cX12_timeOf 1 = .ok (.getfield 13, 3) := by decide +kernel
theorem dX12_timeOf_4 : decode cX12_timeOf 4 = .ok (.sipush 190, 3) := by decide +kernel
theorem dX12_timeOf_7 : decode cX12_timeOf 7 = .ok (.iload_n 1, 1) := by decide +kernel
theorem dX12_timeOf_8 : decode cX12_timeOf 8 = .ok (.iload_n 2, 1) := by decide +kernel
theorem dX12_timeOf_9 : decode cX12_timeOf 9 = .ok (.invokestatic 81, 3) := by decide +kernel
theorem dX12_timeOf_12 : decode cX12_timeOf 12 = .ok (.iadd, 1) := by decide +kernel
theorem dX12_timeOf_13 : decode cX12_timeOf 13 = .ok (.iaload, 1) := by decide +kernel
theorem dX12_timeOf_14 : decode cX12_timeOf 14 = .ok (.ireturn, 1) := by decide +kernel
theorem dX12_packed_0 : decode cX12_packed 0 = .ok (.iload_n 0, 1) := by decide +kernel
theorem dX12_packed_1 : decode cX12_packed 1 = .ok (.bipush 10, 2) := by decide +kernel
theorem dX12_packed_3 : decode cX12_packed 3 = .ok (.imul, 1) := by decide +kernel
theorem dX12_packed_4 : decode cX12_packed 4 = .ok (.iload_n 1, 1) := by decide +kernel
theorem dX12_packed_5 : decode cX12_packed 5 = .ok (.iadd, 1) := by decide +kernel
theorem dX12_packed_6 : decode cX12_packed 6 = .ok (.sipush 200, 3) := by decide +kernel
theorem dX12_packed_9 : decode cX12_packed 9 = .ok (.imul, 1) := by decide +kernel
theorem dX12_packed_10 : decode cX12_packed 10 = .ok (.iload_n 2, 1) := by decide +kernel
theorem dX12_packed_11 : decode cX12_packed 11 = .ok (.iadd, 1) := by decide +kernel
theorem dX12_packed_12 : decode cX12_packed 12 = .ok (.bipush 99, 2) := by decide +kernel
theorem dX12_packed_14 : decode cX12_packed 14 = .ok (.iadd, 1) := by decide +kernel
theorem dX12_packed_15 : decode cX12_packed 15 = .ok (.ireturn, 1) := by decide +kernel
theorem dX12_keyOf_0 : decode cX12_keyOf 0 = .ok (.aload_n 0, 1) := by decide +kernel
theorem dX12_keyOf_1 : decode cX12_keyOf 1 = .ok (.getfield 13, 3) := by decide +kernel
theorem dX12_keyOf_4 : decode cX12_keyOf 4 = .ok (.sipush 7406, 3) := by decide +kernel
theorem dX12_keyOf_7 : decode cX12_keyOf 7 = .ok (.iload_n 1, 1) := by decide +kernel
theorem dX12_keyOf_8 : decode cX12_keyOf 8 = .ok (.iload_n 2, 1) := by decide +kernel
theorem dX12_keyOf_9 : decode cX12_keyOf 9 = .ok (.invokestatic 81, 3) := by decide +kernel
theorem dX12_keyOf_12 : decode cX12_keyOf 12 = .ok (.iadd, 1) := by decide +kernel
theorem dX12_keyOf_13 : decode cX12_keyOf 13 = .ok (.iaload, 1) := by decide +kernel
theorem dX12_keyOf_14 : decode cX12_keyOf 14 = .ok (.sipush 2000, 3) := by decide +kernel
theorem dX12_keyOf_17 : decode cX12_keyOf 17 = .ok (.idiv, 1) := by decide +kernel
theorem dX12_keyOf_18 : decode cX12_keyOf 18 = .ok (.ireturn, 1) := by decide +kernel
theorem dX12_sizeOf_0 : decode cX12_sizeOf 0 = .ok (.aload_n 0, 1) := by decide +kernel
theorem dX12_sizeOf_1 : decode cX12_sizeOf 1 = .ok (.getfield 13, 3) := by decide +kernel
theorem dX12_sizeOf_4 : decode cX12_sizeOf 4 = .ok (.sipush 7406, 3) := by decide +kernel
theorem dX12_sizeOf_7 : decode cX12_sizeOf 7 = .ok (.iload_n 1, 1) := by decide +kernel
theorem dX12_sizeOf_8 : decode cX12_sizeOf 8 = .ok (.iload_n 2, 1) := by decide +kernel
theorem dX12_sizeOf_9 : decode cX12_sizeOf 9 = .ok (.invokestatic 81, 3) := by decide +kernel
theorem dX12_sizeOf_12 : decode cX12_sizeOf 12 = .ok (.iadd, 1) := by decide +kernel
theorem dX12_sizeOf_13 : decode cX12_sizeOf 13 = .ok (.iaload, 1) := by decide +kernel
theorem dX12_sizeOf_14 : decode cX12_sizeOf 14 = .ok (.sipush 200, 3) := by decide +kernel
theorem dX12_sizeOf_17 : decode cX12_sizeOf 17 = .ok (.idiv, 1) := by decide +kernel
theorem dX12_sizeOf_18 : decode cX12_sizeOf 18 = .ok (.bipush 10, 2) := by decide +kernel
theorem dX12_sizeOf_20 : decode cX12_sizeOf 20 = .ok (.irem, 1) := by decide +kernel
theorem dX12_sizeOf_21 : decode cX12_sizeOf 21 = .ok (.ireturn, 1) := by decide +kernel
theorem dX12_valueOf_0 : decode cX12_valueOf 0 = .ok (.aload_n 0, 1) := by decide +kernel
theorem dX12_valueOf_1 : decode cX12_valueOf 1 = .ok (.getfield 13, 3) := by decide +kernel
theorem dX12_valueOf_4 : decode cX12_valueOf 4 = .ok (.sipush 7406, 3) := by decide +kernel
theorem dX12_valueOf_7 : decode cX12_valueOf 7 = .ok (.iload_n 1, 1) := by decide +kernel
theorem dX12_valueOf_8 : decode cX12_valueOf 8 = .ok (.iload_n 2, 1) := by decide +kernel
theorem dX12_valueOf_9 : decode cX12_valueOf 9 = .ok (.invokestatic 81, 3) := by decide +kernel
theorem dX12_valueOf_12 : decode cX12_valueOf 12 = .ok (.iadd, 1) := by decide +kernel
theorem dX12_valueOf_13 : decode cX12_valueOf 13 = .ok (.iaload, 1) := by decide +kernel
theorem dX12_valueOf_14 : decode cX12_valueOf 14 = .ok (.sipush 200, 3) := by decide +kernel
theorem dX12_valueOf_17 : decode cX12_valueOf 17 = .ok (.irem, 1) := by decide +kernel
theorem dX12_valueOf_18 : decode cX12_valueOf 18 = .ok (.bipush 99, 2) := by decide +kernel
theorem dX12_valueOf_20 : decode cX12_valueOf 20 = .ok (.isub, 1) := by decide +kernel
theorem dX12_valueOf_21 : decode cX12_valueOf 21 = .ok (.ireturn, 1) := by decide +kernel
theorem dX12_adds_0 : decode cX12_adds 0 = .ok (.iload_n 1, 1) := by decide +kernel
theorem dX12_adds_1 : decode cX12_adds 1 = .ok (.aload_n 0, 1) := by decide +kernel
theorem dX12_adds_2 : decode cX12_adds 2 = .ok (.iload_n 1, 1) := by decide +kernel
theorem dX12_adds_3 : decode cX12_adds 3 = .ok (.iconst 2, 1) := by decide +kernel
theorem dX12_adds_4 : decode cX12_adds 4 = .ok (.invokevirtual 70, 3) := by decide +kernel
theorem dX12_adds_7 : decode cX12_adds 7 = .ok (.invokestatic 81, 3) := by decide +kernel
theorem dX12_adds_10 : decode cX12_adds 10 = .ok (.istore 4, 2) := by decide +kernel
theorem dX12_adds_12 : decode cX12_adds 12 = .ok (.aload_n 0, 1) := by decide +kernel
theorem dX12_adds_13 : decode cX12_adds 13 = .ok (.getfield 13, 3) := by decide +kernel
theorem dX12_adds_16 : decode cX12_adds 16 = .ok (.sipush 190, 3) := by decide +kernel
theorem dX12_adds_19 : decode cX12_adds 19 = .ok (.iload 4, 2) := by decide +kernel
theorem dX12_adds_21 : decode cX12_adds 21 = .ok (.iadd, 1) := by decide +kernel
theorem dX12_adds_22 : decode cX12_adds 22 = .ok (.iload_n 2, 1) := by decide +kernel
theorem dX12_adds_23 : decode cX12_adds 23 = .ok (.iastore, 1) := by decide +kernel
theorem dX12_adds_24 : decode cX12_adds 24 = .ok (.aload_n 0, 1) := by decide +kernel
theorem dX12_adds_25 : decode cX12_adds 25 = .ok (.getfield 13, 3) := by decide +kernel
theorem dX12_adds_28 : decode cX12_adds 28 = .ok (.sipush 7406, 3) := by decide +kernel
theorem dX12_adds_31 : decode cX12_adds 31 = .ok (.iload 4, 2) := by decide +kernel
theorem dX12_adds_33 : decode cX12_adds 33 = .ok (.iadd, 1) := by decide +kernel
theorem dX12_adds_34 : decode cX12_adds 34 = .ok (.iload_n 3, 1) := by decide +kernel
theorem dX12_adds_35 : decode cX12_adds 35 = .ok (.iastore, 1) := by decide +kernel
theorem dX12_adds_36 : decode cX12_adds 36 = .ok (.aload_n 0, 1) := by decide +kernel
theorem dX12_adds_37 : decode cX12_adds 37 = .ok (.getfield 13, 3) := by decide +kernel
theorem dX12_adds_40 : decode cX12_adds 40 = .ok (.iload_n 1, 1) := by decide +kernel
theorem dX12_adds_41 : decode cX12_adds 41 = .ok (.invokestatic 56, 3) := by decide +kernel
theorem dX12_adds_44 : decode cX12_adds 44 = .ok (.iconst 2, 1) := by decide +kernel
theorem dX12_adds_45 : decode cX12_adds 45 = .ok (.iadd, 1) := by decide +kernel
theorem dX12_adds_46 : decode cX12_adds 46 = .ok (.dup2, 1) := by decide +kernel
theorem dX12_adds_47 : decode cX12_adds 47 = .ok (.iaload, 1) := by decide +kernel
theorem dX12_adds_48 : decode cX12_adds 48 = .ok (.iconst 1, 1) := by decide +kernel
theorem dX12_adds_49 : decode cX12_adds 49 = .ok (.iadd, 1) := by decide +kernel
theorem dX12_adds_50 : decode cX12_adds 50 = .ok (.iastore, 1) := by decide +kernel
theorem dX12_adds_51 : decode cX12_adds 51 = .ok (.aload_n 0, 1) := by decide +kernel
theorem dX12_adds_52 : decode cX12_adds 52 = .ok (.getfield 13, 3) := by decide +kernel
theorem dX12_adds_55 : decode cX12_adds 55 = .ok (.iload_n 1, 1) := by decide +kernel
theorem dX12_adds_56 : decode cX12_adds 56 = .ok (.invokestatic 56, 3) := by decide +kernel
theorem dX12_adds_59 : decode cX12_adds 59 = .ok (.iconst 3, 1) := by decide +kernel
theorem dX12_adds_60 : decode cX12_adds 60 = .ok (.iadd, 1) := by decide +kernel
theorem dX12_adds_61 : decode cX12_adds 61 = .ok (.dup2, 1) := by decide +kernel
theorem dX12_adds_62 : decode cX12_adds 62 = .ok (.iaload, 1) := by decide +kernel
theorem dX12_adds_63 : decode cX12_adds 63 = .ok (.iload_n 3, 1) := by decide +kernel
theorem dX12_adds_64 : decode cX12_adds 64 = .ok (.sipush 200, 3) := by decide +kernel
theorem dX12_adds_67 : decode cX12_adds 67 = .ok (.idiv, 1) := by decide +kernel
theorem dX12_adds_68 : decode cX12_adds 68 = .ok (.bipush 10, 2) := by decide +kernel
theorem dX12_adds_70 : decode cX12_adds 70 = .ok (.irem, 1) := by decide +kernel
theorem dX12_adds_71 : decode cX12_adds 71 = .ok (.iadd, 1) := by decide +kernel
theorem dX12_adds_72 : decode cX12_adds 72 = .ok (.iastore, 1) := by decide +kernel
theorem dX12_adds_73 : decode cX12_adds 73 = .ok (.return_, 1) := by decide +kernel
theorem dX12_countsAnew_0 : decode cX12_countsAnew 0 = .ok (.aload_n 0, 1) := by decide +kernel
theorem dX12_countsAnew_1 : decode cX12_countsAnew 1 = .ok (.iconst 0, 1) := by decide +kernel
theorem dX12_countsAnew_2 : decode cX12_countsAnew 2 = .ok (.putfield 84, 3) := by decide +kernel
theorem dX12_countsAnew_5 : decode cX12_countsAnew 5 = .ok (.aload_n 0, 1) := by decide +kernel
theorem dX12_countsAnew_6 : decode cX12_countsAnew 6 = .ok (.iconst 0, 1) := by decide +kernel
theorem dX12_countsAnew_7 : decode cX12_countsAnew 7 = .ok (.putfield 87, 3) := by decide +kernel
theorem dX12_countsAnew_10 : decode cX12_countsAnew 10 = .ok (.aload_n 0, 1) := by decide +kernel
theorem dX12_countsAnew_11 : decode cX12_countsAnew 11 = .ok (.iconst 0, 1) := by decide +kernel
theorem dX12_countsAnew_12 : decode cX12_countsAnew 12 = .ok (.putfield 90, 3) := by decide +kernel
theorem dX12_countsAnew_15 : decode cX12_countsAnew 15 = .ok (.iconst 0, 1) := by decide +kernel
theorem dX12_countsAnew_16 : decode cX12_countsAnew 16 = .ok (.istore_n 1, 1) := by decide +kernel
theorem dX12_countsAnew_17 : decode cX12_countsAnew 17 = .ok (.iload_n 1, 1) := by decide +kernel
theorem dX12_countsAnew_18 : decode cX12_countsAnew 18 = .ok (.bipush 6, 2) := by decide +kernel
theorem dX12_countsAnew_20 : decode cX12_countsAnew 20 = .ok (.if_icmp .ge 16, 3) := by decide +kernel
theorem dX12_countsAnew_23 : decode cX12_countsAnew 23 = .ok (.aload_n 0, 1) := by decide +kernel
theorem dX12_countsAnew_24 : decode cX12_countsAnew 24 = .ok (.getfield 33, 3) := by decide +kernel
theorem dX12_countsAnew_27 : decode cX12_countsAnew 27 = .ok (.iload_n 1, 1) := by decide +kernel
theorem dX12_countsAnew_28 : decode cX12_countsAnew 28 = .ok (.iconst 0, 1) := by decide +kernel
theorem dX12_countsAnew_29 : decode cX12_countsAnew 29 = .ok (.iastore, 1) := by decide +kernel
theorem dX12_countsAnew_30 : decode cX12_countsAnew 30 = .ok (.iinc 1 1, 3) := by decide +kernel
theorem dX12_countsAnew_33 : decode cX12_countsAnew 33 = .ok (.goto (-16), 3) := by decide +kernel
theorem dX12_countsAnew_36 : decode cX12_countsAnew 36 = .ok (.return_, 1) := by decide +kernel
theorem dX12_isCovered_0 : decode cX12_isCovered 0 = .ok (.aload_n 0, 1) := by decide +kernel
theorem dX12_isCovered_1 : decode cX12_isCovered 1 = .ok (.iload_n 1, 1) := by decide +kernel
theorem dX12_isCovered_2 : decode cX12_isCovered 2 = .ok (.iconst 4, 1) := by decide +kernel
theorem dX12_isCovered_3 : decode cX12_isCovered 3 = .ok (.invokevirtual 74, 3) := by decide +kernel
theorem dX12_isCovered_6 : decode cX12_isCovered 6 = .ok (.iconst (-1), 1) := by decide +kernel
theorem dX12_isCovered_7 : decode cX12_isCovered 7 = .ok (.if_icmp .ne 25, 3) := by decide +kernel
theorem dX12_isCovered_10 : decode cX12_isCovered 10 = .ok (.aload_n 0, 1) := by decide +kernel
theorem dX12_isCovered_11 : decode cX12_isCovered 11 = .ok (.getfield 13, 3) := by decide +kernel
theorem dX12_isCovered_14 : decode cX12_isCovered 14 = .ok (.iconst 0, 1) := by decide +kernel
theorem dX12_isCovered_15 : decode cX12_isCovered 15 = .ok (.iaload, 1) := by decide +kernel
theorem dX12_isCovered_16 : decode cX12_isCovered 16 = .ok (.aload_n 0, 1) := by decide +kernel
theorem dX12_isCovered_17 : decode cX12_isCovered 17 = .ok (.iload_n 1, 1) := by decide +kernel
theorem dX12_isCovered_18 : decode cX12_isCovered 18 = .ok (.iconst 3, 1) := by decide +kernel
theorem dX12_isCovered_19 : decode cX12_isCovered 19 = .ok (.invokevirtual 74, 3) := by decide +kernel
theorem dX12_isCovered_22 : decode cX12_isCovered 22 = .ok (.isub, 1) := by decide +kernel
theorem dX12_isCovered_23 : decode cX12_isCovered 23 = .ok (.aload_n 0, 1) := by decide +kernel
theorem dX12_isCovered_24 : decode cX12_isCovered 24 = .ok (.getfield 7, 3) := by decide +kernel
theorem dX12_isCovered_27 : decode cX12_isCovered 27 = .ok (.iconst 3, 1) := by decide +kernel
theorem dX12_isCovered_28 : decode cX12_isCovered 28 = .ok (.iaload, 1) := by decide +kernel
theorem dX12_isCovered_29 : decode cX12_isCovered 29 = .ok (.if_icmp .gt 7, 3) := by decide +kernel
theorem dX12_isCovered_32 : decode cX12_isCovered 32 = .ok (.iconst 1, 1) := by decide +kernel
theorem dX12_isCovered_33 : decode cX12_isCovered 33 = .ok (.goto 4, 3) := by decide +kernel
theorem dX12_isCovered_36 : decode cX12_isCovered 36 = .ok (.iconst 0, 1) := by decide +kernel
theorem dX12_isCovered_37 : decode cX12_isCovered 37 = .ok (.ireturn, 1) := by decide +kernel
theorem dX12_holds_0 : decode cX12_holds 0 = .ok (.aload_n 0, 1) := by decide +kernel
theorem dX12_holds_1 : decode cX12_holds 1 = .ok (.iload_n 1, 1) := by decide +kernel
theorem dX12_holds_2 : decode cX12_holds 2 = .ok (.iload_n 2, 1) := by decide +kernel
theorem dX12_holds_3 : decode cX12_holds 3 = .ok (.invokevirtual 93, 3) := by decide +kernel
theorem dX12_holds_6 : decode cX12_holds 6 = .ok (.ifCond .eq 30, 3) := by decide +kernel
theorem dX12_holds_9 : decode cX12_holds 9 = .ok (.aload_n 0, 1) := by decide +kernel
theorem dX12_holds_10 : decode cX12_holds 10 = .ok (.iload_n 1, 1) := by decide +kernel
theorem dX12_holds_11 : decode cX12_holds 11 = .ok (.iconst 2, 1) := by decide +kernel
theorem dX12_holds_12 : decode cX12_holds 12 = .ok (.invokevirtual 74, 3) := by decide +kernel
theorem dX12_holds_15 : decode cX12_holds 15 = .ok (.aload_n 0, 1) := by decide +kernel
theorem dX12_holds_16 : decode cX12_holds 16 = .ok (.iload_n 2, 1) := by decide +kernel
theorem dX12_holds_17 : decode cX12_holds 17 = .ok (.iconst 1, 1) := by decide +kernel
theorem dX12_holds_18 : decode cX12_holds 18 = .ok (.invokevirtual 70, 3) := by decide +kernel
theorem dX12_holds_21 : decode cX12_holds 21 = .ok (.if_icmp .gt 15, 3) := by decide +kernel
theorem dX12_holds_24 : decode cX12_holds 24 = .ok (.aload_n 0, 1) := by decide +kernel
theorem dX12_holds_25 : decode cX12_holds 25 = .ok (.iload_n 1, 1) := by decide +kernel
theorem dX12_holds_26 : decode cX12_holds 26 = .ok (.invokevirtual 97, 3) := by decide +kernel
theorem dX12_holds_29 : decode cX12_holds 29 = .ok (.ifCond .eq 7, 3) := by decide +kernel
theorem dX12_holds_32 : decode cX12_holds 32 = .ok (.iconst 1, 1) := by decide +kernel
theorem dX12_holds_33 : decode cX12_holds 33 = .ok (.goto 4, 3) := by decide +kernel
theorem dX12_holds_36 : decode cX12_holds 36 = .ok (.iconst 0, 1) := by decide +kernel
theorem dX12_holds_37 : decode cX12_holds 37 = .ok (.ireturn, 1) := by decide +kernel
theorem dX12_holderOf_0 : decode cX12_holderOf 0 = .ok (.iconst 0, 1) := by decide +kernel
theorem dX12_holderOf_1 : decode cX12_holderOf 1 = .ok (.istore_n 2, 1) := by decide +kernel
theorem dX12_holderOf_2 : decode cX12_holderOf 2 = .ok (.iload_n 2, 1) := by decide +kernel
theorem dX12_holderOf_3 : decode cX12_holderOf 3 = .ok (.bipush 6, 2) := by decide +kernel
theorem dX12_holderOf_5 : decode cX12_holderOf 5 = .ok (.if_icmp .ge 29, 3) := by decide +kernel
theorem dX12_holderOf_8 : decode cX12_holderOf 8 = .ok (.aload_n 0, 1) := by decide +kernel
theorem dX12_holderOf_9 : decode cX12_holderOf 9 = .ok (.iload_n 1, 1) := by decide +kernel
theorem dX12_holderOf_10 : decode cX12_holderOf 10 = .ok (.iconst 2, 1) := by decide +kernel
theorem dX12_holderOf_11 : decode cX12_holderOf 11 = .ok (.invokevirtual 70, 3) := by decide +kernel
theorem dX12_holderOf_14 : decode cX12_holderOf 14 = .ok (.ifCond .le 20, 3) := by decide +kernel
theorem dX12_holderOf_17 : decode cX12_holderOf 17 = .ok (.aload_n 0, 1) := by decide +kernel
theorem dX12_holderOf_18 : decode cX12_holderOf 18 = .ok (.iload_n 2, 1) := by decide +kernel
theorem dX12_holderOf_19 : decode cX12_holderOf 19 = .ok (.iload_n 1, 1) := by decide +kernel
theorem dX12_holderOf_20 : decode cX12_holderOf 20 = .ok (.invokevirtual 100, 3) := by decide +kernel
theorem dX12_holderOf_23 : decode cX12_holderOf 23 = .ok (.ifCond .eq 5, 3) := by decide +kernel
theorem dX12_holderOf_26 : decode cX12_holderOf 26 = .ok (.iload_n 2, 1) := by decide +kernel
theorem dX12_holderOf_27 : decode cX12_holderOf 27 = .ok (.ireturn, 1) := by decide +kernel
theorem dX12_holderOf_28 : decode cX12_holderOf 28 = .ok (.iinc 2 1, 3) := by decide +kernel
theorem dX12_holderOf_31 : decode cX12_holderOf 31 = .ok (.goto (-29), 3) := by decide +kernel
theorem dX12_holderOf_34 : decode cX12_holderOf 34 = .ok (.iconst (-1), 1) := by decide +kernel
theorem dX12_holderOf_35 : decode cX12_holderOf 35 = .ok (.ireturn, 1) := by decide +kernel
theorem dX12_readersIn_0 : decode cX12_readersIn 0 = .ok (.iconst 0, 1) := by decide +kernel
theorem dX12_readersIn_1 : decode cX12_readersIn 1 = .ok (.istore_n 2, 1) := by decide +kernel
theorem dX12_readersIn_2 : decode cX12_readersIn 2 = .ok (.iconst 0, 1) := by decide +kernel
theorem dX12_readersIn_3 : decode cX12_readersIn 3 = .ok (.istore_n 3, 1) := by decide +kernel
theorem dX12_readersIn_4 : decode cX12_readersIn 4 = .ok (.iload_n 3, 1) := by decide +kernel
theorem dX12_readersIn_5 : decode cX12_readersIn 5 = .ok (.bipush 6, 2) := by decide +kernel
theorem dX12_readersIn_7 : decode cX12_readersIn 7 = .ok (.if_icmp .ge 26, 3) := by decide +kernel
theorem dX12_readersIn_10 : decode cX12_readersIn 10 = .ok (.iload_n 2, 1) := by decide +kernel
theorem dX12_readersIn_11 : decode cX12_readersIn 11 = .ok (.aload_n 0, 1) := by decide +kernel
theorem dX12_readersIn_12 : decode cX12_readersIn 12 = .ok (.iload_n 3, 1) := by decide +kernel
theorem dX12_readersIn_13 : decode cX12_readersIn 13 = .ok (.iload_n 1, 1) := by decide +kernel
theorem dX12_readersIn_14 : decode cX12_readersIn 14 = .ok (.invokevirtual 93, 3) := by decide +kernel
theorem dX12_readersIn_17 : decode cX12_readersIn 17 = .ok (.ifCond .eq 7, 3) := by decide +kernel
theorem dX12_readersIn_20 : decode cX12_readersIn 20 = .ok (.iconst 1, 1) := by decide +kernel
theorem dX12_readersIn_21 : decode cX12_readersIn 21 = .ok (.goto 4, 3) := by decide +kernel
theorem dX12_readersIn_24 : decode cX12_readersIn 24 = .ok (.iconst 0, 1) := by decide +kernel
theorem dX12_readersIn_25 : decode cX12_readersIn 25 = .ok (.iadd, 1) := by decide +kernel
theorem dX12_readersIn_26 : decode cX12_readersIn 26 = .ok (.istore_n 2, 1) := by decide +kernel
theorem dX12_readersIn_27 : decode cX12_readersIn 27 = .ok (.iinc 3 1, 3) := by decide +kernel
theorem dX12_readersIn_30 : decode cX12_readersIn 30 = .ok (.goto (-26), 3) := by decide +kernel
theorem dX12_readersIn_33 : decode cX12_readersIn 33 = .ok (.iload_n 2, 1) := by decide +kernel
theorem dX12_readersIn_34 : decode cX12_readersIn 34 = .ok (.ireturn, 1) := by decide +kernel
theorem dX12_areBehind_0 : decode cX12_areBehind 0 = .ok (.aload_n 0, 1) := by decide +kernel
theorem dX12_areBehind_1 : decode cX12_areBehind 1 = .ok (.iload_n 1, 1) := by decide +kernel
theorem dX12_areBehind_2 : decode cX12_areBehind 2 = .ok (.invokevirtual 103, 3) := by decide +kernel
theorem dX12_areBehind_5 : decode cX12_areBehind 5 = .ok (.ifCond .le 7, 3) := by decide +kernel
theorem dX12_areBehind_8 : decode cX12_areBehind 8 = .ok (.iconst 1, 1) := by decide +kernel
theorem dX12_areBehind_9 : decode cX12_areBehind 9 = .ok (.goto 4, 3) := by decide +kernel
theorem dX12_areBehind_12 : decode cX12_areBehind 12 = .ok (.iconst 0, 1) := by decide +kernel
theorem dX12_areBehind_13 : decode cX12_areBehind 13 = .ok (.istore_n 2, 1) := by decide +kernel
theorem dX12_areBehind_14 : decode cX12_areBehind 14 = .ok (.iconst 0, 1) := by decide +kernel
theorem dX12_areBehind_15 : decode cX12_areBehind 15 = .ok (.istore_n 3, 1) := by decide +kernel
theorem dX12_areBehind_16 : decode cX12_areBehind 16 = .ok (.iload_n 3, 1) := by decide +kernel
theorem dX12_areBehind_17 : decode cX12_areBehind 17 = .ok (.bipush 6, 2) := by decide +kernel
theorem dX12_areBehind_19 : decode cX12_areBehind 19 = .ok (.if_icmp .ge 43, 3) := by decide +kernel
theorem dX12_areBehind_22 : decode cX12_areBehind 22 = .ok (.iload_n 2, 1) := by decide +kernel
theorem dX12_areBehind_23 : decode cX12_areBehind 23 = .ok (.ifCond .eq 31, 3) := by decide +kernel
theorem dX12_areBehind_26 : decode cX12_areBehind 26 = .ok (.aload_n 0, 1) := by decide +kernel
theorem dX12_areBehind_27 : decode cX12_areBehind 27 = .ok (.iload_n 3, 1) := by decide +kernel
theorem dX12_areBehind_28 : decode cX12_areBehind 28 = .ok (.iload_n 1, 1) := by decide +kernel
theorem dX12_areBehind_29 : decode cX12_areBehind 29 = .ok (.invokevirtual 93, 3) := by decide +kernel
theorem dX12_areBehind_32 : decode cX12_areBehind 32 = .ok (.ifCond .eq 18, 3) := by decide +kernel
theorem dX12_areBehind_35 : decode cX12_areBehind 35 = .ok (.aload_n 0, 1) := by decide +kernel
theorem dX12_areBehind_36 : decode cX12_areBehind 36 = .ok (.iload_n 3, 1) := by decide +kernel
theorem dX12_areBehind_37 : decode cX12_areBehind 37 = .ok (.iconst 2, 1) := by decide +kernel
theorem dX12_areBehind_38 : decode cX12_areBehind 38 = .ok (.invokevirtual 74, 3) := by decide +kernel
theorem dX12_areBehind_41 : decode cX12_areBehind 41 = .ok (.aload_n 0, 1) := by decide +kernel
theorem dX12_areBehind_42 : decode cX12_areBehind 42 = .ok (.iload_n 1, 1) := by decide +kernel
theorem dX12_areBehind_43 : decode cX12_areBehind 43 = .ok (.iconst 1, 1) := by decide +kernel
theorem dX12_areBehind_44 : decode cX12_areBehind 44 = .ok (.invokevirtual 70, 3) := by decide +kernel
theorem dX12_areBehind_47 : decode cX12_areBehind 47 = .ok (.if_icmp .le 7, 3) := by decide +kernel
theorem dX12_areBehind_50 : decode cX12_areBehind 50 = .ok (.iconst 1, 1) := by decide +kernel
theorem dX12_areBehind_51 : decode cX12_areBehind 51 = .ok (.goto 4, 3) := by decide +kernel
theorem dX12_areBehind_54 : decode cX12_areBehind 54 = .ok (.iconst 0, 1) := by decide +kernel
theorem dX12_areBehind_55 : decode cX12_areBehind 55 = .ok (.istore_n 2, 1) := by decide +kernel
theorem dX12_areBehind_56 : decode cX12_areBehind 56 = .ok (.iinc 3 1, 3) := by decide +kernel
theorem dX12_areBehind_59 : decode cX12_areBehind 59 = .ok (.goto (-43), 3) := by decide +kernel
theorem dX12_areBehind_62 : decode cX12_areBehind 62 = .ok (.iload_n 2, 1) := by decide +kernel
theorem dX12_areBehind_63 : decode cX12_areBehind 63 = .ok (.ireturn, 1) := by decide +kernel
theorem dX12_causeOf_0 : decode cX12_causeOf 0 = .ok (.aload_n 0, 1) := by decide +kernel
theorem dX12_causeOf_1 : decode cX12_causeOf 1 = .ok (.iload_n 1, 1) := by decide +kernel
theorem dX12_causeOf_2 : decode cX12_causeOf 2 = .ok (.iconst 2, 1) := by decide +kernel
theorem dX12_causeOf_3 : decode cX12_causeOf 3 = .ok (.invokevirtual 70, 3) := by decide +kernel
theorem dX12_causeOf_6 : decode cX12_causeOf 6 = .ok (.ifCond .ne 5, 3) := by decide +kernel
theorem dX12_causeOf_9 : decode cX12_causeOf 9 = .ok (.iconst (-1), 1) := by decide +kernel
theorem dX12_causeOf_10 : decode cX12_causeOf 10 = .ok (.ireturn, 1) := by decide +kernel
theorem dX12_causeOf_11 : decode cX12_causeOf 11 = .ok (.aload_n 0, 1) := by decide +kernel
theorem dX12_causeOf_12 : decode cX12_causeOf 12 = .ok (.iload_n 1, 1) := by decide +kernel
theorem dX12_causeOf_13 : decode cX12_causeOf 13 = .ok (.iconst 3, 1) := by decide +kernel
theorem dX12_causeOf_14 : decode cX12_causeOf 14 = .ok (.invokevirtual 70, 3) := by decide +kernel
theorem dX12_causeOf_17 : decode cX12_causeOf 17 = .ok (.istore_n 2, 1) := by decide +kernel
theorem dX12_causeOf_18 : decode cX12_causeOf 18 = .ok (.iload_n 2, 1) := by decide +kernel
theorem dX12_causeOf_19 : decode cX12_causeOf 19 = .ok (.aload_n 0, 1) := by decide +kernel
theorem dX12_causeOf_20 : decode cX12_causeOf 20 = .ok (.getfield 7, 3) := by decide +kernel
theorem dX12_causeOf_23 : decode cX12_causeOf 23 = .ok (.iconst 1, 1) := by decide +kernel
theorem dX12_causeOf_24 : decode cX12_causeOf 24 = .ok (.iaload, 1) := by decide +kernel
theorem dX12_causeOf_25 : decode cX12_causeOf 25 = .ok (.if_icmp .le 5, 3) := by decide +kernel
theorem dX12_causeOf_28 : decode cX12_causeOf 28 = .ok (.iconst 0, 1) := by decide +kernel
theorem dX12_causeOf_29 : decode cX12_causeOf 29 = .ok (.ireturn, 1) := by decide +kernel
theorem dX12_causeOf_30 : decode cX12_causeOf 30 = .ok (.aload_n 0, 1) := by decide +kernel
theorem dX12_causeOf_31 : decode cX12_causeOf 31 = .ok (.getfield 7, 3) := by decide +kernel
theorem dX12_causeOf_34 : decode cX12_causeOf 34 = .ok (.iconst 2, 1) := by decide +kernel
theorem dX12_causeOf_35 : decode cX12_causeOf 35 = .ok (.iaload, 1) := by decide +kernel
theorem dX12_causeOf_36 : decode cX12_causeOf 36 = .ok (.ifCond .le 29, 3) := by decide +kernel
theorem dX12_causeOf_39 : decode cX12_causeOf 39 = .ok (.aload_n 0, 1) := by decide +kernel
theorem dX12_causeOf_40 : decode cX12_causeOf 40 = .ok (.getfield 13, 3) := by decide +kernel
theorem dX12_causeOf_43 : decode cX12_causeOf 43 = .ok (.iconst 0, 1) := by decide +kernel
theorem dX12_causeOf_44 : decode cX12_causeOf 44 = .ok (.iaload, 1) := by decide +kernel
theorem dX12_causeOf_45 : decode cX12_causeOf 45 = .ok (.aload_n 0, 1) := by decide +kernel
theorem dX12_causeOf_46 : decode cX12_causeOf 46 = .ok (.iload_n 1, 1) := by decide +kernel
theorem dX12_causeOf_47 : decode cX12_causeOf 47 = .ok (.iconst 0, 1) := by decide +kernel
theorem dX12_causeOf_48 : decode cX12_causeOf 48 = .ok (.invokevirtual 106, 3) := by decide +kernel
theorem dX12_causeOf_51 : decode cX12_causeOf 51 = .ok (.isub, 1) := by decide +kernel
theorem dX12_causeOf_52 : decode cX12_causeOf 52 = .ok (.aload_n 0, 1) := by decide +kernel
theorem dX12_causeOf_53 : decode cX12_causeOf 53 = .ok (.getfield 7, 3) := by decide +kernel
theorem dX12_causeOf_56 : decode cX12_causeOf 56 = .ok (.iconst 2, 1) := by decide +kernel
theorem dX12_causeOf_57 : decode cX12_causeOf 57 = .ok (.iaload, 1) := by decide +kernel
theorem dX12_causeOf_58 : decode cX12_causeOf 58 = .ok (.if_icmp .le 7, 3) := by decide +kernel
theorem dX12_causeOf_61 : decode cX12_causeOf 61 = .ok (.iconst 1, 1) := by decide +kernel
theorem dX12_causeOf_62 : decode cX12_causeOf 62 = .ok (.goto 4, 3) := by decide +kernel
theorem dX12_causeOf_65 : decode cX12_causeOf 65 = .ok (.iconst 0, 1) := by decide +kernel
theorem dX12_causeOf_66 : decode cX12_causeOf 66 = .ok (.istore_n 3, 1) := by decide +kernel
theorem dX12_causeOf_67 : decode cX12_causeOf 67 = .ok (.aload_n 0, 1) := by decide +kernel
theorem dX12_causeOf_68 : decode cX12_causeOf 68 = .ok (.iload_n 1, 1) := by decide +kernel
theorem dX12_causeOf_69 : decode cX12_causeOf 69 = .ok (.invokevirtual 109, 3) := by decide +kernel
theorem dX12_causeOf_72 : decode cX12_causeOf 72 = .ok (.iconst (-1), 1) := by decide +kernel
theorem dX12_causeOf_73 : decode cX12_causeOf 73 = .ok (.if_icmp .eq 7, 3) := by decide +kernel
theorem dX12_causeOf_76 : decode cX12_causeOf 76 = .ok (.iconst 1, 1) := by decide +kernel
theorem dX12_causeOf_77 : decode cX12_causeOf 77 = .ok (.goto 4, 3) := by decide +kernel
theorem dX12_causeOf_80 : decode cX12_causeOf 80 = .ok (.iconst 0, 1) := by decide +kernel
theorem dX12_causeOf_81 : decode cX12_causeOf 81 = .ok (.istore 4, 2) := by decide +kernel
theorem dX12_causeOf_83 : decode cX12_causeOf 83 = .ok (.iload_n 2, 1) := by decide +kernel
theorem dX12_causeOf_84 : decode cX12_causeOf 84 = .ok (.aload_n 0, 1) := by decide +kernel
theorem dX12_causeOf_85 : decode cX12_causeOf 85 = .ok (.getfield 7, 3) := by decide +kernel
theorem dX12_causeOf_88 : decode cX12_causeOf 88 = .ok (.iconst 0, 1) := by decide +kernel
theorem dX12_causeOf_89 : decode cX12_causeOf 89 = .ok (.iaload, 1) := by decide +kernel
theorem dX12_causeOf_90 : decode cX12_causeOf 90 = .ok (.if_icmp .le 10, 3) := by decide +kernel
theorem dX12_causeOf_93 : decode cX12_causeOf 93 = .ok (.iload 4, 2) := by decide +kernel
theorem dX12_causeOf_95 : decode cX12_causeOf 95 = .ok (.ifCond .ne 5, 3) := by decide +kernel
theorem dX12_causeOf_98 : decode cX12_causeOf 98 = .ok (.iconst 1, 1) := by decide +kernel
theorem dX12_causeOf_99 : decode cX12_causeOf 99 = .ok (.ireturn, 1) := by decide +kernel
theorem dX12_causeOf_100 : decode cX12_causeOf 100 = .ok (.iload_n 3, 1) := by decide +kernel
theorem dX12_causeOf_101 : decode cX12_causeOf 101 = .ok (.ifCond .eq 12, 3) := by decide +kernel
theorem dX12_causeOf_104 : decode cX12_causeOf 104 = .ok (.iload 4, 2) := by decide +kernel
theorem dX12_causeOf_106 : decode cX12_causeOf 106 = .ok (.ifCond .ne 7, 3) := by decide +kernel
theorem dX12_causeOf_109 : decode cX12_causeOf 109 = .ok (.iconst 2, 1) := by decide +kernel
theorem dX12_causeOf_110 : decode cX12_causeOf 110 = .ok (.goto 27, 3) := by decide +kernel
theorem dX12_causeOf_113 : decode cX12_causeOf 113 = .ok (.aload_n 0, 1) := by decide +kernel
theorem dX12_causeOf_114 : decode cX12_causeOf 114 = .ok (.getfield 7, 3) := by decide +kernel
theorem dX12_causeOf_117 : decode cX12_causeOf 117 = .ok (.bipush 6, 2) := by decide +kernel
theorem dX12_causeOf_119 : decode cX12_causeOf 119 = .ok (.iaload, 1) := by decide +kernel
theorem dX12_causeOf_120 : decode cX12_causeOf 120 = .ok (.iconst 1, 1) := by decide +kernel
theorem dX12_causeOf_121 : decode cX12_causeOf 121 = .ok (.if_icmp .ne 15, 3) := by decide +kernel
theorem dX12_causeOf_124 : decode cX12_causeOf 124 = .ok (.aload_n 0, 1) := by decide +kernel
theorem dX12_causeOf_125 : decode cX12_causeOf 125 = .ok (.iload_n 1, 1) := by decide +kernel
theorem dX12_causeOf_126 : decode cX12_causeOf 126 = .ok (.invokevirtual 112, 3) := by decide +kernel
theorem dX12_causeOf_129 : decode cX12_causeOf 129 = .ok (.ifCond .eq 7, 3) := by decide +kernel
theorem dX12_causeOf_132 : decode cX12_causeOf 132 = .ok (.iconst 3, 1) := by decide +kernel
theorem dX12_causeOf_133 : decode cX12_causeOf 133 = .ok (.goto 4, 3) := by decide +kernel
theorem dX12_causeOf_136 : decode cX12_causeOf 136 = .ok (.iconst (-1), 1) := by decide +kernel
theorem dX12_causeOf_137 : decode cX12_causeOf 137 = .ok (.ireturn, 1) := by decide +kernel
theorem dX12_owes_0 : decode cX12_owes 0 = .ok (.iload_n 1, 1) := by decide +kernel
theorem dX12_owes_1 : decode cX12_owes 1 = .ok (.invokestatic 63, 3) := by decide +kernel
theorem dX12_owes_4 : decode cX12_owes 4 = .ok (.istore_n 3, 1) := by decide +kernel
theorem dX12_owes_5 : decode cX12_owes 5 = .ok (.aload_n 0, 1) := by decide +kernel
theorem dX12_owes_6 : decode cX12_owes 6 = .ok (.iload_n 2, 1) := by decide +kernel
theorem dX12_owes_7 : decode cX12_owes 7 = .ok (.iconst 0, 1) := by decide +kernel
theorem dX12_owes_8 : decode cX12_owes 8 = .ok (.invokevirtual 115, 3) := by decide +kernel
theorem dX12_owes_11 : decode cX12_owes 11 = .ok (.istore 4, 2) := by decide +kernel
theorem dX12_owes_13 : decode cX12_owes 13 = .ok (.aload_n 0, 1) := by decide +kernel
theorem dX12_owes_14 : decode cX12_owes 14 = .ok (.getfield 13, 3) := by decide +kernel
theorem dX12_owes_17 : decode cX12_owes 17 = .ok (.iload_n 3, 1) := by decide +kernel
theorem dX12_owes_18 : decode cX12_owes 18 = .ok (.bipush 9, 2) := by decide +kernel
theorem dX12_owes_20 : decode cX12_owes 20 = .ok (.iadd, 1) := by decide +kernel
theorem dX12_owes_21 : decode cX12_owes 21 = .ok (.iaload, 1) := by decide +kernel
theorem dX12_owes_22 : decode cX12_owes 22 = .ok (.ifCond .ne 7, 3) := by decide +kernel
theorem dX12_owes_25 : decode cX12_owes 25 = .ok (.iconst 1, 1) := by decide +kernel
theorem dX12_owes_26 : decode cX12_owes 26 = .ok (.goto 4, 3) := by decide +kernel
theorem dX12_owes_29 : decode cX12_owes 29 = .ok (.iconst 0, 1) := by decide +kernel
theorem dX12_owes_30 : decode cX12_owes 30 = .ok (.istore 5, 2) := by decide +kernel
theorem dX12_owes_32 : decode cX12_owes 32 = .ok (.iload 5, 2) := by decide +kernel
theorem dX12_owes_34 : decode cX12_owes 34 = .ok (.ifCond .eq 49, 3) := by decide +kernel
theorem dX12_owes_37 : decode cX12_owes 37 = .ok (.aload_n 0, 1) := by decide +kernel
theorem dX12_owes_38 : decode cX12_owes 38 = .ok (.getfield 13, 3) := by decide +kernel
theorem dX12_owes_41 : decode cX12_owes 41 = .ok (.iload_n 3, 1) := by decide +kernel
theorem dX12_owes_42 : decode cX12_owes 42 = .ok (.bipush 14, 2) := by decide +kernel
theorem dX12_owes_44 : decode cX12_owes 44 = .ok (.iadd, 1) := by decide +kernel
theorem dX12_owes_45 : decode cX12_owes 45 = .ok (.aload_n 0, 1) := by decide +kernel
theorem dX12_owes_46 : decode cX12_owes 46 = .ok (.iload_n 2, 1) := by decide +kernel
theorem dX12_owes_47 : decode cX12_owes 47 = .ok (.iconst 1, 1) := by decide +kernel
theorem dX12_owes_48 : decode cX12_owes 48 = .ok (.invokevirtual 70, 3) := by decide +kernel
theorem dX12_owes_51 : decode cX12_owes 51 = .ok (.iastore, 1) := by decide +kernel
theorem dX12_owes_52 : decode cX12_owes 52 = .ok (.iconst 0, 1) := by decide +kernel
theorem dX12_owes_53 : decode cX12_owes 53 = .ok (.istore 6, 2) := by decide +kernel
theorem dX12_owes_55 : decode cX12_owes 55 = .ok (.iload 6, 2) := by decide +kernel
theorem dX12_owes_57 : decode cX12_owes 57 = .ok (.bipush 10, 2) := by decide +kernel
theorem dX12_owes_59 : decode cX12_owes 59 = .ok (.if_icmp .ge 24, 3) := by decide +kernel
theorem dX12_owes_62 : decode cX12_owes 62 = .ok (.aload_n 0, 1) := by decide +kernel
theorem dX12_owes_63 : decode cX12_owes 63 = .ok (.getfield 13, 3) := by decide +kernel
theorem dX12_owes_66 : decode cX12_owes 66 = .ok (.iload_n 3, 1) := by decide +kernel
theorem dX12_owes_67 : decode cX12_owes 67 = .ok (.bipush 16, 2) := by decide +kernel
theorem dX12_owes_69 : decode cX12_owes 69 = .ok (.iadd, 1) := by decide +kernel
theorem dX12_owes_70 : decode cX12_owes 70 = .ok (.iload 6, 2) := by decide +kernel
theorem dX12_owes_72 : decode cX12_owes 72 = .ok (.iadd, 1) := by decide +kernel
theorem dX12_owes_73 : decode cX12_owes 73 = .ok (.sipush (-1000), 3) := by decide +kernel
theorem dX12_owes_76 : decode cX12_owes 76 = .ok (.iastore, 1) := by decide +kernel
theorem dX12_owes_77 : decode cX12_owes 77 = .ok (.iinc 6 1, 3) := by decide +kernel
theorem dX12_owes_80 : decode cX12_owes 80 = .ok (.goto (-25), 3) := by decide +kernel
theorem dX12_owes_83 : decode cX12_owes 83 = .ok (.aload_n 0, 1) := by decide +kernel
theorem dX12_owes_84 : decode cX12_owes 84 = .ok (.getfield 13, 3) := by decide +kernel
theorem dX12_owes_87 : decode cX12_owes 87 = .ok (.iload_n 3, 1) := by decide +kernel
theorem dX12_owes_88 : decode cX12_owes 88 = .ok (.bipush 12, 2) := by decide +kernel
theorem dX12_owes_90 : decode cX12_owes 90 = .ok (.iadd, 1) := by decide +kernel
theorem dX12_owes_91 : decode cX12_owes 91 = .ok (.iload 5, 2) := by decide +kernel
theorem dX12_owes_93 : decode cX12_owes 93 = .ok (.ifCond .ne 17, 3) := by decide +kernel
theorem dX12_owes_96 : decode cX12_owes 96 = .ok (.iload 4, 2) := by decide +kernel
theorem dX12_owes_98 : decode cX12_owes 98 = .ok (.aload_n 0, 1) := by decide +kernel
theorem dX12_owes_99 : decode cX12_owes 99 = .ok (.getfield 13, 3) := by decide +kernel
theorem dX12_owes_102 : decode cX12_owes 102 = .ok (.iload_n 3, 1) := by decide +kernel
theorem dX12_owes_103 : decode cX12_owes 103 = .ok (.bipush 12, 2) := by decide +kernel
theorem dX12_owes_105 : decode cX12_owes 105 = .ok (.iadd, 1) := by decide +kernel
theorem dX12_owes_106 : decode cX12_owes 106 = .ok (.iaload, 1) := by decide +kernel
theorem dX12_owes_107 : decode cX12_owes 107 = .ok (.if_icmp .ge 8, 3) := by decide +kernel
theorem dX12_owes_110 : decode cX12_owes 110 = .ok (.iload 4, 2) := by decide +kernel
theorem dX12_owes_112 : decode cX12_owes 112 = .ok (.goto 12, 3) := by decide +kernel
theorem dX12_owes_115 : decode cX12_owes 115 = .ok (.aload_n 0, 1) := by decide +kernel
theorem dX12_owes_116 : decode cX12_owes 116 = .ok (.getfield 13, 3) := by decide +kernel
theorem dX12_owes_119 : decode cX12_owes 119 = .ok (.iload_n 3, 1) := by decide +kernel
theorem dX12_owes_120 : decode cX12_owes 120 = .ok (.bipush 12, 2) := by decide +kernel
theorem dX12_owes_122 : decode cX12_owes 122 = .ok (.iadd, 1) := by decide +kernel
theorem dX12_owes_123 : decode cX12_owes 123 = .ok (.iaload, 1) := by decide +kernel
theorem dX12_owes_124 : decode cX12_owes 124 = .ok (.iastore, 1) := by decide +kernel
theorem dX12_owes_125 : decode cX12_owes 125 = .ok (.aload_n 0, 1) := by decide +kernel
theorem dX12_owes_126 : decode cX12_owes 126 = .ok (.getfield 13, 3) := by decide +kernel
theorem dX12_owes_129 : decode cX12_owes 129 = .ok (.iload_n 3, 1) := by decide +kernel
theorem dX12_owes_130 : decode cX12_owes 130 = .ok (.bipush 13, 2) := by decide +kernel
theorem dX12_owes_132 : decode cX12_owes 132 = .ok (.iadd, 1) := by decide +kernel
theorem dX12_owes_133 : decode cX12_owes 133 = .ok (.iload 5, 2) := by decide +kernel
theorem dX12_owes_135 : decode cX12_owes 135 = .ok (.ifCond .ne 17, 3) := by decide +kernel
theorem dX12_owes_138 : decode cX12_owes 138 = .ok (.iload 4, 2) := by decide +kernel
theorem dX12_owes_140 : decode cX12_owes 140 = .ok (.aload_n 0, 1) := by decide +kernel
theorem dX12_owes_141 : decode cX12_owes 141 = .ok (.getfield 13, 3) := by decide +kernel
theorem dX12_owes_144 : decode cX12_owes 144 = .ok (.iload_n 3, 1) := by decide +kernel
theorem dX12_owes_145 : decode cX12_owes 145 = .ok (.bipush 13, 2) := by decide +kernel
theorem dX12_owes_147 : decode cX12_owes 147 = .ok (.iadd, 1) := by decide +kernel
theorem dX12_owes_148 : decode cX12_owes 148 = .ok (.iaload, 1) := by decide +kernel
theorem dX12_owes_149 : decode cX12_owes 149 = .ok (.if_icmp .le 8, 3) := by decide +kernel
theorem dX12_owes_152 : decode cX12_owes 152 = .ok (.iload 4, 2) := by decide +kernel
theorem dX12_owes_154 : decode cX12_owes 154 = .ok (.goto 12, 3) := by decide +kernel
theorem dX12_owes_157 : decode cX12_owes 157 = .ok (.aload_n 0, 1) := by decide +kernel
theorem dX12_owes_158 : decode cX12_owes 158 = .ok (.getfield 13, 3) := by decide +kernel
theorem dX12_owes_161 : decode cX12_owes 161 = .ok (.iload_n 3, 1) := by decide +kernel
theorem dX12_owes_162 : decode cX12_owes 162 = .ok (.bipush 13, 2) := by decide +kernel
theorem dX12_owes_164 : decode cX12_owes 164 = .ok (.iadd, 1) := by decide +kernel
theorem dX12_owes_165 : decode cX12_owes 165 = .ok (.iaload, 1) := by decide +kernel
theorem dX12_owes_166 : decode cX12_owes 166 = .ok (.iastore, 1) := by decide +kernel
theorem dX12_owes_167 : decode cX12_owes 167 = .ok (.aload_n 0, 1) := by decide +kernel
theorem dX12_owes_168 : decode cX12_owes 168 = .ok (.getfield 13, 3) := by decide +kernel
theorem dX12_owes_171 : decode cX12_owes 171 = .ok (.iload_n 3, 1) := by decide +kernel
theorem dX12_owes_172 : decode cX12_owes 172 = .ok (.bipush 9, 2) := by decide +kernel
theorem dX12_owes_174 : decode cX12_owes 174 = .ok (.iadd, 1) := by decide +kernel
theorem dX12_owes_175 : decode cX12_owes 175 = .ok (.dup2, 1) := by decide +kernel
theorem dX12_owes_176 : decode cX12_owes 176 = .ok (.iaload, 1) := by decide +kernel
theorem dX12_owes_177 : decode cX12_owes 177 = .ok (.iconst 1, 1) := by decide +kernel
theorem dX12_owes_178 : decode cX12_owes 178 = .ok (.iadd, 1) := by decide +kernel
theorem dX12_owes_179 : decode cX12_owes 179 = .ok (.iastore, 1) := by decide +kernel
theorem dX12_owes_180 : decode cX12_owes 180 = .ok (.aload_n 0, 1) := by decide +kernel
theorem dX12_owes_181 : decode cX12_owes 181 = .ok (.getfield 13, 3) := by decide +kernel
theorem dX12_owes_184 : decode cX12_owes 184 = .ok (.iload_n 3, 1) := by decide +kernel
theorem dX12_owes_185 : decode cX12_owes 185 = .ok (.bipush 10, 2) := by decide +kernel
theorem dX12_owes_187 : decode cX12_owes 187 = .ok (.iadd, 1) := by decide +kernel
theorem dX12_owes_188 : decode cX12_owes 188 = .ok (.dup2, 1) := by decide +kernel
theorem dX12_owes_189 : decode cX12_owes 189 = .ok (.iaload, 1) := by decide +kernel
theorem dX12_owes_190 : decode cX12_owes 190 = .ok (.aload_n 0, 1) := by decide +kernel
theorem dX12_owes_191 : decode cX12_owes 191 = .ok (.iload_n 2, 1) := by decide +kernel
theorem dX12_owes_192 : decode cX12_owes 192 = .ok (.iconst 0, 1) := by decide +kernel
theorem dX12_owes_193 : decode cX12_owes 193 = .ok (.invokevirtual 118, 3) := by decide +kernel
theorem dX12_owes_196 : decode cX12_owes 196 = .ok (.iadd, 1) := by decide +kernel
theorem dX12_owes_197 : decode cX12_owes 197 = .ok (.iastore, 1) := by decide +kernel
theorem dX12_owes_198 : decode cX12_owes 198 = .ok (.aload_n 0, 1) := by decide +kernel
theorem dX12_owes_199 : decode cX12_owes 199 = .ok (.getfield 13, 3) := by decide +kernel
theorem dX12_owes_202 : decode cX12_owes 202 = .ok (.iload_n 3, 1) := by decide +kernel
theorem dX12_owes_203 : decode cX12_owes 203 = .ok (.bipush 11, 2) := by decide +kernel
theorem dX12_owes_205 : decode cX12_owes 205 = .ok (.iadd, 1) := by decide +kernel
theorem dX12_owes_206 : decode cX12_owes 206 = .ok (.dup2, 1) := by decide +kernel
theorem dX12_owes_207 : decode cX12_owes 207 = .ok (.iaload, 1) := by decide +kernel
theorem dX12_owes_208 : decode cX12_owes 208 = .ok (.iload 4, 2) := by decide +kernel
theorem dX12_owes_210 : decode cX12_owes 210 = .ok (.iadd, 1) := by decide +kernel
theorem dX12_owes_211 : decode cX12_owes 211 = .ok (.iastore, 1) := by decide +kernel
theorem dX12_owes_212 : decode cX12_owes 212 = .ok (.aload_n 0, 1) := by decide +kernel
theorem dX12_owes_213 : decode cX12_owes 213 = .ok (.getfield 13, 3) := by decide +kernel
theorem dX12_owes_216 : decode cX12_owes 216 = .ok (.iload_n 3, 1) := by decide +kernel
theorem dX12_owes_217 : decode cX12_owes 217 = .ok (.bipush 15, 2) := by decide +kernel
theorem dX12_owes_219 : decode cX12_owes 219 = .ok (.iadd, 1) := by decide +kernel
theorem dX12_owes_220 : decode cX12_owes 220 = .ok (.aload_n 0, 1) := by decide +kernel
theorem dX12_owes_221 : decode cX12_owes 221 = .ok (.iload_n 2, 1) := by decide +kernel
theorem dX12_owes_222 : decode cX12_owes 222 = .ok (.iconst 1, 1) := by decide +kernel
theorem dX12_owes_223 : decode cX12_owes 223 = .ok (.invokevirtual 70, 3) := by decide +kernel
theorem dX12_owes_226 : decode cX12_owes 226 = .ok (.iastore, 1) := by decide +kernel
theorem dX12_owes_227 : decode cX12_owes 227 = .ok (.aload_n 0, 1) := by decide +kernel
theorem dX12_owes_228 : decode cX12_owes 228 = .ok (.getfield 13, 3) := by decide +kernel
theorem dX12_owes_231 : decode cX12_owes 231 = .ok (.iload_n 3, 1) := by decide +kernel
theorem dX12_owes_232 : decode cX12_owes 232 = .ok (.bipush 16, 2) := by decide +kernel
theorem dX12_owes_234 : decode cX12_owes 234 = .ok (.iadd, 1) := by decide +kernel
theorem dX12_owes_235 : decode cX12_owes 235 = .ok (.aload_n 0, 1) := by decide +kernel
theorem dX12_owes_236 : decode cX12_owes 236 = .ok (.iload_n 2, 1) := by decide +kernel
theorem dX12_owes_237 : decode cX12_owes 237 = .ok (.iconst 0, 1) := by decide +kernel
theorem dX12_owes_238 : decode cX12_owes 238 = .ok (.invokevirtual 121, 3) := by decide +kernel
theorem dX12_owes_241 : decode cX12_owes 241 = .ok (.iadd, 1) := by decide +kernel
theorem dX12_owes_242 : decode cX12_owes 242 = .ok (.iload 4, 2) := by decide +kernel
theorem dX12_owes_244 : decode cX12_owes 244 = .ok (.iastore, 1) := by decide +kernel
theorem dX12_owes_245 : decode cX12_owes 245 = .ok (.aload_n 0, 1) := by decide +kernel
theorem dX12_owes_246 : decode cX12_owes 246 = .ok (.dup, 1) := by decide +kernel
theorem dX12_owes_247 : decode cX12_owes 247 = .ok (.getfield 90, 3) := by decide +kernel
theorem dX12_owes_250 : decode cX12_owes 250 = .ok (.iconst 1, 1) := by decide +kernel
theorem dX12_owes_251 : decode cX12_owes 251 = .ok (.iadd, 1) := by decide +kernel
theorem dX12_owes_252 : decode cX12_owes 252 = .ok (.putfield 90, 3) := by decide +kernel
theorem dX12_owes_255 : decode cX12_owes 255 = .ok (.aload_n 0, 1) := by decide +kernel
theorem dX12_owes_256 : decode cX12_owes 256 = .ok (.getfield 33, 3) := by decide +kernel
theorem dX12_owes_259 : decode cX12_owes 259 = .ok (.iload_n 1, 1) := by decide +kernel
theorem dX12_owes_260 : decode cX12_owes 260 = .ok (.dup2, 1) := by decide +kernel
theorem dX12_owes_261 : decode cX12_owes 261 = .ok (.iaload, 1) := by decide +kernel
theorem dX12_owes_262 : decode cX12_owes 262 = .ok (.iconst 1, 1) := by decide +kernel
theorem dX12_owes_263 : decode cX12_owes 263 = .ok (.iadd, 1) := by decide +kernel
theorem dX12_owes_264 : decode cX12_owes 264 = .ok (.iastore, 1) := by decide +kernel
theorem dX12_owes_265 : decode cX12_owes 265 = .ok (.return_, 1) := by decide +kernel
theorem dX12_clearsDebt_0 : decode cX12_clearsDebt 0 = .ok (.iload_n 1, 1) := by decide +kernel
theorem dX12_clearsDebt_1 : decode cX12_clearsDebt 1 = .ok (.invokestatic 63, 3) := by decide +kernel
theorem dX12_clearsDebt_4 : decode cX12_clearsDebt 4 = .ok (.istore_n 2, 1) := by decide +kernel
theorem dX12_clearsDebt_5 : decode cX12_clearsDebt 5 = .ok (.bipush 9, 2) := by decide +kernel
theorem dX12_clearsDebt_7 : decode cX12_clearsDebt 7 = .ok (.istore_n 3, 1) := by decide +kernel
theorem dX12_clearsDebt_8 : decode cX12_clearsDebt 8 = .ok (.iload_n 3, 1) := by decide +kernel
theorem dX12_clearsDebt_9 : decode cX12_clearsDebt 9 = .ok (.bipush 26, 2) := by decide +kernel
theorem dX12_clearsDebt_11 : decode cX12_clearsDebt 11 = .ok (.if_icmp .ge 18, 3) := by decide +kernel
theorem dX12_clearsDebt_14 : decode cX12_clearsDebt 14 = .ok (.aload_n 0, 1) := by decide +kernel
theorem dX12_clearsDebt_15 : decode cX12_clearsDebt 15 = .ok (.getfield 13, 3) := by decide +kernel
theorem dX12_clearsDebt_18 : decode cX12_clearsDebt 18 = .ok (.iload_n 2, 1) := by decide +kernel
theorem dX12_clearsDebt_19 : decode cX12_clearsDebt 19 = .ok (.iload_n 3, 1) := by decide +kernel
theorem dX12_clearsDebt_20 : decode cX12_clearsDebt 20 = .ok (.iadd, 1) := by decide +kernel
theorem dX12_clearsDebt_21 : decode cX12_clearsDebt 21 = .ok (.iconst 0, 1) := by decide +kernel
theorem dX12_clearsDebt_22 : decode cX12_clearsDebt 22 = .ok (.iastore, 1) := by decide +kernel
theorem dX12_clearsDebt_23 : decode cX12_clearsDebt 23 = .ok (.iinc 3 1, 3) := by decide +kernel
theorem dX12_clearsDebt_26 : decode cX12_clearsDebt 26 = .ok (.goto (-18), 3) := by decide +kernel
theorem dX12_clearsDebt_29 : decode cX12_clearsDebt 29 = .ok (.return_, 1) := by decide +kernel
theorem dX12_cutsOne_0 : decode cX12_cutsOne 0 = .ok (.iconst 0, 1) := by decide +kernel
theorem dX12_cutsOne_1 : decode cX12_cutsOne 1 = .ok (.istore_n 3, 1) := by decide +kernel
theorem dX12_cutsOne_2 : decode cX12_cutsOne 2 = .ok (.iload_n 3, 1) := by decide +kernel
theorem dX12_cutsOne_3 : decode cX12_cutsOne 3 = .ok (.bipush 6, 2) := by decide +kernel
theorem dX12_cutsOne_5 : decode cX12_cutsOne 5 = .ok (.if_icmp .ge 58, 3) := by decide +kernel
theorem dX12_cutsOne_8 : decode cX12_cutsOne 8 = .ok (.aload_n 0, 1) := by decide +kernel
theorem dX12_cutsOne_9 : decode cX12_cutsOne 9 = .ok (.iload_n 3, 1) := by decide +kernel
theorem dX12_cutsOne_10 : decode cX12_cutsOne 10 = .ok (.iload_n 1, 1) := by decide +kernel
theorem dX12_cutsOne_11 : decode cX12_cutsOne 11 = .ok (.invokevirtual 93, 3) := by decide +kernel
theorem dX12_cutsOne_14 : decode cX12_cutsOne 14 = .ok (.ifCond .eq 43, 3) := by decide +kernel
theorem dX12_cutsOne_17 : decode cX12_cutsOne 17 = .ok (.aload_n 0, 1) := by decide +kernel
theorem dX12_cutsOne_18 : decode cX12_cutsOne 18 = .ok (.iload_n 3, 1) := by decide +kernel
theorem dX12_cutsOne_19 : decode cX12_cutsOne 19 = .ok (.iconst 2, 1) := by decide +kernel
theorem dX12_cutsOne_20 : decode cX12_cutsOne 20 = .ok (.invokevirtual 74, 3) := by decide +kernel
theorem dX12_cutsOne_23 : decode cX12_cutsOne 23 = .ok (.aload_n 0, 1) := by decide +kernel
theorem dX12_cutsOne_24 : decode cX12_cutsOne 24 = .ok (.iload_n 1, 1) := by decide +kernel
theorem dX12_cutsOne_25 : decode cX12_cutsOne 25 = .ok (.iconst 1, 1) := by decide +kernel
theorem dX12_cutsOne_26 : decode cX12_cutsOne 26 = .ok (.invokevirtual 70, 3) := by decide +kernel
theorem dX12_cutsOne_29 : decode cX12_cutsOne 29 = .ok (.if_icmp .gt 28, 3) := by decide +kernel
theorem dX12_cutsOne_32 : decode cX12_cutsOne 32 = .ok (.aload_n 0, 1) := by decide +kernel
theorem dX12_cutsOne_33 : decode cX12_cutsOne 33 = .ok (.iload_n 3, 1) := by decide +kernel
theorem dX12_cutsOne_34 : decode cX12_cutsOne 34 = .ok (.iload_n 1, 1) := by decide +kernel
theorem dX12_cutsOne_35 : decode cX12_cutsOne 35 = .ok (.invokevirtual 124, 3) := by decide +kernel
theorem dX12_cutsOne_38 : decode cX12_cutsOne 38 = .ok (.aload_n 0, 1) := by decide +kernel
theorem dX12_cutsOne_39 : decode cX12_cutsOne 39 = .ok (.getfield 13, 3) := by decide +kernel
theorem dX12_cutsOne_42 : decode cX12_cutsOne 42 = .ok (.iload_n 3, 1) := by decide +kernel
theorem dX12_cutsOne_43 : decode cX12_cutsOne 43 = .ok (.invokestatic 63, 3) := by decide +kernel
theorem dX12_cutsOne_46 : decode cX12_cutsOne 46 = .ok (.iconst 2, 1) := by decide +kernel
theorem dX12_cutsOne_47 : decode cX12_cutsOne 47 = .ok (.iadd, 1) := by decide +kernel
theorem dX12_cutsOne_48 : decode cX12_cutsOne 48 = .ok (.aload_n 0, 1) := by decide +kernel
theorem dX12_cutsOne_49 : decode cX12_cutsOne 49 = .ok (.iload_n 1, 1) := by decide +kernel
theorem dX12_cutsOne_50 : decode cX12_cutsOne 50 = .ok (.iconst 1, 1) := by decide +kernel
theorem dX12_cutsOne_51 : decode cX12_cutsOne 51 = .ok (.invokevirtual 70, 3) := by decide +kernel
theorem dX12_cutsOne_54 : decode cX12_cutsOne 54 = .ok (.iconst 1, 1) := by decide +kernel
theorem dX12_cutsOne_55 : decode cX12_cutsOne 55 = .ok (.iadd, 1) := by decide +kernel
theorem dX12_cutsOne_56 : decode cX12_cutsOne 56 = .ok (.iastore, 1) := by decide +kernel
theorem dX12_cutsOne_57 : decode cX12_cutsOne 57 = .ok (.iinc 3 1, 3) := by decide +kernel
theorem dX12_cutsOne_60 : decode cX12_cutsOne 60 = .ok (.goto (-58), 3) := by decide +kernel
theorem dX12_cutsOne_63 : decode cX12_cutsOne 63 = .ok (.aload_n 0, 1) := by decide +kernel
theorem dX12_cutsOne_64 : decode cX12_cutsOne 64 = .ok (.getfield 13, 3) := by decide +kernel
theorem dX12_cutsOne_67 : decode cX12_cutsOne 67 = .ok (.iload_n 1, 1) := by decide +kernel
theorem dX12_cutsOne_68 : decode cX12_cutsOne 68 = .ok (.invokestatic 56, 3) := by decide +kernel
theorem dX12_cutsOne_71 : decode cX12_cutsOne 71 = .ok (.iconst 3, 1) := by decide +kernel
theorem dX12_cutsOne_72 : decode cX12_cutsOne 72 = .ok (.iadd, 1) := by decide +kernel
theorem dX12_cutsOne_73 : decode cX12_cutsOne 73 = .ok (.dup2, 1) := by decide +kernel
theorem dX12_cutsOne_74 : decode cX12_cutsOne 74 = .ok (.iaload, 1) := by decide +kernel
theorem dX12_cutsOne_75 : decode cX12_cutsOne 75 = .ok (.aload_n 0, 1) := by decide +kernel
theorem dX12_cutsOne_76 : decode cX12_cutsOne 76 = .ok (.iload_n 1, 1) := by decide +kernel
theorem dX12_cutsOne_77 : decode cX12_cutsOne 77 = .ok (.iconst 0, 1) := by decide +kernel
theorem dX12_cutsOne_78 : decode cX12_cutsOne 78 = .ok (.invokevirtual 118, 3) := by decide +kernel
theorem dX12_cutsOne_81 : decode cX12_cutsOne 81 = .ok (.isub, 1) := by decide +kernel
theorem dX12_cutsOne_82 : decode cX12_cutsOne 82 = .ok (.iastore, 1) := by decide +kernel
theorem dX12_cutsOne_83 : decode cX12_cutsOne 83 = .ok (.aload_n 0, 1) := by decide +kernel
theorem dX12_cutsOne_84 : decode cX12_cutsOne 84 = .ok (.getfield 13, 3) := by decide +kernel
theorem dX12_cutsOne_87 : decode cX12_cutsOne 87 = .ok (.iload_n 1, 1) := by decide +kernel
theorem dX12_cutsOne_88 : decode cX12_cutsOne 88 = .ok (.invokestatic 56, 3) := by decide +kernel
theorem dX12_cutsOne_91 : decode cX12_cutsOne 91 = .ok (.iconst 1, 1) := by decide +kernel
theorem dX12_cutsOne_92 : decode cX12_cutsOne 92 = .ok (.iadd, 1) := by decide +kernel
theorem dX12_cutsOne_93 : decode cX12_cutsOne 93 = .ok (.dup2, 1) := by decide +kernel
theorem dX12_cutsOne_94 : decode cX12_cutsOne 94 = .ok (.iaload, 1) := by decide +kernel
theorem dX12_cutsOne_95 : decode cX12_cutsOne 95 = .ok (.iconst 1, 1) := by decide +kernel
theorem dX12_cutsOne_96 : decode cX12_cutsOne 96 = .ok (.iadd, 1) := by decide +kernel
theorem dX12_cutsOne_97 : decode cX12_cutsOne 97 = .ok (.iastore, 1) := by decide +kernel
theorem dX12_cutsOne_98 : decode cX12_cutsOne 98 = .ok (.aload_n 0, 1) := by decide +kernel
theorem dX12_cutsOne_99 : decode cX12_cutsOne 99 = .ok (.getfield 13, 3) := by decide +kernel
theorem dX12_cutsOne_102 : decode cX12_cutsOne 102 = .ok (.iload_n 1, 1) := by decide +kernel
theorem dX12_cutsOne_103 : decode cX12_cutsOne 103 = .ok (.invokestatic 56, 3) := by decide +kernel
theorem dX12_cutsOne_106 : decode cX12_cutsOne 106 = .ok (.iconst 2, 1) := by decide +kernel
theorem dX12_cutsOne_107 : decode cX12_cutsOne 107 = .ok (.iadd, 1) := by decide +kernel
theorem dX12_cutsOne_108 : decode cX12_cutsOne 108 = .ok (.dup2, 1) := by decide +kernel
theorem dX12_cutsOne_109 : decode cX12_cutsOne 109 = .ok (.iaload, 1) := by decide +kernel
theorem dX12_cutsOne_110 : decode cX12_cutsOne 110 = .ok (.iconst 1, 1) := by decide +kernel
theorem dX12_cutsOne_111 : decode cX12_cutsOne 111 = .ok (.isub, 1) := by decide +kernel
theorem dX12_cutsOne_112 : decode cX12_cutsOne 112 = .ok (.iastore, 1) := by decide +kernel
theorem dX12_cutsOne_113 : decode cX12_cutsOne 113 = .ok (.aload_n 0, 1) := by decide +kernel
theorem dX12_cutsOne_114 : decode cX12_cutsOne 114 = .ok (.getfield 13, 3) := by decide +kernel
theorem dX12_cutsOne_117 : decode cX12_cutsOne 117 = .ok (.iload_n 1, 1) := by decide +kernel
theorem dX12_cutsOne_118 : decode cX12_cutsOne 118 = .ok (.invokestatic 56, 3) := by decide +kernel
theorem dX12_cutsOne_121 : decode cX12_cutsOne 121 = .ok (.bipush 6, 2) := by decide +kernel
theorem dX12_cutsOne_123 : decode cX12_cutsOne 123 = .ok (.iadd, 1) := by decide +kernel
theorem dX12_cutsOne_124 : decode cX12_cutsOne 124 = .ok (.dup2, 1) := by decide +kernel
theorem dX12_cutsOne_125 : decode cX12_cutsOne 125 = .ok (.iaload, 1) := by decide +kernel
theorem dX12_cutsOne_126 : decode cX12_cutsOne 126 = .ok (.iconst 1, 1) := by decide +kernel
theorem dX12_cutsOne_127 : decode cX12_cutsOne 127 = .ok (.iadd, 1) := by decide +kernel
theorem dX12_cutsOne_128 : decode cX12_cutsOne 128 = .ok (.iastore, 1) := by decide +kernel
theorem dX12_cutsOne_129 : decode cX12_cutsOne 129 = .ok (.aload_n 0, 1) := by decide +kernel
theorem dX12_cutsOne_130 : decode cX12_cutsOne 130 = .ok (.getfield 13, 3) := by decide +kernel
theorem dX12_cutsOne_133 : decode cX12_cutsOne 133 = .ok (.iconst 2, 1) := by decide +kernel
theorem dX12_cutsOne_134 : decode cX12_cutsOne 134 = .ok (.iload_n 2, 1) := by decide +kernel
theorem dX12_cutsOne_135 : decode cX12_cutsOne 135 = .ok (.iadd, 1) := by decide +kernel
theorem dX12_cutsOne_136 : decode cX12_cutsOne 136 = .ok (.dup2, 1) := by decide +kernel
theorem dX12_cutsOne_137 : decode cX12_cutsOne 137 = .ok (.iaload, 1) := by decide +kernel
theorem dX12_cutsOne_138 : decode cX12_cutsOne 138 = .ok (.iconst 1, 1) := by decide +kernel
theorem dX12_cutsOne_139 : decode cX12_cutsOne 139 = .ok (.iadd, 1) := by decide +kernel
theorem dX12_cutsOne_140 : decode cX12_cutsOne 140 = .ok (.iastore, 1) := by decide +kernel
theorem dX12_cutsOne_141 : decode cX12_cutsOne 141 = .ok (.aload_n 0, 1) := by decide +kernel
theorem dX12_cutsOne_142 : decode cX12_cutsOne 142 = .ok (.dup, 1) := by decide +kernel
theorem dX12_cutsOne_143 : decode cX12_cutsOne 143 = .ok (.getfield 84, 3) := by decide +kernel
theorem dX12_cutsOne_146 : decode cX12_cutsOne 146 = .ok (.iconst 1, 1) := by decide +kernel
theorem dX12_cutsOne_147 : decode cX12_cutsOne 147 = .ok (.iadd, 1) := by decide +kernel
theorem dX12_cutsOne_148 : decode cX12_cutsOne 148 = .ok (.putfield 84, 3) := by decide +kernel
theorem dX12_cutsOne_151 : decode cX12_cutsOne 151 = .ok (.iconst 0, 1) := by decide +kernel
theorem dX12_cutsOne_152 : decode cX12_cutsOne 152 = .ok (.istore_n 3, 1) := by decide +kernel
theorem dX12_cutsOne_153 : decode cX12_cutsOne 153 = .ok (.iload_n 3, 1) := by decide +kernel
theorem dX12_cutsOne_154 : decode cX12_cutsOne 154 = .ok (.aload_n 0, 1) := by decide +kernel
theorem dX12_cutsOne_155 : decode cX12_cutsOne 155 = .ok (.iload_n 1, 1) := by decide +kernel
theorem dX12_cutsOne_156 : decode cX12_cutsOne 156 = .ok (.iconst 2, 1) := by decide +kernel
theorem dX12_cutsOne_157 : decode cX12_cutsOne 157 = .ok (.invokevirtual 70, 3) := by decide +kernel
theorem dX12_cutsOne_160 : decode cX12_cutsOne 160 = .ok (.if_icmp .ge 69, 3) := by decide +kernel
theorem dX12_cutsOne_163 : decode cX12_cutsOne 163 = .ok (.aload_n 0, 1) := by decide +kernel
theorem dX12_cutsOne_164 : decode cX12_cutsOne 164 = .ok (.getfield 13, 3) := by decide +kernel
theorem dX12_cutsOne_167 : decode cX12_cutsOne 167 = .ok (.sipush 190, 3) := by decide +kernel
theorem dX12_cutsOne_170 : decode cX12_cutsOne 170 = .ok (.iload_n 1, 1) := by decide +kernel
theorem dX12_cutsOne_171 : decode cX12_cutsOne 171 = .ok (.iload_n 3, 1) := by decide +kernel
theorem dX12_cutsOne_172 : decode cX12_cutsOne 172 = .ok (.invokestatic 81, 3) := by decide +kernel
theorem dX12_cutsOne_175 : decode cX12_cutsOne 175 = .ok (.iadd, 1) := by decide +kernel
theorem dX12_cutsOne_176 : decode cX12_cutsOne 176 = .ok (.aload_n 0, 1) := by decide +kernel
theorem dX12_cutsOne_177 : decode cX12_cutsOne 177 = .ok (.getfield 13, 3) := by decide +kernel
theorem dX12_cutsOne_180 : decode cX12_cutsOne 180 = .ok (.sipush 190, 3) := by decide +kernel
theorem dX12_cutsOne_183 : decode cX12_cutsOne 183 = .ok (.iload_n 1, 1) := by decide +kernel
theorem dX12_cutsOne_184 : decode cX12_cutsOne 184 = .ok (.iload_n 3, 1) := by decide +kernel
theorem dX12_cutsOne_185 : decode cX12_cutsOne 185 = .ok (.iconst 1, 1) := by decide +kernel
theorem dX12_cutsOne_186 : decode cX12_cutsOne 186 = .ok (.iadd, 1) := by decide +kernel
theorem dX12_cutsOne_187 : decode cX12_cutsOne 187 = .ok (.invokestatic 81, 3) := by decide +kernel
theorem dX12_cutsOne_190 : decode cX12_cutsOne 190 = .ok (.iadd, 1) := by decide +kernel
theorem dX12_cutsOne_191 : decode cX12_cutsOne 191 = .ok (.iaload, 1) := by decide +kernel
theorem dX12_cutsOne_192 : decode cX12_cutsOne 192 = .ok (.iastore, 1) := by decide +kernel
theorem dX12_cutsOne_193 : decode cX12_cutsOne 193 = .ok (.aload_n 0, 1) := by decide +kernel
theorem dX12_cutsOne_194 : decode cX12_cutsOne 194 = .ok (.getfield 13, 3) := by decide +kernel
theorem dX12_cutsOne_197 : decode cX12_cutsOne 197 = .ok (.sipush 7406, 3) := by decide +kernel
theorem dX12_cutsOne_200 : decode cX12_cutsOne 200 = .ok (.iload_n 1, 1) := by decide +kernel
theorem dX12_cutsOne_201 : decode cX12_cutsOne 201 = .ok (.iload_n 3, 1) := by decide +kernel
theorem dX12_cutsOne_202 : decode cX12_cutsOne 202 = .ok (.invokestatic 81, 3) := by decide +kernel
theorem dX12_cutsOne_205 : decode cX12_cutsOne 205 = .ok (.iadd, 1) := by decide +kernel
theorem dX12_cutsOne_206 : decode cX12_cutsOne 206 = .ok (.aload_n 0, 1) := by decide +kernel
theorem dX12_cutsOne_207 : decode cX12_cutsOne 207 = .ok (.getfield 13, 3) := by decide +kernel
theorem dX12_cutsOne_210 : decode cX12_cutsOne 210 = .ok (.sipush 7406, 3) := by decide +kernel
theorem dX12_cutsOne_213 : decode cX12_cutsOne 213 = .ok (.iload_n 1, 1) := by decide +kernel
theorem dX12_cutsOne_214 : decode cX12_cutsOne 214 = .ok (.iload_n 3, 1) := by decide +kernel
theorem dX12_cutsOne_215 : decode cX12_cutsOne 215 = .ok (.iconst 1, 1) := by decide +kernel
theorem dX12_cutsOne_216 : decode cX12_cutsOne 216 = .ok (.iadd, 1) := by decide +kernel
theorem dX12_cutsOne_217 : decode cX12_cutsOne 217 = .ok (.invokestatic 81, 3) := by decide +kernel
theorem dX12_cutsOne_220 : decode cX12_cutsOne 220 = .ok (.iadd, 1) := by decide +kernel
theorem dX12_cutsOne_221 : decode cX12_cutsOne 221 = .ok (.iaload, 1) := by decide +kernel
theorem dX12_cutsOne_222 : decode cX12_cutsOne 222 = .ok (.iastore, 1) := by decide +kernel
theorem dX12_cutsOne_223 : decode cX12_cutsOne 223 = .ok (.iinc 3 1, 3) := by decide +kernel
theorem dX12_cutsOne_226 : decode cX12_cutsOne 226 = .ok (.goto (-73), 3) := by decide +kernel
theorem dX12_cutsOne_229 : decode cX12_cutsOne 229 = .ok (.return_, 1) := by decide +kernel
theorem dX12_cuts_0 : decode cX12_cuts 0 = .ok (.aload_n 0, 1) := by decide +kernel
theorem dX12_cuts_1 : decode cX12_cuts 1 = .ok (.iload_n 1, 1) := by decide +kernel
theorem dX12_cuts_2 : decode cX12_cuts 2 = .ok (.invokevirtual 128, 3) := by decide +kernel
theorem dX12_cuts_5 : decode cX12_cuts 5 = .ok (.istore_n 2, 1) := by decide +kernel
theorem dX12_cuts_6 : decode cX12_cuts 6 = .ok (.iload_n 2, 1) := by decide +kernel
theorem dX12_cuts_7 : decode cX12_cuts 7 = .ok (.iconst (-1), 1) := by decide +kernel
theorem dX12_cuts_8 : decode cX12_cuts 8 = .ok (.if_icmp .eq 18, 3) := by decide +kernel
theorem dX12_cuts_11 : decode cX12_cuts 11 = .ok (.aload_n 0, 1) := by decide +kernel
theorem dX12_cuts_12 : decode cX12_cuts 12 = .ok (.iload_n 1, 1) := by decide +kernel
theorem dX12_cuts_13 : decode cX12_cuts 13 = .ok (.iload_n 2, 1) := by decide +kernel
theorem dX12_cuts_14 : decode cX12_cuts 14 = .ok (.invokevirtual 131, 3) := by decide +kernel
theorem dX12_cuts_17 : decode cX12_cuts 17 = .ok (.aload_n 0, 1) := by decide +kernel
theorem dX12_cuts_18 : decode cX12_cuts 18 = .ok (.iload_n 1, 1) := by decide +kernel
theorem dX12_cuts_19 : decode cX12_cuts 19 = .ok (.invokevirtual 128, 3) := by decide +kernel
theorem dX12_cuts_22 : decode cX12_cuts 22 = .ok (.istore_n 2, 1) := by decide +kernel
theorem dX12_cuts_23 : decode cX12_cuts 23 = .ok (.goto (-17), 3) := by decide +kernel
theorem dX12_cuts_26 : decode cX12_cuts 26 = .ok (.return_, 1) := by decide +kernel
theorem dX12_ticks_0 : decode cX12_ticks 0 = .ok (.aload_n 0, 1) := by decide +kernel
theorem dX12_ticks_1 : decode cX12_ticks 1 = .ok (.getfield 13, 3) := by decide +kernel
theorem dX12_ticks_4 : decode cX12_ticks 4 = .ok (.iconst 0, 1) := by decide +kernel
theorem dX12_ticks_5 : decode cX12_ticks 5 = .ok (.dup2, 1) := by decide +kernel
theorem dX12_ticks_6 : decode cX12_ticks 6 = .ok (.iaload, 1) := by decide +kernel
theorem dX12_ticks_7 : decode cX12_ticks 7 = .ok (.iconst 1, 1) := by decide +kernel
theorem dX12_ticks_8 : decode cX12_ticks 8 = .ok (.iadd, 1) := by decide +kernel
theorem dX12_ticks_9 : decode cX12_ticks 9 = .ok (.iastore, 1) := by decide +kernel
theorem dX12_ticks_10 : decode cX12_ticks 10 = .ok (.iconst 0, 1) := by decide +kernel
theorem dX12_ticks_11 : decode cX12_ticks 11 = .ok (.istore_n 1, 1) := by decide +kernel
theorem dX12_ticks_12 : decode cX12_ticks 12 = .ok (.iload_n 1, 1) := by decide +kernel
theorem dX12_ticks_13 : decode cX12_ticks 13 = .ok (.bipush 6, 2) := by decide +kernel
theorem dX12_ticks_15 : decode cX12_ticks 15 = .ok (.if_icmp .ge 80, 3) := by decide +kernel
theorem dX12_ticks_18 : decode cX12_ticks 18 = .ok (.aload_n 0, 1) := by decide +kernel
theorem dX12_ticks_19 : decode cX12_ticks 19 = .ok (.iload_n 1, 1) := by decide +kernel
theorem dX12_ticks_20 : decode cX12_ticks 20 = .ok (.invokevirtual 77, 3) := by decide +kernel
theorem dX12_ticks_23 : decode cX12_ticks 23 = .ok (.ifCond .eq 66, 3) := by decide +kernel
theorem dX12_ticks_26 : decode cX12_ticks 26 = .ok (.aload_n 0, 1) := by decide +kernel
theorem dX12_ticks_27 : decode cX12_ticks 27 = .ok (.iload_n 1, 1) := by decide +kernel
theorem dX12_ticks_28 : decode cX12_ticks 28 = .ok (.iconst 4, 1) := by decide +kernel
theorem dX12_ticks_29 : decode cX12_ticks 29 = .ok (.invokevirtual 74, 3) := by decide +kernel
theorem dX12_ticks_32 : decode cX12_ticks 32 = .ok (.iconst (-1), 1) := by decide +kernel
theorem dX12_ticks_33 : decode cX12_ticks 33 = .ok (.if_icmp .eq 56, 3) := by decide +kernel
theorem dX12_ticks_36 : decode cX12_ticks 36 = .ok (.aload_n 0, 1) := by decide +kernel
theorem dX12_ticks_37 : decode cX12_ticks 37 = .ok (.iload_n 1, 1) := by decide +kernel
theorem dX12_ticks_38 : decode cX12_ticks 38 = .ok (.iconst 4, 1) := by decide +kernel
theorem dX12_ticks_39 : decode cX12_ticks 39 = .ok (.invokevirtual 74, 3) := by decide +kernel
theorem dX12_ticks_42 : decode cX12_ticks 42 = .ok (.aload_n 0, 1) := by decide +kernel
theorem dX12_ticks_43 : decode cX12_ticks 43 = .ok (.getfield 13, 3) := by decide +kernel
theorem dX12_ticks_46 : decode cX12_ticks 46 = .ok (.iconst 0, 1) := by decide +kernel
theorem dX12_ticks_47 : decode cX12_ticks 47 = .ok (.iaload, 1) := by decide +kernel
theorem dX12_ticks_48 : decode cX12_ticks 48 = .ok (.if_icmp .ge 41, 3) := by decide +kernel
theorem dX12_ticks_51 : decode cX12_ticks 51 = .ok (.aload_n 0, 1) := by decide +kernel
theorem dX12_ticks_52 : decode cX12_ticks 52 = .ok (.getfield 13, 3) := by decide +kernel
theorem dX12_ticks_55 : decode cX12_ticks 55 = .ok (.iload_n 1, 1) := by decide +kernel
theorem dX12_ticks_56 : decode cX12_ticks 56 = .ok (.invokestatic 63, 3) := by decide +kernel
theorem dX12_ticks_59 : decode cX12_ticks 59 = .ok (.iconst 4, 1) := by decide +kernel
theorem dX12_ticks_60 : decode cX12_ticks 60 = .ok (.iadd, 1) := by decide +kernel
theorem dX12_ticks_61 : decode cX12_ticks 61 = .ok (.iconst (-1), 1) := by decide +kernel
theorem dX12_ticks_62 : decode cX12_ticks 62 = .ok (.iastore, 1) := by decide +kernel
theorem dX12_ticks_63 : decode cX12_ticks 63 = .ok (.aload_n 0, 1) := by decide +kernel
theorem dX12_ticks_64 : decode cX12_ticks 64 = .ok (.getfield 13, 3) := by decide +kernel
theorem dX12_ticks_67 : decode cX12_ticks 67 = .ok (.iload_n 1, 1) := by decide +kernel
theorem dX12_ticks_68 : decode cX12_ticks 68 = .ok (.invokestatic 63, 3) := by decide +kernel
theorem dX12_ticks_71 : decode cX12_ticks 71 = .ok (.bipush 6, 2) := by decide +kernel
theorem dX12_ticks_73 : decode cX12_ticks 73 = .ok (.iadd, 1) := by decide +kernel
theorem dX12_ticks_74 : decode cX12_ticks 74 = .ok (.dup2, 1) := by decide +kernel
theorem dX12_ticks_75 : decode cX12_ticks 75 = .ok (.iaload, 1) := by decide +kernel
theorem dX12_ticks_76 : decode cX12_ticks 76 = .ok (.iconst 1, 1) := by decide +kernel
theorem dX12_ticks_77 : decode cX12_ticks 77 = .ok (.iadd, 1) := by decide +kernel
theorem dX12_ticks_78 : decode cX12_ticks 78 = .ok (.iastore, 1) := by decide +kernel
theorem dX12_ticks_79 : decode cX12_ticks 79 = .ok (.aload_n 0, 1) := by decide +kernel
theorem dX12_ticks_80 : decode cX12_ticks 80 = .ok (.dup, 1) := by decide +kernel
theorem dX12_ticks_81 : decode cX12_ticks 81 = .ok (.getfield 87, 3) := by decide +kernel
theorem dX12_ticks_84 : decode cX12_ticks 84 = .ok (.iconst 1, 1) := by decide +kernel
theorem dX12_ticks_85 : decode cX12_ticks 85 = .ok (.iadd, 1) := by decide +kernel
theorem dX12_ticks_86 : decode cX12_ticks 86 = .ok (.putfield 87, 3) := by decide +kernel
theorem dX12_ticks_89 : decode cX12_ticks 89 = .ok (.iinc 1 1, 3) := by decide +kernel
theorem dX12_ticks_92 : decode cX12_ticks 92 = .ok (.goto (-80), 3) := by decide +kernel
theorem dX12_ticks_95 : decode cX12_ticks 95 = .ok (.iconst 0, 1) := by decide +kernel
theorem dX12_ticks_96 : decode cX12_ticks 96 = .ok (.istore_n 1, 1) := by decide +kernel
theorem dX12_ticks_97 : decode cX12_ticks 97 = .ok (.iload_n 1, 1) := by decide +kernel
theorem dX12_ticks_98 : decode cX12_ticks 98 = .ok (.iconst 4, 1) := by decide +kernel
theorem dX12_ticks_99 : decode cX12_ticks 99 = .ok (.if_icmp .ge 22, 3) := by decide +kernel
theorem dX12_ticks_102 : decode cX12_ticks 102 = .ok (.aload_n 0, 1) := by decide +kernel
theorem dX12_ticks_103 : decode cX12_ticks 103 = .ok (.iload_n 1, 1) := by decide +kernel
theorem dX12_ticks_104 : decode cX12_ticks 104 = .ok (.invokevirtual 134, 3) := by decide +kernel
theorem dX12_ticks_107 : decode cX12_ticks 107 = .ok (.ifCond .eq 8, 3) := by decide +kernel
theorem dX12_ticks_110 : decode cX12_ticks 110 = .ok (.aload_n 0, 1) := by decide +kernel
theorem dX12_ticks_111 : decode cX12_ticks 111 = .ok (.iload_n 1, 1) := by decide +kernel
theorem dX12_ticks_112 : decode cX12_ticks 112 = .ok (.invokevirtual 137, 3) := by decide +kernel
theorem dX12_ticks_115 : decode cX12_ticks 115 = .ok (.iinc 1 1, 3) := by decide +kernel
theorem dX12_ticks_118 : decode cX12_ticks 118 = .ok (.goto (-21), 3) := by decide +kernel
theorem dX12_ticks_121 : decode cX12_ticks 121 = .ok (.return_, 1) := by decide +kernel
theorem dX12_lowOf_0 : decode cX12_lowOf 0 = .ok (.iload_n 0, 1) := by decide +kernel
theorem dX12_lowOf_1 : decode cX12_lowOf 1 = .ok (.iconst 2, 1) := by decide +kernel
theorem dX12_lowOf_2 : decode cX12_lowOf 2 = .ok (.if_icmp .eq 14, 3) := by decide +kernel
theorem dX12_lowOf_5 : decode cX12_lowOf 5 = .ok (.iload_n 0, 1) := by decide +kernel
theorem dX12_lowOf_6 : decode cX12_lowOf 6 = .ok (.iconst 3, 1) := by decide +kernel
theorem dX12_lowOf_7 : decode cX12_lowOf 7 = .ok (.if_icmp .eq 9, 3) := by decide +kernel
theorem dX12_lowOf_10 : decode cX12_lowOf 10 = .ok (.iload_n 0, 1) := by decide +kernel
theorem dX12_lowOf_11 : decode cX12_lowOf 11 = .ok (.bipush 6, 2) := by decide +kernel
theorem dX12_lowOf_13 : decode cX12_lowOf 13 = .ok (.if_icmp .ne 7, 3) := by decide +kernel
theorem dX12_lowOf_16 : decode cX12_lowOf 16 = .ok (.iconst 0, 1) := by decide +kernel
theorem dX12_lowOf_17 : decode cX12_lowOf 17 = .ok (.goto 4, 3) := by decide +kernel
theorem dX12_lowOf_20 : decode cX12_lowOf 20 = .ok (.iconst 1, 1) := by decide +kernel
theorem dX12_lowOf_21 : decode cX12_lowOf 21 = .ok (.ireturn, 1) := by decide +kernel
theorem dX12_highOf_0 : decode cX12_highOf 0 = .ok (.iload_n 0, 1) := by decide +kernel
theorem dX12_highOf_1 : decode cX12_highOf 1 = .ok (.tableswitch 60 0 5 #[39, 43, 47, 51, 54, 57], 39) := by decide +kernel
theorem dX12_highOf_40 : decode cX12_highOf 40 = .ok (.sipush 400, 3) := by decide +kernel
theorem dX12_highOf_43 : decode cX12_highOf 43 = .ok (.ireturn, 1) := by decide +kernel
theorem dX12_highOf_44 : decode cX12_highOf 44 = .ok (.sipush 900, 3) := by decide +kernel
theorem dX12_highOf_47 : decode cX12_highOf 47 = .ok (.ireturn, 1) := by decide +kernel
theorem dX12_highOf_48 : decode cX12_highOf 48 = .ok (.sipush 500, 3) := by decide +kernel
theorem dX12_highOf_51 : decode cX12_highOf 51 = .ok (.ireturn, 1) := by decide +kernel
theorem dX12_highOf_52 : decode cX12_highOf 52 = .ok (.bipush 99, 2) := by decide +kernel
theorem dX12_highOf_54 : decode cX12_highOf 54 = .ok (.ireturn, 1) := by decide +kernel
theorem dX12_highOf_55 : decode cX12_highOf 55 = .ok (.bipush 9, 2) := by decide +kernel
theorem dX12_highOf_57 : decode cX12_highOf 57 = .ok (.ireturn, 1) := by decide +kernel
theorem dX12_highOf_58 : decode cX12_highOf 58 = .ok (.bipush 60, 2) := by decide +kernel
theorem dX12_highOf_60 : decode cX12_highOf 60 = .ok (.ireturn, 1) := by decide +kernel
theorem dX12_highOf_61 : decode cX12_highOf 61 = .ok (.iconst 1, 1) := by decide +kernel
theorem dX12_highOf_62 : decode cX12_highOf 62 = .ok (.ireturn, 1) := by decide +kernel
theorem dX12_set_0 : decode cX12_set 0 = .ok (.aload_n 0, 1) := by decide +kernel
theorem dX12_set_1 : decode cX12_set 1 = .ok (.iload_n 1, 1) := by decide +kernel
theorem dX12_set_2 : decode cX12_set 2 = .ok (.iconst 0, 1) := by decide +kernel
theorem dX12_set_3 : decode cX12_set 3 = .ok (.bipush 6, 2) := by decide +kernel
theorem dX12_set_5 : decode cX12_set 5 = .ok (.invokestatic 66, 3) := by decide +kernel
theorem dX12_set_8 : decode cX12_set 8 = .ok (.ifCond .eq 22, 3) := by decide +kernel
theorem dX12_set_11 : decode cX12_set 11 = .ok (.iload_n 2, 1) := by decide +kernel
theorem dX12_set_12 : decode cX12_set 12 = .ok (.iload_n 1, 1) := by decide +kernel
theorem dX12_set_13 : decode cX12_set 13 = .ok (.invokestatic 141, 3) := by decide +kernel
theorem dX12_set_16 : decode cX12_set 16 = .ok (.iload_n 1, 1) := by decide +kernel
theorem dX12_set_17 : decode cX12_set 17 = .ok (.invokestatic 144, 3) := by decide +kernel
theorem dX12_set_20 : decode cX12_set 20 = .ok (.invokestatic 66, 3) := by decide +kernel
theorem dX12_set_23 : decode cX12_set 23 = .ok (.ifCond .eq 7, 3) := by decide +kernel
theorem dX12_set_26 : decode cX12_set 26 = .ok (.iconst 0, 1) := by decide +kernel
theorem dX12_set_27 : decode cX12_set 27 = .ok (.goto 4, 3) := by decide +kernel
theorem dX12_set_30 : decode cX12_set 30 = .ok (.iconst 1, 1) := by decide +kernel
theorem dX12_set_31 : decode cX12_set 31 = .ok (.putfield 60, 3) := by decide +kernel
theorem dX12_set_34 : decode cX12_set 34 = .ok (.aload_n 0, 1) := by decide +kernel
theorem dX12_set_35 : decode cX12_set 35 = .ok (.getfield 60, 3) := by decide +kernel
theorem dX12_set_38 : decode cX12_set 38 = .ok (.ifCond .le 5, 3) := by decide +kernel
theorem dX12_set_41 : decode cX12_set 41 = .ok (.iconst 0, 1) := by decide +kernel
theorem dX12_set_42 : decode cX12_set 42 = .ok (.ireturn, 1) := by decide +kernel
theorem dX12_set_43 : decode cX12_set 43 = .ok (.aload_n 0, 1) := by decide +kernel
theorem dX12_set_44 : decode cX12_set 44 = .ok (.getfield 7, 3) := by decide +kernel
theorem dX12_set_47 : decode cX12_set 47 = .ok (.iload_n 1, 1) := by decide +kernel
theorem dX12_set_48 : decode cX12_set 48 = .ok (.iaload, 1) := by decide +kernel
theorem dX12_set_49 : decode cX12_set 49 = .ok (.istore_n 3, 1) := by decide +kernel
theorem dX12_set_50 : decode cX12_set 50 = .ok (.aload_n 0, 1) := by decide +kernel
theorem dX12_set_51 : decode cX12_set 51 = .ok (.getfield 7, 3) := by decide +kernel
theorem dX12_set_54 : decode cX12_set 54 = .ok (.iload_n 1, 1) := by decide +kernel
theorem dX12_set_55 : decode cX12_set 55 = .ok (.iload_n 2, 1) := by decide +kernel
theorem dX12_set_56 : decode cX12_set 56 = .ok (.iastore, 1) := by decide +kernel
theorem dX12_set_57 : decode cX12_set 57 = .ok (.iload_n 3, 1) := by decide +kernel
theorem dX12_set_58 : decode cX12_set 58 = .ok (.ireturn, 1) := by decide +kernel
theorem dX12_branchMany_0 : decode cX12_branchMany 0 = .ok (.iconst 0, 1) := by decide +kernel
theorem dX12_branchMany_1 : decode cX12_branchMany 1 = .ok (.istore_n 1, 1) := by decide +kernel
theorem dX12_branchMany_2 : decode cX12_branchMany 2 = .ok (.iconst 0, 1) := by decide +kernel
theorem dX12_branchMany_3 : decode cX12_branchMany 3 = .ok (.istore_n 2, 1) := by decide +kernel
theorem dX12_branchMany_4 : decode cX12_branchMany 4 = .ok (.iload_n 2, 1) := by decide +kernel
theorem dX12_branchMany_5 : decode cX12_branchMany 5 = .ok (.iconst 4, 1) := by decide +kernel
theorem dX12_branchMany_6 : decode cX12_branchMany 6 = .ok (.if_icmp .ge 25, 3) := by decide +kernel
theorem dX12_branchMany_9 : decode cX12_branchMany 9 = .ok (.iload_n 1, 1) := by decide +kernel
theorem dX12_branchMany_10 : decode cX12_branchMany 10 = .ok (.aload_n 0, 1) := by decide +kernel
theorem dX12_branchMany_11 : decode cX12_branchMany 11 = .ok (.iload_n 2, 1) := by decide +kernel
theorem dX12_branchMany_12 : decode cX12_branchMany 12 = .ok (.invokevirtual 134, 3) := by decide +kernel
theorem dX12_branchMany_15 : decode cX12_branchMany 15 = .ok (.ifCond .eq 7, 3) := by decide +kernel
theorem dX12_branchMany_18 : decode cX12_branchMany 18 = .ok (.iconst 1, 1) := by decide +kernel
theorem dX12_branchMany_19 : decode cX12_branchMany 19 = .ok (.goto 4, 3) := by decide +kernel
theorem dX12_branchMany_22 : decode cX12_branchMany 22 = .ok (.iconst 0, 1) := by decide +kernel
theorem dX12_branchMany_23 : decode cX12_branchMany 23 = .ok (.iadd, 1) := by decide +kernel
theorem dX12_branchMany_24 : decode cX12_branchMany 24 = .ok (.istore_n 1, 1) := by decide +kernel
theorem dX12_branchMany_25 : decode cX12_branchMany 25 = .ok (.iinc 2 1, 3) := by decide +kernel
theorem dX12_branchMany_28 : decode cX12_branchMany 28 = .ok (.goto (-24), 3) := by decide +kernel
theorem dX12_branchMany_31 : decode cX12_branchMany 31 = .ok (.iload_n 1, 1) := by decide +kernel
theorem dX12_branchMany_32 : decode cX12_branchMany 32 = .ok (.ireturn, 1) := by decide +kernel
theorem dX12_readerMany_0 : decode cX12_readerMany 0 = .ok (.iconst 0, 1) := by decide +kernel
theorem dX12_readerMany_1 : decode cX12_readerMany 1 = .ok (.istore_n 1, 1) := by decide +kernel
theorem dX12_readerMany_2 : decode cX12_readerMany 2 = .ok (.iconst 0, 1) := by decide +kernel
theorem dX12_readerMany_3 : decode cX12_readerMany 3 = .ok (.istore_n 2, 1) := by decide +kernel
theorem dX12_readerMany_4 : decode cX12_readerMany 4 = .ok (.iload_n 2, 1) := by decide +kernel
theorem dX12_readerMany_5 : decode cX12_readerMany 5 = .ok (.bipush 6, 2) := by decide +kernel
theorem dX12_readerMany_7 : decode cX12_readerMany 7 = .ok (.if_icmp .ge 25, 3) := by decide +kernel
theorem dX12_readerMany_10 : decode cX12_readerMany 10 = .ok (.iload_n 1, 1) := by decide +kernel
theorem dX12_readerMany_11 : decode cX12_readerMany 11 = .ok (.aload_n 0, 1) := by decide +kernel
theorem dX12_readerMany_12 : decode cX12_readerMany 12 = .ok (.iload_n 2, 1) := by decide +kernel
theorem dX12_readerMany_13 : decode cX12_readerMany 13 = .ok (.invokevirtual 77, 3) := by decide +kernel
theorem dX12_readerMany_16 : decode cX12_readerMany 16 = .ok (.ifCond .eq 7, 3) := by decide +kernel
theorem dX12_readerMany_19 : decode cX12_readerMany 19 = .ok (.iconst 1, 1) := by decide +kernel
theorem dX12_readerMany_20 : decode cX12_readerMany 20 = .ok (.goto 4, 3) := by decide +kernel
theorem dX12_readerMany_23 : decode cX12_readerMany 23 = .ok (.iconst 0, 1) := by decide +kernel
theorem dX12_readerMany_24 : decode cX12_readerMany 24 = .ok (.iadd, 1) := by decide +kernel
theorem dX12_readerMany_25 : decode cX12_readerMany 25 = .ok (.istore_n 1, 1) := by decide +kernel
theorem dX12_readerMany_26 : decode cX12_readerMany 26 = .ok (.iinc 2 1, 3) := by decide +kernel
theorem dX12_readerMany_29 : decode cX12_readerMany 29 = .ok (.goto (-25), 3) := by decide +kernel
theorem dX12_readerMany_32 : decode cX12_readerMany 32 = .ok (.iload_n 1, 1) := by decide +kernel
theorem dX12_readerMany_33 : decode cX12_readerMany 33 = .ok (.ireturn, 1) := by decide +kernel
theorem dX12_entryMany_0 : decode cX12_entryMany 0 = .ok (.iconst 0, 1) := by decide +kernel
theorem dX12_entryMany_1 : decode cX12_entryMany 1 = .ok (.istore_n 1, 1) := by decide +kernel
theorem dX12_entryMany_2 : decode cX12_entryMany 2 = .ok (.iconst 0, 1) := by decide +kernel
theorem dX12_entryMany_3 : decode cX12_entryMany 3 = .ok (.istore_n 2, 1) := by decide +kernel
theorem dX12_entryMany_4 : decode cX12_entryMany 4 = .ok (.iload_n 2, 1) := by decide +kernel
theorem dX12_entryMany_5 : decode cX12_entryMany 5 = .ok (.iconst 4, 1) := by decide +kernel
theorem dX12_entryMany_6 : decode cX12_entryMany 6 = .ok (.if_icmp .ge 30, 3) := by decide +kernel
theorem dX12_entryMany_9 : decode cX12_entryMany 9 = .ok (.iload_n 1, 1) := by decide +kernel
theorem dX12_entryMany_10 : decode cX12_entryMany 10 = .ok (.aload_n 0, 1) := by decide +kernel
theorem dX12_entryMany_11 : decode cX12_entryMany 11 = .ok (.iload_n 2, 1) := by decide +kernel
theorem dX12_entryMany_12 : decode cX12_entryMany 12 = .ok (.invokevirtual 134, 3) := by decide +kernel
theorem dX12_entryMany_15 : decode cX12_entryMany 15 = .ok (.ifCond .eq 12, 3) := by decide +kernel
theorem dX12_entryMany_18 : decode cX12_entryMany 18 = .ok (.aload_n 0, 1) := by decide +kernel
theorem dX12_entryMany_19 : decode cX12_entryMany 19 = .ok (.iload_n 2, 1) := by decide +kernel
theorem dX12_entryMany_20 : decode cX12_entryMany 20 = .ok (.iconst 2, 1) := by decide +kernel
theorem dX12_entryMany_21 : decode cX12_entryMany 21 = .ok (.invokevirtual 70, 3) := by decide +kernel
theorem dX12_entryMany_24 : decode cX12_entryMany 24 = .ok (.goto 4, 3) := by decide +kernel
theorem dX12_entryMany_27 : decode cX12_entryMany 27 = .ok (.iconst 0, 1) := by decide +kernel
theorem dX12_entryMany_28 : decode cX12_entryMany 28 = .ok (.iadd, 1) := by decide +kernel
theorem dX12_entryMany_29 : decode cX12_entryMany 29 = .ok (.istore_n 1, 1) := by decide +kernel
theorem dX12_entryMany_30 : decode cX12_entryMany 30 = .ok (.iinc 2 1, 3) := by decide +kernel
theorem dX12_entryMany_33 : decode cX12_entryMany 33 = .ok (.goto (-29), 3) := by decide +kernel
theorem dX12_entryMany_36 : decode cX12_entryMany 36 = .ok (.iload_n 1, 1) := by decide +kernel
theorem dX12_entryMany_37 : decode cX12_entryMany 37 = .ok (.ireturn, 1) := by decide +kernel
theorem dX12_count_0 : decode cX12_count 0 = .ok (.aload_n 0, 1) := by decide +kernel
theorem dX12_count_1 : decode cX12_count 1 = .ok (.iload_n 1, 1) := by decide +kernel
theorem dX12_count_2 : decode cX12_count 2 = .ok (.iconst 0, 1) := by decide +kernel
theorem dX12_count_3 : decode cX12_count 3 = .ok (.bipush 17, 2) := by decide +kernel
theorem dX12_count_5 : decode cX12_count 5 = .ok (.invokestatic 66, 3) := by decide +kernel
theorem dX12_count_8 : decode cX12_count 8 = .ok (.ifCond .eq 7, 3) := by decide +kernel
theorem dX12_count_11 : decode cX12_count 11 = .ok (.iconst 0, 1) := by decide +kernel
theorem dX12_count_12 : decode cX12_count 12 = .ok (.goto 4, 3) := by decide +kernel
theorem dX12_count_15 : decode cX12_count 15 = .ok (.iconst 1, 1) := by decide +kernel
theorem dX12_count_16 : decode cX12_count 16 = .ok (.putfield 60, 3) := by decide +kernel
theorem dX12_count_19 : decode cX12_count 19 = .ok (.aload_n 0, 1) := by decide +kernel
theorem dX12_count_20 : decode cX12_count 20 = .ok (.getfield 60, 3) := by decide +kernel
theorem dX12_count_23 : decode cX12_count 23 = .ok (.ifCond .le 7, 3) := by decide +kernel
theorem dX12_count_26 : decode cX12_count 26 = .ok (.iconst (-1), 1) := by decide +kernel
theorem dX12_count_27 : decode cX12_count 27 = .ok (.goto 4, 3) := by decide +kernel
theorem dX12_count_30 : decode cX12_count 30 = .ok (.iload_n 1, 1) := by decide +kernel
theorem dX12_count_31 : decode cX12_count 31 = .ok (.tableswitch 142 (-1) 17 #[89, 142, 142, 142, 142, 142, 142, 142, 91, 98, 103, 108, 113, 120, 120, 120, 120, 132, 137], 89) := by decide +kernel
theorem dX12_count_120 : decode cX12_count 120 = .ok (.iconst 0, 1) := by decide +kernel
theorem dX12_count_121 : decode cX12_count 121 = .ok (.ireturn, 1) := by decide +kernel
theorem dX12_count_122 : decode cX12_count 122 = .ok (.aload_n 0, 1) := by decide +kernel
theorem dX12_count_123 : decode cX12_count 123 = .ok (.getfield 13, 3) := by decide +kernel
theorem dX12_count_126 : decode cX12_count 126 = .ok (.iconst 0, 1) := by decide +kernel
theorem dX12_count_127 : decode cX12_count 127 = .ok (.iaload, 1) := by decide +kernel
theorem dX12_count_128 : decode cX12_count 128 = .ok (.ireturn, 1) := by decide +kernel
theorem dX12_count_129 : decode cX12_count 129 = .ok (.aload_n 0, 1) := by decide +kernel
theorem dX12_count_130 : decode cX12_count 130 = .ok (.invokevirtual 147, 3) := by decide +kernel
theorem dX12_count_133 : decode cX12_count 133 = .ok (.ireturn, 1) := by decide +kernel
theorem dX12_count_134 : decode cX12_count 134 = .ok (.aload_n 0, 1) := by decide +kernel
theorem dX12_count_135 : decode cX12_count 135 = .ok (.invokevirtual 151, 3) := by decide +kernel
theorem dX12_count_138 : decode cX12_count 138 = .ok (.ireturn, 1) := by decide +kernel
theorem dX12_count_139 : decode cX12_count 139 = .ok (.aload_n 0, 1) := by decide +kernel
theorem dX12_count_140 : decode cX12_count 140 = .ok (.invokevirtual 154, 3) := by decide +kernel
theorem dX12_count_143 : decode cX12_count 143 = .ok (.ireturn, 1) := by decide +kernel
theorem dX12_count_144 : decode cX12_count 144 = .ok (.aload_n 0, 1) := by decide +kernel
theorem dX12_count_145 : decode cX12_count 145 = .ok (.getfield 13, 3) := by decide +kernel
theorem dX12_count_148 : decode cX12_count 148 = .ok (.iconst 1, 1) := by decide +kernel
theorem dX12_count_149 : decode cX12_count 149 = .ok (.iaload, 1) := by decide +kernel
theorem dX12_count_150 : decode cX12_count 150 = .ok (.ireturn, 1) := by decide +kernel
theorem dX12_count_151 : decode cX12_count 151 = .ok (.aload_n 0, 1) := by decide +kernel
theorem dX12_count_152 : decode cX12_count 152 = .ok (.getfield 13, 3) := by decide +kernel
theorem dX12_count_155 : decode cX12_count 155 = .ok (.iconst 2, 1) := by decide +kernel
theorem dX12_count_156 : decode cX12_count 156 = .ok (.iload_n 1, 1) := by decide +kernel
theorem dX12_count_157 : decode cX12_count 157 = .ok (.iadd, 1) := by decide +kernel
theorem dX12_count_158 : decode cX12_count 158 = .ok (.bipush 12, 2) := by decide +kernel
theorem dX12_count_160 : decode cX12_count 160 = .ok (.isub, 1) := by decide +kernel
theorem dX12_count_161 : decode cX12_count 161 = .ok (.iaload, 1) := by decide +kernel
theorem dX12_count_162 : decode cX12_count 162 = .ok (.ireturn, 1) := by decide +kernel
theorem dX12_count_163 : decode cX12_count 163 = .ok (.aload_n 0, 1) := by decide +kernel
theorem dX12_count_164 : decode cX12_count 164 = .ok (.getfield 157, 3) := by decide +kernel
theorem dX12_count_167 : decode cX12_count 167 = .ok (.ireturn, 1) := by decide +kernel
theorem dX12_count_168 : decode cX12_count 168 = .ok (.aload_n 0, 1) := by decide +kernel
theorem dX12_count_169 : decode cX12_count 169 = .ok (.getfield 160, 3) := by decide +kernel
theorem dX12_count_172 : decode cX12_count 172 = .ok (.ireturn, 1) := by decide +kernel
theorem dX12_count_173 : decode cX12_count 173 = .ok (.aload_n 0, 1) := by decide +kernel
theorem dX12_count_174 : decode cX12_count 174 = .ok (.getfield 7, 3) := by decide +kernel
theorem dX12_count_177 : decode cX12_count 177 = .ok (.iload_n 1, 1) := by decide +kernel
theorem dX12_count_178 : decode cX12_count 178 = .ok (.iaload, 1) := by decide +kernel
theorem dX12_count_179 : decode cX12_count 179 = .ok (.ireturn, 1) := by decide +kernel
theorem dX12_childrenOf_0 : decode cX12_childrenOf 0 = .ok (.iconst 0, 1) := by decide +kernel
theorem dX12_childrenOf_1 : decode cX12_childrenOf 1 = .ok (.istore_n 2, 1) := by decide +kernel
theorem dX12_childrenOf_2 : decode cX12_childrenOf 2 = .ok (.iconst 0, 1) := by decide +kernel
theorem dX12_childrenOf_3 : decode cX12_childrenOf 3 = .ok (.istore_n 3, 1) := by decide +kernel
theorem dX12_childrenOf_4 : decode cX12_childrenOf 4 = .ok (.iload_n 3, 1) := by decide +kernel
theorem dX12_childrenOf_5 : decode cX12_childrenOf 5 = .ok (.iconst 4, 1) := by decide +kernel
theorem dX12_childrenOf_6 : decode cX12_childrenOf 6 = .ok (.if_icmp .ge 35, 3) := by decide +kernel
theorem dX12_childrenOf_9 : decode cX12_childrenOf 9 = .ok (.iload_n 2, 1) := by decide +kernel
theorem dX12_childrenOf_10 : decode cX12_childrenOf 10 = .ok (.aload_n 0, 1) := by decide +kernel
theorem dX12_childrenOf_11 : decode cX12_childrenOf 11 = .ok (.iload_n 3, 1) := by decide +kernel
theorem dX12_childrenOf_12 : decode cX12_childrenOf 12 = .ok (.invokevirtual 134, 3) := by decide +kernel
theorem dX12_childrenOf_15 : decode cX12_childrenOf 15 = .ok (.ifCond .eq 17, 3) := by decide +kernel
theorem dX12_childrenOf_18 : decode cX12_childrenOf 18 = .ok (.aload_n 0, 1) := by decide +kernel
theorem dX12_childrenOf_19 : decode cX12_childrenOf 19 = .ok (.iload_n 3, 1) := by decide +kernel
theorem dX12_childrenOf_20 : decode cX12_childrenOf 20 = .ok (.iconst 4, 1) := by decide +kernel
theorem dX12_childrenOf_21 : decode cX12_childrenOf 21 = .ok (.invokevirtual 70, 3) := by decide +kernel
theorem dX12_childrenOf_24 : decode cX12_childrenOf 24 = .ok (.iload_n 1, 1) := by decide +kernel
theorem dX12_childrenOf_25 : decode cX12_childrenOf 25 = .ok (.if_icmp .ne 7, 3) := by decide +kernel
theorem dX12_childrenOf_28 : decode cX12_childrenOf 28 = .ok (.iconst 1, 1) := by decide +kernel
theorem dX12_childrenOf_29 : decode cX12_childrenOf 29 = .ok (.goto 4, 3) := by decide +kernel
theorem dX12_childrenOf_32 : decode cX12_childrenOf 32 = .ok (.iconst 0, 1) := by decide +kernel
theorem dX12_childrenOf_33 : decode cX12_childrenOf 33 = .ok (.iadd, 1) := by decide +kernel
theorem dX12_childrenOf_34 : decode cX12_childrenOf 34 = .ok (.istore_n 2, 1) := by decide +kernel
theorem dX12_childrenOf_35 : decode cX12_childrenOf 35 = .ok (.iinc 3 1, 3) := by decide +kernel
theorem dX12_childrenOf_38 : decode cX12_childrenOf 38 = .ok (.goto (-34), 3) := by decide +kernel
theorem dX12_childrenOf_41 : decode cX12_childrenOf 41 = .ok (.iload_n 2, 1) := by decide +kernel
theorem dX12_childrenOf_42 : decode cX12_childrenOf 42 = .ok (.ireturn, 1) := by decide +kernel
theorem dX12_branch_0 : decode cX12_branch 0 = .ok (.aload_n 0, 1) := by decide +kernel
theorem dX12_branch_1 : decode cX12_branch 1 = .ok (.aload_n 0, 1) := by decide +kernel
theorem dX12_branch_2 : decode cX12_branch 2 = .ok (.iload_n 1, 1) := by decide +kernel
theorem dX12_branch_3 : decode cX12_branch 3 = .ok (.invokevirtual 134, 3) := by decide +kernel
theorem dX12_branch_6 : decode cX12_branch 6 = .ok (.ifCond .ne 7, 3) := by decide +kernel
theorem dX12_branch_9 : decode cX12_branch 9 = .ok (.iconst 1, 1) := by decide +kernel
theorem dX12_branch_10 : decode cX12_branch 10 = .ok (.goto 18, 3) := by decide +kernel
theorem dX12_branch_13 : decode cX12_branch 13 = .ok (.iload_n 2, 1) := by decide +kernel
theorem dX12_branch_14 : decode cX12_branch 14 = .ok (.iconst 0, 1) := by decide +kernel
theorem dX12_branch_15 : decode cX12_branch 15 = .ok (.bipush 7, 2) := by decide +kernel
theorem dX12_branch_17 : decode cX12_branch 17 = .ok (.invokestatic 66, 3) := by decide +kernel
theorem dX12_branch_20 : decode cX12_branch 20 = .ok (.ifCond .eq 7, 3) := by decide +kernel
theorem dX12_branch_23 : decode cX12_branch 23 = .ok (.iconst 0, 1) := by decide +kernel
theorem dX12_branch_24 : decode cX12_branch 24 = .ok (.goto 4, 3) := by decide +kernel
theorem dX12_branch_27 : decode cX12_branch 27 = .ok (.iconst 2, 1) := by decide +kernel
theorem dX12_branch_28 : decode cX12_branch 28 = .ok (.putfield 60, 3) := by decide +kernel
theorem dX12_branch_31 : decode cX12_branch 31 = .ok (.aload_n 0, 1) := by decide +kernel
theorem dX12_branch_32 : decode cX12_branch 32 = .ok (.getfield 60, 3) := by decide +kernel
theorem dX12_branch_35 : decode cX12_branch 35 = .ok (.ifCond .le 7, 3) := by decide +kernel
theorem dX12_branch_38 : decode cX12_branch 38 = .ok (.iconst (-1), 1) := by decide +kernel
theorem dX12_branch_39 : decode cX12_branch 39 = .ok (.goto 4, 3) := by decide +kernel
theorem dX12_branch_42 : decode cX12_branch 42 = .ok (.iload_n 2, 1) := by decide +kernel
theorem dX12_branch_43 : decode cX12_branch 43 = .ok (.tableswitch 93 (-1) 6 #[45, 47, 54, 60, 67, 74, 81, 87], 45) := by decide +kernel
theorem dX12_branch_88 : decode cX12_branch 88 = .ok (.iconst 0, 1) := by decide +kernel
theorem dX12_branch_89 : decode cX12_branch 89 = .ok (.ireturn, 1) := by decide +kernel
theorem dX12_branch_90 : decode cX12_branch 90 = .ok (.aload_n 0, 1) := by decide +kernel
theorem dX12_branch_91 : decode cX12_branch 91 = .ok (.iload_n 1, 1) := by decide +kernel
theorem dX12_branch_92 : decode cX12_branch 92 = .ok (.iconst 1, 1) := by decide +kernel
theorem dX12_branch_93 : decode cX12_branch 93 = .ok (.invokevirtual 70, 3) := by decide +kernel
theorem dX12_branch_96 : decode cX12_branch 96 = .ok (.ireturn, 1) := by decide +kernel
theorem dX12_branch_97 : decode cX12_branch 97 = .ok (.aload_n 0, 1) := by decide +kernel
theorem dX12_branch_98 : decode cX12_branch 98 = .ok (.iload_n 1, 1) := by decide +kernel
theorem dX12_branch_99 : decode cX12_branch 99 = .ok (.invokevirtual 163, 3) := by decide +kernel
theorem dX12_branch_102 : decode cX12_branch 102 = .ok (.ireturn, 1) := by decide +kernel
theorem dX12_branch_103 : decode cX12_branch 103 = .ok (.aload_n 0, 1) := by decide +kernel
theorem dX12_branch_104 : decode cX12_branch 104 = .ok (.iload_n 1, 1) := by decide +kernel
theorem dX12_branch_105 : decode cX12_branch 105 = .ok (.iconst 3, 1) := by decide +kernel
theorem dX12_branch_106 : decode cX12_branch 106 = .ok (.invokevirtual 70, 3) := by decide +kernel
theorem dX12_branch_109 : decode cX12_branch 109 = .ok (.ireturn, 1) := by decide +kernel
theorem dX12_branch_110 : decode cX12_branch 110 = .ok (.aload_n 0, 1) := by decide +kernel
theorem dX12_branch_111 : decode cX12_branch 111 = .ok (.iload_n 1, 1) := by decide +kernel
theorem dX12_branch_112 : decode cX12_branch 112 = .ok (.iconst 4, 1) := by decide +kernel
theorem dX12_branch_113 : decode cX12_branch 113 = .ok (.invokevirtual 70, 3) := by decide +kernel
theorem dX12_branch_116 : decode cX12_branch 116 = .ok (.ireturn, 1) := by decide +kernel
theorem dX12_branch_117 : decode cX12_branch 117 = .ok (.aload_n 0, 1) := by decide +kernel
theorem dX12_branch_118 : decode cX12_branch 118 = .ok (.iload_n 1, 1) := by decide +kernel
theorem dX12_branch_119 : decode cX12_branch 119 = .ok (.iconst 5, 1) := by decide +kernel
theorem dX12_branch_120 : decode cX12_branch 120 = .ok (.invokevirtual 70, 3) := by decide +kernel
theorem dX12_branch_123 : decode cX12_branch 123 = .ok (.ireturn, 1) := by decide +kernel
theorem dX12_branch_124 : decode cX12_branch 124 = .ok (.aload_n 0, 1) := by decide +kernel
theorem dX12_branch_125 : decode cX12_branch 125 = .ok (.iload_n 1, 1) := by decide +kernel
theorem dX12_branch_126 : decode cX12_branch 126 = .ok (.invokevirtual 103, 3) := by decide +kernel
theorem dX12_branch_129 : decode cX12_branch 129 = .ok (.ireturn, 1) := by decide +kernel
theorem dX12_branch_130 : decode cX12_branch 130 = .ok (.aload_n 0, 1) := by decide +kernel
theorem dX12_branch_131 : decode cX12_branch 131 = .ok (.iload_n 1, 1) := by decide +kernel
theorem dX12_branch_132 : decode cX12_branch 132 = .ok (.invokevirtual 166, 3) := by decide +kernel
theorem dX12_branch_135 : decode cX12_branch 135 = .ok (.ireturn, 1) := by decide +kernel
theorem dX12_branch_136 : decode cX12_branch 136 = .ok (.aload_n 0, 1) := by decide +kernel
theorem dX12_branch_137 : decode cX12_branch 137 = .ok (.iload_n 1, 1) := by decide +kernel
theorem dX12_branch_138 : decode cX12_branch 138 = .ok (.bipush 6, 2) := by decide +kernel
theorem dX12_branch_140 : decode cX12_branch 140 = .ok (.invokevirtual 70, 3) := by decide +kernel
theorem dX12_branch_143 : decode cX12_branch 143 = .ok (.ireturn, 1) := by decide +kernel
theorem dX12_notBehind_0 : decode cX12_notBehind 0 = .ok (.iconst 0, 1) := by decide +kernel
theorem dX12_notBehind_1 : decode cX12_notBehind 1 = .ok (.istore_n 3, 1) := by decide +kernel
theorem dX12_notBehind_2 : decode cX12_notBehind 2 = .ok (.iconst 0, 1) := by decide +kernel
theorem dX12_notBehind_3 : decode cX12_notBehind 3 = .ok (.istore 4, 2) := by decide +kernel
theorem dX12_notBehind_5 : decode cX12_notBehind 5 = .ok (.iload 4, 2) := by decide +kernel
theorem dX12_notBehind_7 : decode cX12_notBehind 7 = .ok (.bipush 6, 2) := by decide +kernel
theorem dX12_notBehind_9 : decode cX12_notBehind 9 = .ok (.if_icmp .ge 38, 3) := by decide +kernel
theorem dX12_notBehind_12 : decode cX12_notBehind 12 = .ok (.iload_n 3, 1) := by decide +kernel
theorem dX12_notBehind_13 : decode cX12_notBehind 13 = .ok (.aload_n 0, 1) := by decide +kernel
theorem dX12_notBehind_14 : decode cX12_notBehind 14 = .ok (.iload 4, 2) := by decide +kernel
theorem dX12_notBehind_16 : decode cX12_notBehind 16 = .ok (.iload_n 1, 1) := by decide +kernel
theorem dX12_notBehind_17 : decode cX12_notBehind 17 = .ok (.invokevirtual 93, 3) := by decide +kernel
theorem dX12_notBehind_20 : decode cX12_notBehind 20 = .ok (.ifCond .eq 18, 3) := by decide +kernel
theorem dX12_notBehind_23 : decode cX12_notBehind 23 = .ok (.aload_n 0, 1) := by decide +kernel
theorem dX12_notBehind_24 : decode cX12_notBehind 24 = .ok (.iload 4, 2) := by decide +kernel
theorem dX12_notBehind_26 : decode cX12_notBehind 26 = .ok (.iconst 2, 1) := by decide +kernel
theorem dX12_notBehind_27 : decode cX12_notBehind 27 = .ok (.invokevirtual 74, 3) := by decide +kernel
theorem dX12_notBehind_30 : decode cX12_notBehind 30 = .ok (.iload_n 2, 1) := by decide +kernel
theorem dX12_notBehind_31 : decode cX12_notBehind 31 = .ok (.if_icmp .gt 7, 3) := by decide +kernel
theorem dX12_notBehind_34 : decode cX12_notBehind 34 = .ok (.iconst 1, 1) := by decide +kernel
theorem dX12_notBehind_35 : decode cX12_notBehind 35 = .ok (.goto 4, 3) := by decide +kernel
theorem dX12_notBehind_38 : decode cX12_notBehind 38 = .ok (.iconst 0, 1) := by decide +kernel
theorem dX12_notBehind_39 : decode cX12_notBehind 39 = .ok (.iadd, 1) := by decide +kernel
theorem dX12_notBehind_40 : decode cX12_notBehind 40 = .ok (.istore_n 3, 1) := by decide +kernel
theorem dX12_notBehind_41 : decode cX12_notBehind 41 = .ok (.iinc 4 1, 3) := by decide +kernel
theorem dX12_notBehind_44 : decode cX12_notBehind 44 = .ok (.goto (-39), 3) := by decide +kernel
theorem dX12_notBehind_47 : decode cX12_notBehind 47 = .ok (.iload_n 3, 1) := by decide +kernel
theorem dX12_notBehind_48 : decode cX12_notBehind 48 = .ok (.ireturn, 1) := by decide +kernel
theorem dX12_entry_0 : decode cX12_entry 0 = .ok (.aload_n 0, 1) := by decide +kernel
theorem dX12_entry_1 : decode cX12_entry 1 = .ok (.iload_n 1, 1) := by decide +kernel
theorem dX12_entry_2 : decode cX12_entry 2 = .ok (.invokevirtual 134, 3) := by decide +kernel
theorem dX12_entry_5 : decode cX12_entry 5 = .ok (.ifCond .eq 27, 3) := by decide +kernel
theorem dX12_entry_8 : decode cX12_entry 8 = .ok (.iload_n 2, 1) := by decide +kernel
theorem dX12_entry_9 : decode cX12_entry 9 = .ok (.aload_n 0, 1) := by decide +kernel
theorem dX12_entry_10 : decode cX12_entry 10 = .ok (.iload_n 1, 1) := by decide +kernel
theorem dX12_entry_11 : decode cX12_entry 11 = .ok (.iconst 1, 1) := by decide +kernel
theorem dX12_entry_12 : decode cX12_entry 12 = .ok (.invokevirtual 70, 3) := by decide +kernel
theorem dX12_entry_15 : decode cX12_entry 15 = .ok (.aload_n 0, 1) := by decide +kernel
theorem dX12_entry_16 : decode cX12_entry 16 = .ok (.iload_n 1, 1) := by decide +kernel
theorem dX12_entry_17 : decode cX12_entry 17 = .ok (.invokevirtual 163, 3) := by decide +kernel
theorem dX12_entry_20 : decode cX12_entry 20 = .ok (.iconst 1, 1) := by decide +kernel
theorem dX12_entry_21 : decode cX12_entry 21 = .ok (.isub, 1) := by decide +kernel
theorem dX12_entry_22 : decode cX12_entry 22 = .ok (.invokestatic 66, 3) := by decide +kernel
theorem dX12_entry_25 : decode cX12_entry 25 = .ok (.ifCond .eq 7, 3) := by decide +kernel
theorem dX12_entry_28 : decode cX12_entry 28 = .ok (.iconst 1, 1) := by decide +kernel
theorem dX12_entry_29 : decode cX12_entry 29 = .ok (.goto 4, 3) := by decide +kernel
theorem dX12_entry_32 : decode cX12_entry 32 = .ok (.iconst 0, 1) := by decide +kernel
theorem dX12_entry_33 : decode cX12_entry 33 = .ok (.istore 4, 2) := by decide +kernel
theorem dX12_entry_35 : decode cX12_entry 35 = .ok (.aload_n 0, 1) := by decide +kernel
theorem dX12_entry_36 : decode cX12_entry 36 = .ok (.iload 4, 2) := by decide +kernel
theorem dX12_entry_38 : decode cX12_entry 38 = .ok (.ifCond .ne 7, 3) := by decide +kernel
theorem dX12_entry_41 : decode cX12_entry 41 = .ok (.iconst 1, 1) := by decide +kernel
theorem dX12_entry_42 : decode cX12_entry 42 = .ok (.goto 17, 3) := by decide +kernel
theorem dX12_entry_45 : decode cX12_entry 45 = .ok (.iload_n 3, 1) := by decide +kernel
theorem dX12_entry_46 : decode cX12_entry 46 = .ok (.iconst 0, 1) := by decide +kernel
theorem dX12_entry_47 : decode cX12_entry 47 = .ok (.iconst 4, 1) := by decide +kernel
theorem dX12_entry_48 : decode cX12_entry 48 = .ok (.invokestatic 66, 3) := by decide +kernel
theorem dX12_entry_51 : decode cX12_entry 51 = .ok (.ifCond .eq 7, 3) := by decide +kernel
theorem dX12_entry_54 : decode cX12_entry 54 = .ok (.iconst 0, 1) := by decide +kernel
theorem dX12_entry_55 : decode cX12_entry 55 = .ok (.goto 4, 3) := by decide +kernel
theorem dX12_entry_58 : decode cX12_entry 58 = .ok (.iconst 2, 1) := by decide +kernel
theorem dX12_entry_59 : decode cX12_entry 59 = .ok (.putfield 60, 3) := by decide +kernel
theorem dX12_entry_62 : decode cX12_entry 62 = .ok (.aload_n 0, 1) := by decide +kernel
theorem dX12_entry_63 : decode cX12_entry 63 = .ok (.getfield 60, 3) := by decide +kernel
theorem dX12_entry_66 : decode cX12_entry 66 = .ok (.ifCond .le 5, 3) := by decide +kernel
theorem dX12_entry_69 : decode cX12_entry 69 = .ok (.iconst 0, 1) := by decide +kernel
theorem dX12_entry_70 : decode cX12_entry 70 = .ok (.ireturn, 1) := by decide +kernel
theorem dX12_entry_71 : decode cX12_entry 71 = .ok (.iload_n 2, 1) := by decide +kernel
theorem dX12_entry_72 : decode cX12_entry 72 = .ok (.aload_n 0, 1) := by decide +kernel
theorem dX12_entry_73 : decode cX12_entry 73 = .ok (.iload_n 1, 1) := by decide +kernel
theorem dX12_entry_74 : decode cX12_entry 74 = .ok (.iconst 1, 1) := by decide +kernel
theorem dX12_entry_75 : decode cX12_entry 75 = .ok (.invokevirtual 70, 3) := by decide +kernel
theorem dX12_entry_78 : decode cX12_entry 78 = .ok (.isub, 1) := by decide +kernel
theorem dX12_entry_79 : decode cX12_entry 79 = .ok (.istore 5, 2) := by decide +kernel
theorem dX12_entry_81 : decode cX12_entry 81 = .ok (.iload_n 3, 1) := by decide +kernel
theorem dX12_entry_82 : decode cX12_entry 82 = .ok (.tableswitch 62 0 3 #[30, 38, 46, 54], 30) := by decide +kernel
theorem dX12_entry_112 : decode cX12_entry 112 = .ok (.aload_n 0, 1) := by decide +kernel
theorem dX12_entry_113 : decode cX12_entry 113 = .ok (.iload_n 1, 1) := by decide +kernel
theorem dX12_entry_114 : decode cX12_entry 114 = .ok (.iload 5, 2) := by decide +kernel
theorem dX12_entry_116 : decode cX12_entry 116 = .ok (.invokevirtual 106, 3) := by decide +kernel
theorem dX12_entry_119 : decode cX12_entry 119 = .ok (.ireturn, 1) := by decide +kernel
theorem dX12_entry_120 : decode cX12_entry 120 = .ok (.aload_n 0, 1) := by decide +kernel
theorem dX12_entry_121 : decode cX12_entry 121 = .ok (.iload_n 1, 1) := by decide +kernel
theorem dX12_entry_122 : decode cX12_entry 122 = .ok (.iload 5, 2) := by decide +kernel
theorem dX12_entry_124 : decode cX12_entry 124 = .ok (.invokevirtual 121, 3) := by decide +kernel
theorem dX12_entry_127 : decode cX12_entry 127 = .ok (.ireturn, 1) := by decide +kernel
theorem dX12_entry_128 : decode cX12_entry 128 = .ok (.aload_n 0, 1) := by decide +kernel
theorem dX12_entry_129 : decode cX12_entry 129 = .ok (.iload_n 1, 1) := by decide +kernel
theorem dX12_entry_130 : decode cX12_entry 130 = .ok (.iload 5, 2) := by decide +kernel
theorem dX12_entry_132 : decode cX12_entry 132 = .ok (.invokevirtual 118, 3) := by decide +kernel
theorem dX12_entry_135 : decode cX12_entry 135 = .ok (.ireturn, 1) := by decide +kernel
theorem dX12_entry_136 : decode cX12_entry 136 = .ok (.aload_n 0, 1) := by decide +kernel
theorem dX12_entry_137 : decode cX12_entry 137 = .ok (.iload_n 1, 1) := by decide +kernel
theorem dX12_entry_138 : decode cX12_entry 138 = .ok (.iload 5, 2) := by decide +kernel
theorem dX12_entry_140 : decode cX12_entry 140 = .ok (.invokevirtual 115, 3) := by decide +kernel
theorem dX12_entry_143 : decode cX12_entry 143 = .ok (.ireturn, 1) := by decide +kernel
theorem dX12_entry_144 : decode cX12_entry 144 = .ok (.aload_n 0, 1) := by decide +kernel
theorem dX12_entry_145 : decode cX12_entry 145 = .ok (.iload_n 1, 1) := by decide +kernel
theorem dX12_entry_146 : decode cX12_entry 146 = .ok (.iload_n 2, 1) := by decide +kernel
theorem dX12_entry_147 : decode cX12_entry 147 = .ok (.invokevirtual 169, 3) := by decide +kernel
theorem dX12_entry_150 : decode cX12_entry 150 = .ok (.ireturn, 1) := by decide +kernel
theorem dX12_unreadSize_0 : decode cX12_unreadSize 0 = .ok (.aload_n 0, 1) := by decide +kernel
theorem dX12_unreadSize_1 : decode cX12_unreadSize 1 = .ok (.iload_n 1, 1) := by decide +kernel
theorem dX12_unreadSize_2 : decode cX12_unreadSize 2 = .ok (.iconst 1, 1) := by decide +kernel
theorem dX12_unreadSize_3 : decode cX12_unreadSize 3 = .ok (.invokevirtual 74, 3) := by decide +kernel
theorem dX12_unreadSize_6 : decode cX12_unreadSize 6 = .ok (.istore_n 2, 1) := by decide +kernel
theorem dX12_unreadSize_7 : decode cX12_unreadSize 7 = .ok (.iconst 0, 1) := by decide +kernel
theorem dX12_unreadSize_8 : decode cX12_unreadSize 8 = .ok (.istore_n 3, 1) := by decide +kernel
theorem dX12_unreadSize_9 : decode cX12_unreadSize 9 = .ok (.aload_n 0, 1) := by decide +kernel
theorem dX12_unreadSize_10 : decode cX12_unreadSize 10 = .ok (.iload_n 1, 1) := by decide +kernel
theorem dX12_unreadSize_11 : decode cX12_unreadSize 11 = .ok (.iconst 2, 1) := by decide +kernel
theorem dX12_unreadSize_12 : decode cX12_unreadSize 12 = .ok (.invokevirtual 74, 3) := by decide +kernel
theorem dX12_unreadSize_15 : decode cX12_unreadSize 15 = .ok (.aload_n 0, 1) := by decide +kernel
theorem dX12_unreadSize_16 : decode cX12_unreadSize 16 = .ok (.iload_n 2, 1) := by decide +kernel
theorem dX12_unreadSize_17 : decode cX12_unreadSize 17 = .ok (.iconst 1, 1) := by decide +kernel
theorem dX12_unreadSize_18 : decode cX12_unreadSize 18 = .ok (.invokevirtual 70, 3) := by decide +kernel
theorem dX12_unreadSize_21 : decode cX12_unreadSize 21 = .ok (.isub, 1) := by decide +kernel
theorem dX12_unreadSize_22 : decode cX12_unreadSize 22 = .ok (.istore 4, 2) := by decide +kernel
theorem dX12_unreadSize_24 : decode cX12_unreadSize 24 = .ok (.iload 4, 2) := by decide +kernel
theorem dX12_unreadSize_26 : decode cX12_unreadSize 26 = .ok (.aload_n 0, 1) := by decide +kernel
theorem dX12_unreadSize_27 : decode cX12_unreadSize 27 = .ok (.iload_n 2, 1) := by decide +kernel
theorem dX12_unreadSize_28 : decode cX12_unreadSize 28 = .ok (.iconst 2, 1) := by decide +kernel
theorem dX12_unreadSize_29 : decode cX12_unreadSize 29 = .ok (.invokevirtual 70, 3) := by decide +kernel
theorem dX12_unreadSize_32 : decode cX12_unreadSize 32 = .ok (.if_icmp .ge 19, 3) := by decide +kernel
theorem dX12_unreadSize_35 : decode cX12_unreadSize 35 = .ok (.iload_n 3, 1) := by decide +kernel
theorem dX12_unreadSize_36 : decode cX12_unreadSize 36 = .ok (.aload_n 0, 1) := by decide +kernel
theorem dX12_unreadSize_37 : decode cX12_unreadSize 37 = .ok (.iload_n 2, 1) := by decide +kernel
theorem dX12_unreadSize_38 : decode cX12_unreadSize 38 = .ok (.iload 4, 2) := by decide +kernel
theorem dX12_unreadSize_40 : decode cX12_unreadSize 40 = .ok (.invokevirtual 118, 3) := by decide +kernel
theorem dX12_unreadSize_43 : decode cX12_unreadSize 43 = .ok (.iadd, 1) := by decide +kernel
theorem dX12_unreadSize_44 : decode cX12_unreadSize 44 = .ok (.istore_n 3, 1) := by decide +kernel
theorem dX12_unreadSize_45 : decode cX12_unreadSize 45 = .ok (.iinc 4 1, 3) := by decide +kernel
theorem dX12_unreadSize_48 : decode cX12_unreadSize 48 = .ok (.goto (-24), 3) := by decide +kernel
theorem dX12_unreadSize_51 : decode cX12_unreadSize 51 = .ok (.iload_n 3, 1) := by decide +kernel
theorem dX12_unreadSize_52 : decode cX12_unreadSize 52 = .ok (.ireturn, 1) := by decide +kernel
theorem dX12_reader_0 : decode cX12_reader 0 = .ok (.aload_n 0, 1) := by decide +kernel
theorem dX12_reader_1 : decode cX12_reader 1 = .ok (.aload_n 0, 1) := by decide +kernel
theorem dX12_reader_2 : decode cX12_reader 2 = .ok (.iload_n 1, 1) := by decide +kernel
theorem dX12_reader_3 : decode cX12_reader 3 = .ok (.invokevirtual 77, 3) := by decide +kernel
theorem dX12_reader_6 : decode cX12_reader 6 = .ok (.ifCond .ne 7, 3) := by decide +kernel
theorem dX12_reader_9 : decode cX12_reader 9 = .ok (.iconst 1, 1) := by decide +kernel
theorem dX12_reader_10 : decode cX12_reader 10 = .ok (.goto 18, 3) := by decide +kernel
theorem dX12_reader_13 : decode cX12_reader 13 = .ok (.iload_n 2, 1) := by decide +kernel
theorem dX12_reader_14 : decode cX12_reader 14 = .ok (.iconst 0, 1) := by decide +kernel
theorem dX12_reader_15 : decode cX12_reader 15 = .ok (.bipush 10, 2) := by decide +kernel
theorem dX12_reader_17 : decode cX12_reader 17 = .ok (.invokestatic 66, 3) := by decide +kernel
theorem dX12_reader_20 : decode cX12_reader 20 = .ok (.ifCond .eq 7, 3) := by decide +kernel
theorem dX12_reader_23 : decode cX12_reader 23 = .ok (.iconst 0, 1) := by decide +kernel
theorem dX12_reader_24 : decode cX12_reader 24 = .ok (.goto 4, 3) := by decide +kernel
theorem dX12_reader_27 : decode cX12_reader 27 = .ok (.iconst 2, 1) := by decide +kernel
theorem dX12_reader_28 : decode cX12_reader 28 = .ok (.putfield 60, 3) := by decide +kernel
theorem dX12_reader_31 : decode cX12_reader 31 = .ok (.aload_n 0, 1) := by decide +kernel
theorem dX12_reader_32 : decode cX12_reader 32 = .ok (.getfield 60, 3) := by decide +kernel
theorem dX12_reader_35 : decode cX12_reader 35 = .ok (.ifCond .le 7, 3) := by decide +kernel
theorem dX12_reader_38 : decode cX12_reader 38 = .ok (.iconst (-1), 1) := by decide +kernel
theorem dX12_reader_39 : decode cX12_reader 39 = .ok (.goto 4, 3) := by decide +kernel
theorem dX12_reader_42 : decode cX12_reader 42 = .ok (.iload_n 2, 1) := by decide +kernel
theorem dX12_reader_43 : decode cX12_reader 43 = .ok (.tableswitch 117 (-1) 10 #[61, 117, 117, 117, 117, 117, 117, 63, 77, 95, 101, 109], 61) := by decide +kernel
theorem dX12_reader_104 : decode cX12_reader 104 = .ok (.iconst 0, 1) := by decide +kernel
theorem dX12_reader_105 : decode cX12_reader 105 = .ok (.ireturn, 1) := by decide +kernel
theorem dX12_reader_106 : decode cX12_reader 106 = .ok (.aload_n 0, 1) := by decide +kernel
theorem dX12_reader_107 : decode cX12_reader 107 = .ok (.iload_n 1, 1) := by decide +kernel
theorem dX12_reader_108 : decode cX12_reader 108 = .ok (.invokevirtual 97, 3) := by decide +kernel
theorem dX12_reader_111 : decode cX12_reader 111 = .ok (.ifCond .eq 7, 3) := by decide +kernel
theorem dX12_reader_114 : decode cX12_reader 114 = .ok (.iconst 1, 1) := by decide +kernel
theorem dX12_reader_115 : decode cX12_reader 115 = .ok (.goto 4, 3) := by decide +kernel
theorem dX12_reader_118 : decode cX12_reader 118 = .ok (.iconst 0, 1) := by decide +kernel
theorem dX12_reader_119 : decode cX12_reader 119 = .ok (.ireturn, 1) := by decide +kernel
theorem dX12_reader_120 : decode cX12_reader 120 = .ok (.aload_n 0, 1) := by decide +kernel
theorem dX12_reader_121 : decode cX12_reader 121 = .ok (.aload_n 0, 1) := by decide +kernel
theorem dX12_reader_122 : decode cX12_reader 122 = .ok (.iload_n 1, 1) := by decide +kernel
theorem dX12_reader_123 : decode cX12_reader 123 = .ok (.iconst 1, 1) := by decide +kernel
theorem dX12_reader_124 : decode cX12_reader 124 = .ok (.invokevirtual 74, 3) := by decide +kernel
theorem dX12_reader_127 : decode cX12_reader 127 = .ok (.invokevirtual 163, 3) := by decide +kernel
theorem dX12_reader_130 : decode cX12_reader 130 = .ok (.aload_n 0, 1) := by decide +kernel
theorem dX12_reader_131 : decode cX12_reader 131 = .ok (.iload_n 1, 1) := by decide +kernel
theorem dX12_reader_132 : decode cX12_reader 132 = .ok (.iconst 2, 1) := by decide +kernel
theorem dX12_reader_133 : decode cX12_reader 133 = .ok (.invokevirtual 74, 3) := by decide +kernel
theorem dX12_reader_136 : decode cX12_reader 136 = .ok (.isub, 1) := by decide +kernel
theorem dX12_reader_137 : decode cX12_reader 137 = .ok (.ireturn, 1) := by decide +kernel
theorem dX12_reader_138 : decode cX12_reader 138 = .ok (.aload_n 0, 1) := by decide +kernel
theorem dX12_reader_139 : decode cX12_reader 139 = .ok (.iload_n 1, 1) := by decide +kernel
theorem dX12_reader_140 : decode cX12_reader 140 = .ok (.invokevirtual 172, 3) := by decide +kernel
theorem dX12_reader_143 : decode cX12_reader 143 = .ok (.ireturn, 1) := by decide +kernel
theorem dX12_reader_144 : decode cX12_reader 144 = .ok (.aload_n 0, 1) := by decide +kernel
theorem dX12_reader_145 : decode cX12_reader 145 = .ok (.iload_n 1, 1) := by decide +kernel
theorem dX12_reader_146 : decode cX12_reader 146 = .ok (.bipush 7, 2) := by decide +kernel
theorem dX12_reader_148 : decode cX12_reader 148 = .ok (.invokevirtual 74, 3) := by decide +kernel
theorem dX12_reader_151 : decode cX12_reader 151 = .ok (.ireturn, 1) := by decide +kernel
theorem dX12_reader_152 : decode cX12_reader 152 = .ok (.aload_n 0, 1) := by decide +kernel
theorem dX12_reader_153 : decode cX12_reader 153 = .ok (.iload_n 1, 1) := by decide +kernel
theorem dX12_reader_154 : decode cX12_reader 154 = .ok (.bipush 8, 2) := by decide +kernel
theorem dX12_reader_156 : decode cX12_reader 156 = .ok (.invokevirtual 74, 3) := by decide +kernel
theorem dX12_reader_159 : decode cX12_reader 159 = .ok (.ireturn, 1) := by decide +kernel
theorem dX12_reader_160 : decode cX12_reader 160 = .ok (.aload_n 0, 1) := by decide +kernel
theorem dX12_reader_161 : decode cX12_reader 161 = .ok (.iload_n 1, 1) := by decide +kernel
theorem dX12_reader_162 : decode cX12_reader 162 = .ok (.iconst 1, 1) := by decide +kernel
theorem dX12_reader_163 : decode cX12_reader 163 = .ok (.iload_n 2, 1) := by decide +kernel
theorem dX12_reader_164 : decode cX12_reader 164 = .ok (.iadd, 1) := by decide +kernel
theorem dX12_reader_165 : decode cX12_reader 165 = .ok (.invokevirtual 74, 3) := by decide +kernel
theorem dX12_reader_168 : decode cX12_reader 168 = .ok (.ireturn, 1) := by decide +kernel
theorem dX12_debt_0 : decode cX12_debt 0 = .ok (.aload_n 0, 1) := by decide +kernel
theorem dX12_debt_1 : decode cX12_debt 1 = .ok (.aload_n 0, 1) := by decide +kernel
theorem dX12_debt_2 : decode cX12_debt 2 = .ok (.iload_n 1, 1) := by decide +kernel
theorem dX12_debt_3 : decode cX12_debt 3 = .ok (.invokevirtual 77, 3) := by decide +kernel
theorem dX12_debt_6 : decode cX12_debt 6 = .ok (.ifCond .ne 7, 3) := by decide +kernel
theorem dX12_debt_9 : decode cX12_debt 9 = .ok (.iconst 1, 1) := by decide +kernel
theorem dX12_debt_10 : decode cX12_debt 10 = .ok (.goto 18, 3) := by decide +kernel
theorem dX12_debt_13 : decode cX12_debt 13 = .ok (.iload_n 2, 1) := by decide +kernel
theorem dX12_debt_14 : decode cX12_debt 14 = .ok (.iconst 0, 1) := by decide +kernel
theorem dX12_debt_15 : decode cX12_debt 15 = .ok (.bipush 6, 2) := by decide +kernel
theorem dX12_debt_17 : decode cX12_debt 17 = .ok (.invokestatic 66, 3) := by decide +kernel
theorem dX12_debt_20 : decode cX12_debt 20 = .ok (.ifCond .eq 7, 3) := by decide +kernel
theorem dX12_debt_23 : decode cX12_debt 23 = .ok (.iconst 0, 1) := by decide +kernel
theorem dX12_debt_24 : decode cX12_debt 24 = .ok (.goto 4, 3) := by decide +kernel
theorem dX12_debt_27 : decode cX12_debt 27 = .ok (.iconst 2, 1) := by decide +kernel
theorem dX12_debt_28 : decode cX12_debt 28 = .ok (.putfield 60, 3) := by decide +kernel
theorem dX12_debt_31 : decode cX12_debt 31 = .ok (.aload_n 0, 1) := by decide +kernel
theorem dX12_debt_32 : decode cX12_debt 32 = .ok (.getfield 60, 3) := by decide +kernel
theorem dX12_debt_35 : decode cX12_debt 35 = .ok (.ifCond .le 5, 3) := by decide +kernel
theorem dX12_debt_38 : decode cX12_debt 38 = .ok (.iconst 0, 1) := by decide +kernel
theorem dX12_debt_39 : decode cX12_debt 39 = .ok (.ireturn, 1) := by decide +kernel
theorem dX12_debt_40 : decode cX12_debt 40 = .ok (.aload_n 0, 1) := by decide +kernel
theorem dX12_debt_41 : decode cX12_debt 41 = .ok (.iload_n 1, 1) := by decide +kernel
theorem dX12_debt_42 : decode cX12_debt 42 = .ok (.bipush 9, 2) := by decide +kernel
theorem dX12_debt_44 : decode cX12_debt 44 = .ok (.invokevirtual 74, 3) := by decide +kernel
theorem dX12_debt_47 : decode cX12_debt 47 = .ok (.ifCond .ne 25, 3) := by decide +kernel
theorem dX12_debt_50 : decode cX12_debt 50 = .ok (.iload_n 2, 1) := by decide +kernel
theorem dX12_debt_51 : decode cX12_debt 51 = .ok (.iconst 3, 1) := by decide +kernel
theorem dX12_debt_52 : decode cX12_debt 52 = .ok (.if_icmp .ge 7, 3) := by decide +kernel
theorem dX12_debt_55 : decode cX12_debt 55 = .ok (.iconst 0, 1) := by decide +kernel
theorem dX12_debt_56 : decode cX12_debt 56 = .ok (.goto 15, 3) := by decide +kernel
theorem dX12_debt_59 : decode cX12_debt 59 = .ok (.iload_n 2, 1) := by decide +kernel
theorem dX12_debt_60 : decode cX12_debt 60 = .ok (.iconst 5, 1) := by decide +kernel
theorem dX12_debt_61 : decode cX12_debt 61 = .ok (.if_icmp .ge 9, 3) := by decide +kernel
theorem dX12_debt_64 : decode cX12_debt 64 = .ok (.sipush (-1000), 3) := by decide +kernel
theorem dX12_debt_67 : decode cX12_debt 67 = .ok (.goto 4, 3) := by decide +kernel
theorem dX12_debt_70 : decode cX12_debt 70 = .ok (.iconst (-1), 1) := by decide +kernel
theorem dX12_debt_71 : decode cX12_debt 71 = .ok (.ireturn, 1) := by decide +kernel
theorem dX12_debt_72 : decode cX12_debt 72 = .ok (.aload_n 0, 1) := by decide +kernel
theorem dX12_debt_73 : decode cX12_debt 73 = .ok (.iload_n 1, 1) := by decide +kernel
theorem dX12_debt_74 : decode cX12_debt 74 = .ok (.bipush 9, 2) := by decide +kernel
theorem dX12_debt_76 : decode cX12_debt 76 = .ok (.iload_n 2, 1) := by decide +kernel
theorem dX12_debt_77 : decode cX12_debt 77 = .ok (.iadd, 1) := by decide +kernel
theorem dX12_debt_78 : decode cX12_debt 78 = .ok (.invokevirtual 74, 3) := by decide +kernel
theorem dX12_debt_81 : decode cX12_debt 81 = .ok (.ireturn, 1) := by decide +kernel
theorem dX12_debtOf_0 : decode cX12_debtOf 0 = .ok (.aload_n 0, 1) := by decide +kernel
theorem dX12_debtOf_1 : decode cX12_debtOf 1 = .ok (.aload_n 0, 1) := by decide +kernel
theorem dX12_debtOf_2 : decode cX12_debtOf 2 = .ok (.iload_n 1, 1) := by decide +kernel
theorem dX12_debtOf_3 : decode cX12_debtOf 3 = .ok (.invokevirtual 77, 3) := by decide +kernel
theorem dX12_debtOf_6 : decode cX12_debtOf 6 = .ok (.ifCond .ne 7, 3) := by decide +kernel
theorem dX12_debtOf_9 : decode cX12_debtOf 9 = .ok (.iconst 1, 1) := by decide +kernel
theorem dX12_debtOf_10 : decode cX12_debtOf 10 = .ok (.goto 18, 3) := by decide +kernel
theorem dX12_debtOf_13 : decode cX12_debtOf 13 = .ok (.iload_n 2, 1) := by decide +kernel
theorem dX12_debtOf_14 : decode cX12_debtOf 14 = .ok (.iconst 0, 1) := by decide +kernel
theorem dX12_debtOf_15 : decode cX12_debtOf 15 = .ok (.bipush 9, 2) := by decide +kernel
theorem dX12_debtOf_17 : decode cX12_debtOf 17 = .ok (.invokestatic 66, 3) := by decide +kernel
theorem dX12_debtOf_20 : decode cX12_debtOf 20 = .ok (.ifCond .eq 7, 3) := by decide +kernel
theorem dX12_debtOf_23 : decode cX12_debtOf 23 = .ok (.iconst 0, 1) := by decide +kernel
theorem dX12_debtOf_24 : decode cX12_debtOf 24 = .ok (.goto 4, 3) := by decide +kernel
theorem dX12_debtOf_27 : decode cX12_debtOf 27 = .ok (.iconst 2, 1) := by decide +kernel
theorem dX12_debtOf_28 : decode cX12_debtOf 28 = .ok (.putfield 60, 3) := by decide +kernel
theorem dX12_debtOf_31 : decode cX12_debtOf 31 = .ok (.aload_n 0, 1) := by decide +kernel
theorem dX12_debtOf_32 : decode cX12_debtOf 32 = .ok (.getfield 60, 3) := by decide +kernel
theorem dX12_debtOf_35 : decode cX12_debtOf 35 = .ok (.ifCond .le 7, 3) := by decide +kernel
theorem dX12_debtOf_38 : decode cX12_debtOf 38 = .ok (.iconst 0, 1) := by decide +kernel
theorem dX12_debtOf_39 : decode cX12_debtOf 39 = .ok (.goto 28, 3) := by decide +kernel
theorem dX12_debtOf_42 : decode cX12_debtOf 42 = .ok (.aload_n 0, 1) := by decide +kernel
theorem dX12_debtOf_43 : decode cX12_debtOf 43 = .ok (.iload_n 1, 1) := by decide +kernel
theorem dX12_debtOf_44 : decode cX12_debtOf 44 = .ok (.bipush 9, 2) := by decide +kernel
theorem dX12_debtOf_46 : decode cX12_debtOf 46 = .ok (.invokevirtual 74, 3) := by decide +kernel
theorem dX12_debtOf_49 : decode cX12_debtOf 49 = .ok (.ifCond .ne 9, 3) := by decide +kernel
theorem dX12_debtOf_52 : decode cX12_debtOf 52 = .ok (.sipush (-1000), 3) := by decide +kernel
theorem dX12_debtOf_55 : decode cX12_debtOf 55 = .ok (.goto 12, 3) := by decide +kernel
theorem dX12_debtOf_58 : decode cX12_debtOf 58 = .ok (.aload_n 0, 1) := by decide +kernel
theorem dX12_debtOf_59 : decode cX12_debtOf 59 = .ok (.iload_n 1, 1) := by decide +kernel
theorem dX12_debtOf_60 : decode cX12_debtOf 60 = .ok (.bipush 16, 2) := by decide +kernel
theorem dX12_debtOf_62 : decode cX12_debtOf 62 = .ok (.iload_n 2, 1) := by decide +kernel
theorem dX12_debtOf_63 : decode cX12_debtOf 63 = .ok (.iadd, 1) := by decide +kernel
theorem dX12_debtOf_64 : decode cX12_debtOf 64 = .ok (.invokevirtual 74, 3) := by decide +kernel
theorem dX12_debtOf_67 : decode cX12_debtOf 67 = .ok (.ireturn, 1) := by decide +kernel
theorem dX12_item_0 : decode cX12_item 0 = .ok (.aload_n 0, 1) := by decide +kernel
theorem dX12_item_1 : decode cX12_item 1 = .ok (.iload_n 1, 1) := by decide +kernel
theorem dX12_item_2 : decode cX12_item 2 = .ok (.iconst 0, 1) := by decide +kernel
theorem dX12_item_3 : decode cX12_item 3 = .ok (.aload_n 0, 1) := by decide +kernel
theorem dX12_item_4 : decode cX12_item 4 = .ok (.getfield 160, 3) := by decide +kernel
theorem dX12_item_7 : decode cX12_item 7 = .ok (.iconst 1, 1) := by decide +kernel
theorem dX12_item_8 : decode cX12_item 8 = .ok (.isub, 1) := by decide +kernel
theorem dX12_item_9 : decode cX12_item 9 = .ok (.invokestatic 66, 3) := by decide +kernel
theorem dX12_item_12 : decode cX12_item 12 = .ok (.ifCond .ne 7, 3) := by decide +kernel
theorem dX12_item_15 : decode cX12_item 15 = .ok (.iconst 1, 1) := by decide +kernel
theorem dX12_item_16 : decode cX12_item 16 = .ok (.goto 18, 3) := by decide +kernel
theorem dX12_item_19 : decode cX12_item 19 = .ok (.iload_n 2, 1) := by decide +kernel
theorem dX12_item_20 : decode cX12_item 20 = .ok (.iconst 0, 1) := by decide +kernel
theorem dX12_item_21 : decode cX12_item 21 = .ok (.bipush 7, 2) := by decide +kernel
theorem dX12_item_23 : decode cX12_item 23 = .ok (.invokestatic 66, 3) := by decide +kernel
theorem dX12_item_26 : decode cX12_item 26 = .ok (.ifCond .eq 7, 3) := by decide +kernel
theorem dX12_item_29 : decode cX12_item 29 = .ok (.iconst 0, 1) := by decide +kernel
theorem dX12_item_30 : decode cX12_item 30 = .ok (.goto 4, 3) := by decide +kernel
theorem dX12_item_33 : decode cX12_item 33 = .ok (.iconst 2, 1) := by decide +kernel
theorem dX12_item_34 : decode cX12_item 34 = .ok (.putfield 60, 3) := by decide +kernel
theorem dX12_item_37 : decode cX12_item 37 = .ok (.aload_n 0, 1) := by decide +kernel
theorem dX12_item_38 : decode cX12_item 38 = .ok (.getfield 60, 3) := by decide +kernel
theorem dX12_item_41 : decode cX12_item 41 = .ok (.ifCond .le 7, 3) := by decide +kernel
theorem dX12_item_44 : decode cX12_item 44 = .ok (.iconst 0, 1) := by decide +kernel
theorem dX12_item_45 : decode cX12_item 45 = .ok (.goto 14, 3) := by decide +kernel
theorem dX12_item_48 : decode cX12_item 48 = .ok (.aload_n 0, 1) := by decide +kernel
theorem dX12_item_49 : decode cX12_item 49 = .ok (.getfield 36, 3) := by decide +kernel
theorem dX12_item_52 : decode cX12_item 52 = .ok (.bipush 8, 2) := by decide +kernel
theorem dX12_item_54 : decode cX12_item 54 = .ok (.iload_n 1, 1) := by decide +kernel
theorem dX12_item_55 : decode cX12_item 55 = .ok (.imul, 1) := by decide +kernel
theorem dX12_item_56 : decode cX12_item 56 = .ok (.iload_n 2, 1) := by decide +kernel
theorem dX12_item_57 : decode cX12_item 57 = .ok (.iadd, 1) := by decide +kernel
theorem dX12_item_58 : decode cX12_item 58 = .ok (.iaload, 1) := by decide +kernel
theorem dX12_item_59 : decode cX12_item 59 = .ok (.ireturn, 1) := by decide +kernel
theorem dX12_account_0 : decode cX12_account 0 = .ok (.aload_n 0, 1) := by decide +kernel
theorem dX12_account_1 : decode cX12_account 1 = .ok (.iload_n 1, 1) := by decide +kernel
theorem dX12_account_2 : decode cX12_account 2 = .ok (.iconst 0, 1) := by decide +kernel
theorem dX12_account_3 : decode cX12_account 3 = .ok (.bipush 10, 2) := by decide +kernel
theorem dX12_account_5 : decode cX12_account 5 = .ok (.invokestatic 66, 3) := by decide +kernel
theorem dX12_account_8 : decode cX12_account 8 = .ok (.ifCond .eq 7, 3) := by decide +kernel
theorem dX12_account_11 : decode cX12_account 11 = .ok (.iconst 0, 1) := by decide +kernel
theorem dX12_account_12 : decode cX12_account 12 = .ok (.goto 4, 3) := by decide +kernel
theorem dX12_account_15 : decode cX12_account 15 = .ok (.iconst 1, 1) := by decide +kernel
theorem dX12_account_16 : decode cX12_account 16 = .ok (.putfield 60, 3) := by decide +kernel
theorem dX12_account_19 : decode cX12_account 19 = .ok (.aload_n 0, 1) := by decide +kernel
theorem dX12_account_20 : decode cX12_account 20 = .ok (.getfield 60, 3) := by decide +kernel
theorem dX12_account_23 : decode cX12_account 23 = .ok (.ifCond .le 7, 3) := by decide +kernel
theorem dX12_account_26 : decode cX12_account 26 = .ok (.iconst 0, 1) := by decide +kernel
theorem dX12_account_27 : decode cX12_account 27 = .ok (.goto 9, 3) := by decide +kernel
theorem dX12_account_30 : decode cX12_account 30 = .ok (.aload_n 0, 1) := by decide +kernel
theorem dX12_account_31 : decode cX12_account 31 = .ok (.getfield 30, 3) := by decide +kernel
theorem dX12_account_34 : decode cX12_account 34 = .ok (.iload_n 1, 1) := by decide +kernel
theorem dX12_account_35 : decode cX12_account 35 = .ok (.iaload, 1) := by decide +kernel
theorem dX12_account_36 : decode cX12_account 36 = .ok (.ireturn, 1) := by decide +kernel
theorem dX12_keeps_0 : decode cX12_keeps 0 = .ok (.aload_n 0, 1) := by decide +kernel
theorem dX12_keeps_1 : decode cX12_keeps 1 = .ok (.getfield 157, 3) := by decide +kernel
theorem dX12_keeps_4 : decode cX12_keeps 4 = .ok (.bipush 8, 2) := by decide +kernel
theorem dX12_keeps_6 : decode cX12_keeps 6 = .ok (.if_icmp .ne 43, 3) := by decide +kernel
theorem dX12_keeps_9 : decode cX12_keeps 9 = .ok (.iconst 0, 1) := by decide +kernel
theorem dX12_keeps_10 : decode cX12_keeps 10 = .ok (.istore_n 1, 1) := by decide +kernel
theorem dX12_keeps_11 : decode cX12_keeps 11 = .ok (.iload_n 1, 1) := by decide +kernel
theorem dX12_keeps_12 : decode cX12_keeps 12 = .ok (.ldc 175, 2) := by decide +kernel
theorem dX12_keeps_14 : decode cX12_keeps 14 = .ok (.if_icmp .ge 25, 3) := by decide +kernel
theorem dX12_keeps_17 : decode cX12_keeps 17 = .ok (.aload_n 0, 1) := by decide +kernel
theorem dX12_keeps_18 : decode cX12_keeps 18 = .ok (.getfield 20, 3) := by decide +kernel
theorem dX12_keeps_21 : decode cX12_keeps 21 = .ok (.iload_n 1, 1) := by decide +kernel
theorem dX12_keeps_22 : decode cX12_keeps 22 = .ok (.aload_n 0, 1) := by decide +kernel
theorem dX12_keeps_23 : decode cX12_keeps 23 = .ok (.getfield 20, 3) := by decide +kernel
theorem dX12_keeps_26 : decode cX12_keeps 26 = .ok (.iload_n 1, 1) := by decide +kernel
theorem dX12_keeps_27 : decode cX12_keeps 27 = .ok (.sipush 14622, 3) := by decide +kernel
theorem dX12_keeps_30 : decode cX12_keeps 30 = .ok (.iadd, 1) := by decide +kernel
theorem dX12_keeps_31 : decode cX12_keeps 31 = .ok (.iaload, 1) := by decide +kernel
theorem dX12_keeps_32 : decode cX12_keeps 32 = .ok (.iastore, 1) := by decide +kernel
theorem dX12_keeps_33 : decode cX12_keeps 33 = .ok (.iinc 1 1, 3) := by decide +kernel
theorem dX12_keeps_36 : decode cX12_keeps 36 = .ok (.goto (-25), 3) := by decide +kernel
theorem dX12_keeps_39 : decode cX12_keeps 39 = .ok (.aload_n 0, 1) := by decide +kernel
theorem dX12_keeps_40 : decode cX12_keeps 40 = .ok (.dup, 1) := by decide +kernel
theorem dX12_keeps_41 : decode cX12_keeps 41 = .ok (.getfield 157, 3) := by decide +kernel
theorem dX12_keeps_44 : decode cX12_keeps 44 = .ok (.iconst 1, 1) := by decide +kernel
theorem dX12_keeps_45 : decode cX12_keeps 45 = .ok (.isub, 1) := by decide +kernel
theorem dX12_keeps_46 : decode cX12_keeps 46 = .ok (.putfield 157, 3) := by decide +kernel
theorem dX12_keeps_49 : decode cX12_keeps 49 = .ok (.aload_n 0, 1) := by decide +kernel
theorem dX12_keeps_50 : decode cX12_keeps 50 = .ok (.getfield 13, 3) := by decide +kernel
theorem dX12_keeps_53 : decode cX12_keeps 53 = .ok (.iconst 0, 1) := by decide +kernel
theorem dX12_keeps_54 : decode cX12_keeps 54 = .ok (.aload_n 0, 1) := by decide +kernel
theorem dX12_keeps_55 : decode cX12_keeps 55 = .ok (.getfield 20, 3) := by decide +kernel
theorem dX12_keeps_58 : decode cX12_keeps 58 = .ok (.sipush 14622, 3) := by decide +kernel
theorem dX12_keeps_61 : decode cX12_keeps 61 = .ok (.aload_n 0, 1) := by decide +kernel
theorem dX12_keeps_62 : decode cX12_keeps 62 = .ok (.getfield 157, 3) := by decide +kernel
theorem dX12_keeps_65 : decode cX12_keeps 65 = .ok (.imul, 1) := by decide +kernel
theorem dX12_keeps_66 : decode cX12_keeps 66 = .ok (.invokestatic 176, 3) := by decide +kernel
theorem dX12_keeps_69 : decode cX12_keeps 69 = .ok (.aload_n 0, 1) := by decide +kernel
theorem dX12_keeps_70 : decode cX12_keeps 70 = .ok (.dup, 1) := by decide +kernel
theorem dX12_keeps_71 : decode cX12_keeps 71 = .ok (.getfield 157, 3) := by decide +kernel
theorem dX12_keeps_74 : decode cX12_keeps 74 = .ok (.iconst 1, 1) := by decide +kernel
theorem dX12_keeps_75 : decode cX12_keeps 75 = .ok (.iadd, 1) := by decide +kernel
theorem dX12_keeps_76 : decode cX12_keeps 76 = .ok (.putfield 157, 3) := by decide +kernel
theorem dX12_keeps_79 : decode cX12_keeps 79 = .ok (.aload_n 0, 1) := by decide +kernel
theorem dX12_keeps_80 : decode cX12_keeps 80 = .ok (.getfield 30, 3) := by decide +kernel
theorem dX12_keeps_83 : decode cX12_keeps 83 = .ok (.iconst 0, 1) := by decide +kernel
theorem dX12_keeps_84 : decode cX12_keeps 84 = .ok (.dup2, 1) := by decide +kernel
theorem dX12_keeps_85 : decode cX12_keeps 85 = .ok (.iaload, 1) := by decide +kernel
theorem dX12_keeps_86 : decode cX12_keeps 86 = .ok (.iconst 1, 1) := by decide +kernel
theorem dX12_keeps_87 : decode cX12_keeps 87 = .ok (.iadd, 1) := by decide +kernel
theorem dX12_keeps_88 : decode cX12_keeps 88 = .ok (.iastore, 1) := by decide +kernel
theorem dX12_keeps_89 : decode cX12_keeps 89 = .ok (.return_, 1) := by decide +kernel
theorem dX12_refuses_0 : decode cX12_refuses 0 = .ok (.aload_n 0, 1) := by decide +kernel
theorem dX12_refuses_1 : decode cX12_refuses 1 = .ok (.getfield 30, 3) := by decide +kernel
theorem dX12_refuses_4 : decode cX12_refuses 4 = .ok (.iload_n 1, 1) := by decide +kernel
theorem dX12_refuses_5 : decode cX12_refuses 5 = .ok (.dup2, 1) := by decide +kernel
theorem dX12_refuses_6 : decode cX12_refuses 6 = .ok (.iaload, 1) := by decide +kernel
theorem dX12_refuses_7 : decode cX12_refuses 7 = .ok (.iconst 1, 1) := by decide +kernel
theorem dX12_refuses_8 : decode cX12_refuses 8 = .ok (.iadd, 1) := by decide +kernel
theorem dX12_refuses_9 : decode cX12_refuses 9 = .ok (.iastore, 1) := by decide +kernel
theorem dX12_refuses_10 : decode cX12_refuses 10 = .ok (.bipush (-10), 2) := by decide +kernel
theorem dX12_refuses_12 : decode cX12_refuses 12 = .ok (.iload_n 1, 1) := by decide +kernel
theorem dX12_refuses_13 : decode cX12_refuses 13 = .ok (.isub, 1) := by decide +kernel
theorem dX12_refuses_14 : decode cX12_refuses 14 = .ok (.ireturn, 1) := by decide +kernel
theorem dX12_appends_0 : decode cX12_appends 0 = .ok (.aload_n 0, 1) := by decide +kernel
theorem dX12_appends_1 : decode cX12_appends 1 = .ok (.invokevirtual 180, 3) := by decide +kernel
theorem dX12_appends_4 : decode cX12_appends 4 = .ok (.aload_n 0, 1) := by decide +kernel
theorem dX12_appends_5 : decode cX12_appends 5 = .ok (.iload_n 1, 1) := by decide +kernel
theorem dX12_appends_6 : decode cX12_appends 6 = .ok (.invokevirtual 163, 3) := by decide +kernel
theorem dX12_appends_9 : decode cX12_appends 9 = .ok (.istore 5, 2) := by decide +kernel
theorem dX12_appends_11 : decode cX12_appends 11 = .ok (.aload_n 0, 1) := by decide +kernel
theorem dX12_appends_12 : decode cX12_appends 12 = .ok (.iload_n 1, 1) := by decide +kernel
theorem dX12_appends_13 : decode cX12_appends 13 = .ok (.aload_n 0, 1) := by decide +kernel
theorem dX12_appends_14 : decode cX12_appends 14 = .ok (.getfield 13, 3) := by decide +kernel
theorem dX12_appends_17 : decode cX12_appends 17 = .ok (.iconst 0, 1) := by decide +kernel
theorem dX12_appends_18 : decode cX12_appends 18 = .ok (.iaload, 1) := by decide +kernel
theorem dX12_appends_19 : decode cX12_appends 19 = .ok (.iload_n 2, 1) := by decide +kernel
theorem dX12_appends_20 : decode cX12_appends 20 = .ok (.iload_n 3, 1) := by decide +kernel
theorem dX12_appends_21 : decode cX12_appends 21 = .ok (.iload 4, 2) := by decide +kernel
theorem dX12_appends_23 : decode cX12_appends 23 = .ok (.invokestatic 183, 3) := by decide +kernel
theorem dX12_appends_26 : decode cX12_appends 26 = .ok (.invokevirtual 187, 3) := by decide +kernel
theorem dX12_appends_29 : decode cX12_appends 29 = .ok (.aload_n 0, 1) := by decide +kernel
theorem dX12_appends_30 : decode cX12_appends 30 = .ok (.getfield 13, 3) := by decide +kernel
theorem dX12_appends_33 : decode cX12_appends 33 = .ok (.iconst 1, 1) := by decide +kernel
theorem dX12_appends_34 : decode cX12_appends 34 = .ok (.dup2, 1) := by decide +kernel
theorem dX12_appends_35 : decode cX12_appends 35 = .ok (.iaload, 1) := by decide +kernel
theorem dX12_appends_36 : decode cX12_appends 36 = .ok (.iconst 1, 1) := by decide +kernel
theorem dX12_appends_37 : decode cX12_appends 37 = .ok (.iadd, 1) := by decide +kernel
theorem dX12_appends_38 : decode cX12_appends 38 = .ok (.iastore, 1) := by decide +kernel
theorem dX12_appends_39 : decode cX12_appends 39 = .ok (.aload_n 0, 1) := by decide +kernel
theorem dX12_appends_40 : decode cX12_appends 40 = .ok (.iload_n 1, 1) := by decide +kernel
theorem dX12_appends_41 : decode cX12_appends 41 = .ok (.invokevirtual 137, 3) := by decide +kernel
theorem dX12_appends_44 : decode cX12_appends 44 = .ok (.iload 5, 2) := by decide +kernel
theorem dX12_appends_46 : decode cX12_appends 46 = .ok (.ireturn, 1) := by decide +kernel
theorem dX12_isEntry_0 : decode cX12_isEntry 0 = .ok (.iload_n 0, 1) := by decide +kernel
theorem dX12_isEntry_1 : decode cX12_isEntry 1 = .ok (.iconst 0, 1) := by decide +kernel
theorem dX12_isEntry_2 : decode cX12_isEntry 2 = .ok (.bipush 9, 2) := by decide +kernel
theorem dX12_isEntry_4 : decode cX12_isEntry 4 = .ok (.invokestatic 66, 3) := by decide +kernel
theorem dX12_isEntry_7 : decode cX12_isEntry 7 = .ok (.ifCond .eq 28, 3) := by decide +kernel
theorem dX12_isEntry_10 : decode cX12_isEntry 10 = .ok (.iload_n 1, 1) := by decide +kernel
theorem dX12_isEntry_11 : decode cX12_isEntry 11 = .ok (.iconst 1, 1) := by decide +kernel
theorem dX12_isEntry_12 : decode cX12_isEntry 12 = .ok (.bipush 9, 2) := by decide +kernel
theorem dX12_isEntry_14 : decode cX12_isEntry 14 = .ok (.invokestatic 66, 3) := by decide +kernel
theorem dX12_isEntry_17 : decode cX12_isEntry 17 = .ok (.ifCond .eq 18, 3) := by decide +kernel
theorem dX12_isEntry_20 : decode cX12_isEntry 20 = .ok (.iload_n 2, 1) := by decide +kernel
theorem dX12_isEntry_21 : decode cX12_isEntry 21 = .ok (.bipush (-99), 2) := by decide +kernel
theorem dX12_isEntry_23 : decode cX12_isEntry 23 = .ok (.bipush 99, 2) := by decide +kernel
theorem dX12_isEntry_25 : decode cX12_isEntry 25 = .ok (.invokestatic 66, 3) := by decide +kernel
theorem dX12_isEntry_28 : decode cX12_isEntry 28 = .ok (.ifCond .eq 7, 3) := by decide +kernel
theorem dX12_isEntry_31 : decode cX12_isEntry 31 = .ok (.iconst 1, 1) := by decide +kernel
theorem dX12_isEntry_32 : decode cX12_isEntry 32 = .ok (.goto 4, 3) := by decide +kernel
theorem dX12_isEntry_35 : decode cX12_isEntry 35 = .ok (.iconst 0, 1) := by decide +kernel
theorem dX12_isEntry_36 : decode cX12_isEntry 36 = .ok (.ireturn, 1) := by decide +kernel
theorem dX12_append_0 : decode cX12_append 0 = .ok (.aload_n 0, 1) := by decide +kernel
theorem dX12_append_1 : decode cX12_append 1 = .ok (.aload_n 0, 1) := by decide +kernel
theorem dX12_append_2 : decode cX12_append 2 = .ok (.iload_n 1, 1) := by decide +kernel
theorem dX12_append_3 : decode cX12_append 3 = .ok (.invokevirtual 134, 3) := by decide +kernel
theorem dX12_append_6 : decode cX12_append 6 = .ok (.ifCond .ne 7, 3) := by decide +kernel
theorem dX12_append_9 : decode cX12_append 9 = .ok (.iconst 1, 1) := by decide +kernel
theorem dX12_append_10 : decode cX12_append 10 = .ok (.goto 18, 3) := by decide +kernel
theorem dX12_append_13 : decode cX12_append 13 = .ok (.iload_n 2, 1) := by decide +kernel
theorem dX12_append_14 : decode cX12_append 14 = .ok (.iload_n 3, 1) := by decide +kernel
theorem dX12_append_15 : decode cX12_append 15 = .ok (.iload 4, 2) := by decide +kernel
theorem dX12_append_17 : decode cX12_append 17 = .ok (.invokestatic 191, 3) := by decide +kernel
theorem dX12_append_20 : decode cX12_append 20 = .ok (.ifCond .eq 7, 3) := by decide +kernel
theorem dX12_append_23 : decode cX12_append 23 = .ok (.iconst 0, 1) := by decide +kernel
theorem dX12_append_24 : decode cX12_append 24 = .ok (.goto 4, 3) := by decide +kernel
theorem dX12_append_27 : decode cX12_append 27 = .ok (.iconst 2, 1) := by decide +kernel
theorem dX12_append_28 : decode cX12_append 28 = .ok (.putfield 60, 3) := by decide +kernel
theorem dX12_append_31 : decode cX12_append 31 = .ok (.aload_n 0, 1) := by decide +kernel
theorem dX12_append_32 : decode cX12_append 32 = .ok (.getfield 60, 3) := by decide +kernel
theorem dX12_append_35 : decode cX12_append 35 = .ok (.ifCond .le 7, 3) := by decide +kernel
theorem dX12_append_38 : decode cX12_append 38 = .ok (.iconst 0, 1) := by decide +kernel
theorem dX12_append_39 : decode cX12_append 39 = .ok (.goto 12, 3) := by decide +kernel
theorem dX12_append_42 : decode cX12_append 42 = .ok (.aload_n 0, 1) := by decide +kernel
theorem dX12_append_43 : decode cX12_append 43 = .ok (.iload_n 1, 1) := by decide +kernel
theorem dX12_append_44 : decode cX12_append 44 = .ok (.iload_n 2, 1) := by decide +kernel
theorem dX12_append_45 : decode cX12_append 45 = .ok (.iload_n 3, 1) := by decide +kernel
theorem dX12_append_46 : decode cX12_append 46 = .ok (.iload 4, 2) := by decide +kernel
theorem dX12_append_48 : decode cX12_append 48 = .ok (.invokevirtual 194, 3) := by decide +kernel
theorem dX12_append_51 : decode cX12_append 51 = .ok (.ireturn, 1) := by decide +kernel
theorem dX12_joins_0 : decode cX12_joins 0 = .ok (.aload_n 0, 1) := by decide +kernel
theorem dX12_joins_1 : decode cX12_joins 1 = .ok (.invokevirtual 151, 3) := by decide +kernel
theorem dX12_joins_4 : decode cX12_joins 4 = .ok (.bipush 6, 2) := by decide +kernel
theorem dX12_joins_6 : decode cX12_joins 6 = .ok (.if_icmp .ne 9, 3) := by decide +kernel
theorem dX12_joins_9 : decode cX12_joins 9 = .ok (.aload_n 0, 1) := by decide +kernel
theorem dX12_joins_10 : decode cX12_joins 10 = .ok (.iconst 1, 1) := by decide +kernel
theorem dX12_joins_11 : decode cX12_joins 11 = .ok (.invokevirtual 198, 3) := by decide +kernel
theorem dX12_joins_14 : decode cX12_joins 14 = .ok (.ireturn, 1) := by decide +kernel
theorem dX12_joins_15 : decode cX12_joins 15 = .ok (.aload_n 0, 1) := by decide +kernel
theorem dX12_joins_16 : decode cX12_joins 16 = .ok (.invokevirtual 180, 3) := by decide +kernel
theorem dX12_joins_19 : decode cX12_joins 19 = .ok (.iconst 0, 1) := by decide +kernel
theorem dX12_joins_20 : decode cX12_joins 20 = .ok (.istore_n 3, 1) := by decide +kernel
theorem dX12_joins_21 : decode cX12_joins 21 = .ok (.aload_n 0, 1) := by decide +kernel
theorem dX12_joins_22 : decode cX12_joins 22 = .ok (.iload_n 3, 1) := by decide +kernel
theorem dX12_joins_23 : decode cX12_joins 23 = .ok (.invokevirtual 77, 3) := by decide +kernel
theorem dX12_joins_26 : decode cX12_joins 26 = .ok (.ifCond .eq 9, 3) := by decide +kernel
theorem dX12_joins_29 : decode cX12_joins 29 = .ok (.iinc 3 1, 3) := by decide +kernel
theorem dX12_joins_32 : decode cX12_joins 32 = .ok (.goto (-11), 3) := by decide +kernel
theorem dX12_joins_35 : decode cX12_joins 35 = .ok (.iload_n 3, 1) := by decide +kernel
theorem dX12_joins_36 : decode cX12_joins 36 = .ok (.invokestatic 63, 3) := by decide +kernel
theorem dX12_joins_39 : decode cX12_joins 39 = .ok (.istore 4, 2) := by decide +kernel
theorem dX12_joins_41 : decode cX12_joins 41 = .ok (.iconst 0, 1) := by decide +kernel
theorem dX12_joins_42 : decode cX12_joins 42 = .ok (.istore 5, 2) := by decide +kernel
theorem dX12_joins_44 : decode cX12_joins 44 = .ok (.iload 5, 2) := by decide +kernel
theorem dX12_joins_46 : decode cX12_joins 46 = .ok (.bipush 26, 2) := by decide +kernel
theorem dX12_joins_48 : decode cX12_joins 48 = .ok (.if_icmp .ge 20, 3) := by decide +kernel
theorem dX12_joins_51 : decode cX12_joins 51 = .ok (.aload_n 0, 1) := by decide +kernel
theorem dX12_joins_52 : decode cX12_joins 52 = .ok (.getfield 13, 3) := by decide +kernel
theorem dX12_joins_55 : decode cX12_joins 55 = .ok (.iload 4, 2) := by decide +kernel
theorem dX12_joins_57 : decode cX12_joins 57 = .ok (.iload 5, 2) := by decide +kernel
theorem dX12_joins_59 : decode cX12_joins 59 = .ok (.iadd, 1) := by decide +kernel
theorem dX12_joins_60 : decode cX12_joins 60 = .ok (.iconst 0, 1) := by decide +kernel
theorem dX12_joins_61 : decode cX12_joins 61 = .ok (.iastore, 1) := by decide +kernel
theorem dX12_joins_62 : decode cX12_joins 62 = .ok (.iinc 5 1, 3) := by decide +kernel
theorem dX12_joins_65 : decode cX12_joins 65 = .ok (.goto (-21), 3) := by decide +kernel
theorem dX12_joins_68 : decode cX12_joins 68 = .ok (.aload_n 0, 1) := by decide +kernel
theorem dX12_joins_69 : decode cX12_joins 69 = .ok (.getfield 13, 3) := by decide +kernel
theorem dX12_joins_72 : decode cX12_joins 72 = .ok (.iload 4, 2) := by decide +kernel
theorem dX12_joins_74 : decode cX12_joins 74 = .ok (.iconst 0, 1) := by decide +kernel
theorem dX12_joins_75 : decode cX12_joins 75 = .ok (.iadd, 1) := by decide +kernel
theorem dX12_joins_76 : decode cX12_joins 76 = .ok (.iconst 1, 1) := by decide +kernel
theorem dX12_joins_77 : decode cX12_joins 77 = .ok (.iastore, 1) := by decide +kernel
theorem dX12_joins_78 : decode cX12_joins 78 = .ok (.aload_n 0, 1) := by decide +kernel
theorem dX12_joins_79 : decode cX12_joins 79 = .ok (.getfield 13, 3) := by decide +kernel
theorem dX12_joins_82 : decode cX12_joins 82 = .ok (.iload 4, 2) := by decide +kernel
theorem dX12_joins_84 : decode cX12_joins 84 = .ok (.iconst 1, 1) := by decide +kernel
theorem dX12_joins_85 : decode cX12_joins 85 = .ok (.iadd, 1) := by decide +kernel
theorem dX12_joins_86 : decode cX12_joins 86 = .ok (.iload_n 1, 1) := by decide +kernel
theorem dX12_joins_87 : decode cX12_joins 87 = .ok (.iastore, 1) := by decide +kernel
theorem dX12_joins_88 : decode cX12_joins 88 = .ok (.aload_n 0, 1) := by decide +kernel
theorem dX12_joins_89 : decode cX12_joins 89 = .ok (.getfield 13, 3) := by decide +kernel
theorem dX12_joins_92 : decode cX12_joins 92 = .ok (.iload 4, 2) := by decide +kernel
theorem dX12_joins_94 : decode cX12_joins 94 = .ok (.iconst 2, 1) := by decide +kernel
theorem dX12_joins_95 : decode cX12_joins 95 = .ok (.iadd, 1) := by decide +kernel
theorem dX12_joins_96 : decode cX12_joins 96 = .ok (.iload_n 2, 1) := by decide +kernel
theorem dX12_joins_97 : decode cX12_joins 97 = .ok (.ifCond .eq 11, 3) := by decide +kernel
theorem dX12_joins_100 : decode cX12_joins 100 = .ok (.aload_n 0, 1) := by decide +kernel
theorem dX12_joins_101 : decode cX12_joins 101 = .ok (.iload_n 1, 1) := by decide +kernel
theorem dX12_joins_102 : decode cX12_joins 102 = .ok (.invokevirtual 163, 3) := by decide +kernel
theorem dX12_joins_105 : decode cX12_joins 105 = .ok (.goto 9, 3) := by decide +kernel
theorem dX12_joins_108 : decode cX12_joins 108 = .ok (.aload_n 0, 1) := by decide +kernel
theorem dX12_joins_109 : decode cX12_joins 109 = .ok (.iload_n 1, 1) := by decide +kernel
theorem dX12_joins_110 : decode cX12_joins 110 = .ok (.iconst 1, 1) := by decide +kernel
theorem dX12_joins_111 : decode cX12_joins 111 = .ok (.invokevirtual 70, 3) := by decide +kernel
theorem dX12_joins_114 : decode cX12_joins 114 = .ok (.iastore, 1) := by decide +kernel
theorem dX12_joins_115 : decode cX12_joins 115 = .ok (.aload_n 0, 1) := by decide +kernel
theorem dX12_joins_116 : decode cX12_joins 116 = .ok (.getfield 13, 3) := by decide +kernel
theorem dX12_joins_119 : decode cX12_joins 119 = .ok (.iload 4, 2) := by decide +kernel
theorem dX12_joins_121 : decode cX12_joins 121 = .ok (.iconst 3, 1) := by decide +kernel
theorem dX12_joins_122 : decode cX12_joins 122 = .ok (.iadd, 1) := by decide +kernel
theorem dX12_joins_123 : decode cX12_joins 123 = .ok (.aload_n 0, 1) := by decide +kernel
theorem dX12_joins_124 : decode cX12_joins 124 = .ok (.getfield 13, 3) := by decide +kernel
theorem dX12_joins_127 : decode cX12_joins 127 = .ok (.iconst 0, 1) := by decide +kernel
theorem dX12_joins_128 : decode cX12_joins 128 = .ok (.iaload, 1) := by decide +kernel
theorem dX12_joins_129 : decode cX12_joins 129 = .ok (.iastore, 1) := by decide +kernel
theorem dX12_joins_130 : decode cX12_joins 130 = .ok (.aload_n 0, 1) := by decide +kernel
theorem dX12_joins_131 : decode cX12_joins 131 = .ok (.getfield 13, 3) := by decide +kernel
theorem dX12_joins_134 : decode cX12_joins 134 = .ok (.iload 4, 2) := by decide +kernel
theorem dX12_joins_136 : decode cX12_joins 136 = .ok (.iconst 4, 1) := by decide +kernel
theorem dX12_joins_137 : decode cX12_joins 137 = .ok (.iadd, 1) := by decide +kernel
theorem dX12_joins_138 : decode cX12_joins 138 = .ok (.iconst (-1), 1) := by decide +kernel
theorem dX12_joins_139 : decode cX12_joins 139 = .ok (.iastore, 1) := by decide +kernel
theorem dX12_joins_140 : decode cX12_joins 140 = .ok (.iload_n 3, 1) := by decide +kernel
theorem dX12_joins_141 : decode cX12_joins 141 = .ok (.ireturn, 1) := by decide +kernel
theorem dX12_join_0 : decode cX12_join 0 = .ok (.aload_n 0, 1) := by decide +kernel
theorem dX12_join_1 : decode cX12_join 1 = .ok (.aload_n 0, 1) := by decide +kernel
theorem dX12_join_2 : decode cX12_join 2 = .ok (.iload_n 1, 1) := by decide +kernel
theorem dX12_join_3 : decode cX12_join 3 = .ok (.invokevirtual 134, 3) := by decide +kernel
theorem dX12_join_6 : decode cX12_join 6 = .ok (.ifCond .eq 7, 3) := by decide +kernel
theorem dX12_join_9 : decode cX12_join 9 = .ok (.iconst 0, 1) := by decide +kernel
theorem dX12_join_10 : decode cX12_join 10 = .ok (.goto 4, 3) := by decide +kernel
theorem dX12_join_13 : decode cX12_join 13 = .ok (.iconst 1, 1) := by decide +kernel
theorem dX12_join_14 : decode cX12_join 14 = .ok (.putfield 60, 3) := by decide +kernel
theorem dX12_join_17 : decode cX12_join 17 = .ok (.aload_n 0, 1) := by decide +kernel
theorem dX12_join_18 : decode cX12_join 18 = .ok (.getfield 60, 3) := by decide +kernel
theorem dX12_join_21 : decode cX12_join 21 = .ok (.ifCond .le 7, 3) := by decide +kernel
theorem dX12_join_24 : decode cX12_join 24 = .ok (.iconst 0, 1) := by decide +kernel
theorem dX12_join_25 : decode cX12_join 25 = .ok (.goto 9, 3) := by decide +kernel
theorem dX12_join_28 : decode cX12_join 28 = .ok (.aload_n 0, 1) := by decide +kernel
theorem dX12_join_29 : decode cX12_join 29 = .ok (.iload_n 1, 1) := by decide +kernel
theorem dX12_join_30 : decode cX12_join 30 = .ok (.iload_n 2, 1) := by decide +kernel
theorem dX12_join_31 : decode cX12_join 31 = .ok (.invokevirtual 201, 3) := by decide +kernel
theorem dX12_join_34 : decode cX12_join 34 = .ok (.ireturn, 1) := by decide +kernel
theorem dX12_leaves_0 : decode cX12_leaves 0 = .ok (.aload_n 0, 1) := by decide +kernel
theorem dX12_leaves_1 : decode cX12_leaves 1 = .ok (.invokevirtual 180, 3) := by decide +kernel
theorem dX12_leaves_4 : decode cX12_leaves 4 = .ok (.aload_n 0, 1) := by decide +kernel
theorem dX12_leaves_5 : decode cX12_leaves 5 = .ok (.getfield 13, 3) := by decide +kernel
theorem dX12_leaves_8 : decode cX12_leaves 8 = .ok (.iload_n 1, 1) := by decide +kernel
theorem dX12_leaves_9 : decode cX12_leaves 9 = .ok (.invokestatic 63, 3) := by decide +kernel
theorem dX12_leaves_12 : decode cX12_leaves 12 = .ok (.iconst 0, 1) := by decide +kernel
theorem dX12_leaves_13 : decode cX12_leaves 13 = .ok (.iadd, 1) := by decide +kernel
theorem dX12_leaves_14 : decode cX12_leaves 14 = .ok (.iconst 0, 1) := by decide +kernel
theorem dX12_leaves_15 : decode cX12_leaves 15 = .ok (.iastore, 1) := by decide +kernel
theorem dX12_leaves_16 : decode cX12_leaves 16 = .ok (.aload_n 0, 1) := by decide +kernel
theorem dX12_leaves_17 : decode cX12_leaves 17 = .ok (.invokevirtual 151, 3) := by decide +kernel
theorem dX12_leaves_20 : decode cX12_leaves 20 = .ok (.ireturn, 1) := by decide +kernel
theorem dX12_leave_0 : decode cX12_leave 0 = .ok (.aload_n 0, 1) := by decide +kernel
theorem dX12_leave_1 : decode cX12_leave 1 = .ok (.aload_n 0, 1) := by decide +kernel
theorem dX12_leave_2 : decode cX12_leave 2 = .ok (.iload_n 1, 1) := by decide +kernel
theorem dX12_leave_3 : decode cX12_leave 3 = .ok (.invokevirtual 77, 3) := by decide +kernel
theorem dX12_leave_6 : decode cX12_leave 6 = .ok (.ifCond .eq 7, 3) := by decide +kernel
theorem dX12_leave_9 : decode cX12_leave 9 = .ok (.iconst 0, 1) := by decide +kernel
theorem dX12_leave_10 : decode cX12_leave 10 = .ok (.goto 4, 3) := by decide +kernel
theorem dX12_leave_13 : decode cX12_leave 13 = .ok (.iconst 1, 1) := by decide +kernel
theorem dX12_leave_14 : decode cX12_leave 14 = .ok (.putfield 60, 3) := by decide +kernel
theorem dX12_leave_17 : decode cX12_leave 17 = .ok (.aload_n 0, 1) := by decide +kernel
theorem dX12_leave_18 : decode cX12_leave 18 = .ok (.getfield 60, 3) := by decide +kernel
theorem dX12_leave_21 : decode cX12_leave 21 = .ok (.ifCond .le 7, 3) := by decide +kernel
theorem dX12_leave_24 : decode cX12_leave 24 = .ok (.iconst 0, 1) := by decide +kernel
theorem dX12_leave_25 : decode cX12_leave 25 = .ok (.goto 8, 3) := by decide +kernel
theorem dX12_leave_28 : decode cX12_leave 28 = .ok (.aload_n 0, 1) := by decide +kernel
theorem dX12_leave_29 : decode cX12_leave 29 = .ok (.iload_n 1, 1) := by decide +kernel
theorem dX12_leave_30 : decode cX12_leave 30 = .ok (.invokevirtual 205, 3) := by decide +kernel
theorem dX12_leave_33 : decode cX12_leave 33 = .ok (.ireturn, 1) := by decide +kernel
theorem dX12_deliversDebt_0 : decode cX12_deliversDebt 0 = .ok (.bipush 8, 2) := by decide +kernel
theorem dX12_deliversDebt_2 : decode cX12_deliversDebt 2 = .ok (.aload_n 0, 1) := by decide +kernel
theorem dX12_deliversDebt_3 : decode cX12_deliversDebt 3 = .ok (.getfield 160, 3) := by decide +kernel
theorem dX12_deliversDebt_6 : decode cX12_deliversDebt 6 = .ok (.imul, 1) := by decide +kernel
theorem dX12_deliversDebt_7 : decode cX12_deliversDebt 7 = .ok (.istore_n 2, 1) := by decide +kernel
theorem dX12_deliversDebt_8 : decode cX12_deliversDebt 8 = .ok (.aload_n 0, 1) := by decide +kernel
theorem dX12_deliversDebt_9 : decode cX12_deliversDebt 9 = .ok (.getfield 36, 3) := by decide +kernel
theorem dX12_deliversDebt_12 : decode cX12_deliversDebt 12 = .ok (.iload_n 2, 1) := by decide +kernel
theorem dX12_deliversDebt_13 : decode cX12_deliversDebt 13 = .ok (.iconst 1, 1) := by decide +kernel
theorem dX12_deliversDebt_14 : decode cX12_deliversDebt 14 = .ok (.iastore, 1) := by decide +kernel
theorem dX12_deliversDebt_15 : decode cX12_deliversDebt 15 = .ok (.iconst 0, 1) := by decide +kernel
theorem dX12_deliversDebt_16 : decode cX12_deliversDebt 16 = .ok (.istore_n 3, 1) := by decide +kernel
theorem dX12_deliversDebt_17 : decode cX12_deliversDebt 17 = .ok (.iload_n 3, 1) := by decide +kernel
theorem dX12_deliversDebt_18 : decode cX12_deliversDebt 18 = .ok (.bipush 7, 2) := by decide +kernel
theorem dX12_deliversDebt_20 : decode cX12_deliversDebt 20 = .ok (.if_icmp .ge 28, 3) := by decide +kernel
theorem dX12_deliversDebt_23 : decode cX12_deliversDebt 23 = .ok (.aload_n 0, 1) := by decide +kernel
theorem dX12_deliversDebt_24 : decode cX12_deliversDebt 24 = .ok (.getfield 36, 3) := by decide +kernel
theorem dX12_deliversDebt_27 : decode cX12_deliversDebt 27 = .ok (.iload_n 2, 1) := by decide +kernel
theorem dX12_deliversDebt_28 : decode cX12_deliversDebt 28 = .ok (.iconst 1, 1) := by decide +kernel
theorem dX12_deliversDebt_29 : decode cX12_deliversDebt 29 = .ok (.iadd, 1) := by decide +kernel
theorem dX12_deliversDebt_30 : decode cX12_deliversDebt 30 = .ok (.iload_n 3, 1) := by decide +kernel
theorem dX12_deliversDebt_31 : decode cX12_deliversDebt 31 = .ok (.iadd, 1) := by decide +kernel
theorem dX12_deliversDebt_32 : decode cX12_deliversDebt 32 = .ok (.aload_n 0, 1) := by decide +kernel
theorem dX12_deliversDebt_33 : decode cX12_deliversDebt 33 = .ok (.iload_n 1, 1) := by decide +kernel
theorem dX12_deliversDebt_34 : decode cX12_deliversDebt 34 = .ok (.bipush 9, 2) := by decide +kernel
theorem dX12_deliversDebt_36 : decode cX12_deliversDebt 36 = .ok (.iload_n 3, 1) := by decide +kernel
theorem dX12_deliversDebt_37 : decode cX12_deliversDebt 37 = .ok (.iadd, 1) := by decide +kernel
theorem dX12_deliversDebt_38 : decode cX12_deliversDebt 38 = .ok (.invokevirtual 74, 3) := by decide +kernel
theorem dX12_deliversDebt_41 : decode cX12_deliversDebt 41 = .ok (.iastore, 1) := by decide +kernel
theorem dX12_deliversDebt_42 : decode cX12_deliversDebt 42 = .ok (.iinc 3 1, 3) := by decide +kernel
theorem dX12_deliversDebt_45 : decode cX12_deliversDebt 45 = .ok (.goto (-28), 3) := by decide +kernel
theorem dX12_deliversDebt_48 : decode cX12_deliversDebt 48 = .ok (.aload_n 0, 1) := by decide +kernel
theorem dX12_deliversDebt_49 : decode cX12_deliversDebt 49 = .ok (.dup, 1) := by decide +kernel
theorem dX12_deliversDebt_50 : decode cX12_deliversDebt 50 = .ok (.getfield 160, 3) := by decide +kernel
theorem dX12_deliversDebt_53 : decode cX12_deliversDebt 53 = .ok (.iconst 1, 1) := by decide +kernel
theorem dX12_deliversDebt_54 : decode cX12_deliversDebt 54 = .ok (.iadd, 1) := by decide +kernel
theorem dX12_deliversDebt_55 : decode cX12_deliversDebt 55 = .ok (.putfield 160, 3) := by decide +kernel
theorem dX12_deliversDebt_58 : decode cX12_deliversDebt 58 = .ok (.return_, 1) := by decide +kernel
theorem dX12_deliversEntry_0 : decode cX12_deliversEntry 0 = .ok (.aload_n 0, 1) := by decide +kernel
theorem dX12_deliversEntry_1 : decode cX12_deliversEntry 1 = .ok (.iload_n 1, 1) := by decide +kernel
theorem dX12_deliversEntry_2 : decode cX12_deliversEntry 2 = .ok (.iconst 1, 1) := by decide +kernel
theorem dX12_deliversEntry_3 : decode cX12_deliversEntry 3 = .ok (.invokevirtual 74, 3) := by decide +kernel
theorem dX12_deliversEntry_6 : decode cX12_deliversEntry 6 = .ok (.istore_n 2, 1) := by decide +kernel
theorem dX12_deliversEntry_7 : decode cX12_deliversEntry 7 = .ok (.aload_n 0, 1) := by decide +kernel
theorem dX12_deliversEntry_8 : decode cX12_deliversEntry 8 = .ok (.iload_n 1, 1) := by decide +kernel
theorem dX12_deliversEntry_9 : decode cX12_deliversEntry 9 = .ok (.iconst 2, 1) := by decide +kernel
theorem dX12_deliversEntry_10 : decode cX12_deliversEntry 10 = .ok (.invokevirtual 74, 3) := by decide +kernel
theorem dX12_deliversEntry_13 : decode cX12_deliversEntry 13 = .ok (.istore_n 3, 1) := by decide +kernel
theorem dX12_deliversEntry_14 : decode cX12_deliversEntry 14 = .ok (.iload_n 3, 1) := by decide +kernel
theorem dX12_deliversEntry_15 : decode cX12_deliversEntry 15 = .ok (.aload_n 0, 1) := by decide +kernel
theorem dX12_deliversEntry_16 : decode cX12_deliversEntry 16 = .ok (.iload_n 2, 1) := by decide +kernel
theorem dX12_deliversEntry_17 : decode cX12_deliversEntry 17 = .ok (.iconst 1, 1) := by decide +kernel
theorem dX12_deliversEntry_18 : decode cX12_deliversEntry 18 = .ok (.invokevirtual 70, 3) := by decide +kernel
theorem dX12_deliversEntry_21 : decode cX12_deliversEntry 21 = .ok (.isub, 1) := by decide +kernel
theorem dX12_deliversEntry_22 : decode cX12_deliversEntry 22 = .ok (.istore 4, 2) := by decide +kernel
theorem dX12_deliversEntry_24 : decode cX12_deliversEntry 24 = .ok (.bipush 8, 2) := by decide +kernel
theorem dX12_deliversEntry_26 : decode cX12_deliversEntry 26 = .ok (.aload_n 0, 1) := by decide +kernel
theorem dX12_deliversEntry_27 : decode cX12_deliversEntry 27 = .ok (.getfield 160, 3) := by decide +kernel
theorem dX12_deliversEntry_30 : decode cX12_deliversEntry 30 = .ok (.imul, 1) := by decide +kernel
theorem dX12_deliversEntry_31 : decode cX12_deliversEntry 31 = .ok (.istore 5, 2) := by decide +kernel
theorem dX12_deliversEntry_33 : decode cX12_deliversEntry 33 = .ok (.aload_n 0, 1) := by decide +kernel
theorem dX12_deliversEntry_34 : decode cX12_deliversEntry 34 = .ok (.getfield 36, 3) := by decide +kernel
theorem dX12_deliversEntry_37 : decode cX12_deliversEntry 37 = .ok (.iload 5, 2) := by decide +kernel
theorem dX12_deliversEntry_39 : decode cX12_deliversEntry 39 = .ok (.iconst 0, 1) := by decide +kernel
theorem dX12_deliversEntry_40 : decode cX12_deliversEntry 40 = .ok (.iastore, 1) := by decide +kernel
theorem dX12_deliversEntry_41 : decode cX12_deliversEntry 41 = .ok (.aload_n 0, 1) := by decide +kernel
theorem dX12_deliversEntry_42 : decode cX12_deliversEntry 42 = .ok (.getfield 36, 3) := by decide +kernel
theorem dX12_deliversEntry_45 : decode cX12_deliversEntry 45 = .ok (.iload 5, 2) := by decide +kernel
theorem dX12_deliversEntry_47 : decode cX12_deliversEntry 47 = .ok (.iconst 1, 1) := by decide +kernel
theorem dX12_deliversEntry_48 : decode cX12_deliversEntry 48 = .ok (.iadd, 1) := by decide +kernel
theorem dX12_deliversEntry_49 : decode cX12_deliversEntry 49 = .ok (.iload_n 3, 1) := by decide +kernel
theorem dX12_deliversEntry_50 : decode cX12_deliversEntry 50 = .ok (.iastore, 1) := by decide +kernel
theorem dX12_deliversEntry_51 : decode cX12_deliversEntry 51 = .ok (.aload_n 0, 1) := by decide +kernel
theorem dX12_deliversEntry_52 : decode cX12_deliversEntry 52 = .ok (.getfield 36, 3) := by decide +kernel
theorem dX12_deliversEntry_55 : decode cX12_deliversEntry 55 = .ok (.iload 5, 2) := by decide +kernel
theorem dX12_deliversEntry_57 : decode cX12_deliversEntry 57 = .ok (.iconst 2, 1) := by decide +kernel
theorem dX12_deliversEntry_58 : decode cX12_deliversEntry 58 = .ok (.iadd, 1) := by decide +kernel
theorem dX12_deliversEntry_59 : decode cX12_deliversEntry 59 = .ok (.aload_n 0, 1) := by decide +kernel
theorem dX12_deliversEntry_60 : decode cX12_deliversEntry 60 = .ok (.iload_n 2, 1) := by decide +kernel
theorem dX12_deliversEntry_61 : decode cX12_deliversEntry 61 = .ok (.iload 4, 2) := by decide +kernel
theorem dX12_deliversEntry_63 : decode cX12_deliversEntry 63 = .ok (.invokevirtual 121, 3) := by decide +kernel
theorem dX12_deliversEntry_66 : decode cX12_deliversEntry 66 = .ok (.iastore, 1) := by decide +kernel
theorem dX12_deliversEntry_67 : decode cX12_deliversEntry 67 = .ok (.aload_n 0, 1) := by decide +kernel
theorem dX12_deliversEntry_68 : decode cX12_deliversEntry 68 = .ok (.getfield 36, 3) := by decide +kernel
theorem dX12_deliversEntry_71 : decode cX12_deliversEntry 71 = .ok (.iload 5, 2) := by decide +kernel
theorem dX12_deliversEntry_73 : decode cX12_deliversEntry 73 = .ok (.iconst 3, 1) := by decide +kernel
theorem dX12_deliversEntry_74 : decode cX12_deliversEntry 74 = .ok (.iadd, 1) := by decide +kernel
theorem dX12_deliversEntry_75 : decode cX12_deliversEntry 75 = .ok (.aload_n 0, 1) := by decide +kernel
theorem dX12_deliversEntry_76 : decode cX12_deliversEntry 76 = .ok (.iload_n 2, 1) := by decide +kernel
theorem dX12_deliversEntry_77 : decode cX12_deliversEntry 77 = .ok (.iload 4, 2) := by decide +kernel
theorem dX12_deliversEntry_79 : decode cX12_deliversEntry 79 = .ok (.invokevirtual 118, 3) := by decide +kernel
theorem dX12_deliversEntry_82 : decode cX12_deliversEntry 82 = .ok (.iastore, 1) := by decide +kernel
theorem dX12_deliversEntry_83 : decode cX12_deliversEntry 83 = .ok (.aload_n 0, 1) := by decide +kernel
theorem dX12_deliversEntry_84 : decode cX12_deliversEntry 84 = .ok (.getfield 36, 3) := by decide +kernel
theorem dX12_deliversEntry_87 : decode cX12_deliversEntry 87 = .ok (.iload 5, 2) := by decide +kernel
theorem dX12_deliversEntry_89 : decode cX12_deliversEntry 89 = .ok (.iconst 4, 1) := by decide +kernel
theorem dX12_deliversEntry_90 : decode cX12_deliversEntry 90 = .ok (.iadd, 1) := by decide +kernel
theorem dX12_deliversEntry_91 : decode cX12_deliversEntry 91 = .ok (.aload_n 0, 1) := by decide +kernel
theorem dX12_deliversEntry_92 : decode cX12_deliversEntry 92 = .ok (.iload_n 2, 1) := by decide +kernel
theorem dX12_deliversEntry_93 : decode cX12_deliversEntry 93 = .ok (.iload 4, 2) := by decide +kernel
theorem dX12_deliversEntry_95 : decode cX12_deliversEntry 95 = .ok (.invokevirtual 115, 3) := by decide +kernel
theorem dX12_deliversEntry_98 : decode cX12_deliversEntry 98 = .ok (.iastore, 1) := by decide +kernel
theorem dX12_deliversEntry_99 : decode cX12_deliversEntry 99 = .ok (.iconst 5, 1) := by decide +kernel
theorem dX12_deliversEntry_100 : decode cX12_deliversEntry 100 = .ok (.istore 6, 2) := by decide +kernel
theorem dX12_deliversEntry_102 : decode cX12_deliversEntry 102 = .ok (.iload 6, 2) := by decide +kernel
theorem dX12_deliversEntry_104 : decode cX12_deliversEntry 104 = .ok (.bipush 8, 2) := by decide +kernel
theorem dX12_deliversEntry_106 : decode cX12_deliversEntry 106 = .ok (.if_icmp .ge 20, 3) := by decide +kernel
theorem dX12_deliversEntry_109 : decode cX12_deliversEntry 109 = .ok (.aload_n 0, 1) := by decide +kernel
theorem dX12_deliversEntry_110 : decode cX12_deliversEntry 110 = .ok (.getfield 36, 3) := by decide +kernel
theorem dX12_deliversEntry_113 : decode cX12_deliversEntry 113 = .ok (.iload 5, 2) := by decide +kernel
theorem dX12_deliversEntry_115 : decode cX12_deliversEntry 115 = .ok (.iload 6, 2) := by decide +kernel
theorem dX12_deliversEntry_117 : decode cX12_deliversEntry 117 = .ok (.iadd, 1) := by decide +kernel
theorem dX12_deliversEntry_118 : decode cX12_deliversEntry 118 = .ok (.iconst (-1), 1) := by decide +kernel
theorem dX12_deliversEntry_119 : decode cX12_deliversEntry 119 = .ok (.iastore, 1) := by decide +kernel
theorem dX12_deliversEntry_120 : decode cX12_deliversEntry 120 = .ok (.iinc 6 1, 3) := by decide +kernel
theorem dX12_deliversEntry_123 : decode cX12_deliversEntry 123 = .ok (.goto (-21), 3) := by decide +kernel
theorem dX12_deliversEntry_126 : decode cX12_deliversEntry 126 = .ok (.aload_n 0, 1) := by decide +kernel
theorem dX12_deliversEntry_127 : decode cX12_deliversEntry 127 = .ok (.dup, 1) := by decide +kernel
theorem dX12_deliversEntry_128 : decode cX12_deliversEntry 128 = .ok (.getfield 160, 3) := by decide +kernel
theorem dX12_deliversEntry_131 : decode cX12_deliversEntry 131 = .ok (.iconst 1, 1) := by decide +kernel
theorem dX12_deliversEntry_132 : decode cX12_deliversEntry 132 = .ok (.iadd, 1) := by decide +kernel
theorem dX12_deliversEntry_133 : decode cX12_deliversEntry 133 = .ok (.putfield 160, 3) := by decide +kernel
theorem dX12_deliversEntry_136 : decode cX12_deliversEntry 136 = .ok (.return_, 1) := by decide +kernel
theorem dX12_reads_0 : decode cX12_reads 0 = .ok (.iload_n 1, 1) := by decide +kernel
theorem dX12_reads_1 : decode cX12_reads 1 = .ok (.invokestatic 63, 3) := by decide +kernel
theorem dX12_reads_4 : decode cX12_reads 4 = .ok (.istore_n 3, 1) := by decide +kernel
theorem dX12_reads_5 : decode cX12_reads 5 = .ok (.aload_n 0, 1) := by decide +kernel
theorem dX12_reads_6 : decode cX12_reads 6 = .ok (.getfield 13, 3) := by decide +kernel
theorem dX12_reads_9 : decode cX12_reads 9 = .ok (.iload_n 3, 1) := by decide +kernel
theorem dX12_reads_10 : decode cX12_reads 10 = .ok (.bipush 9, 2) := by decide +kernel
theorem dX12_reads_12 : decode cX12_reads 12 = .ok (.iadd, 1) := by decide +kernel
theorem dX12_reads_13 : decode cX12_reads 13 = .ok (.iaload, 1) := by decide +kernel
theorem dX12_reads_14 : decode cX12_reads 14 = .ok (.ifCond .le 7, 3) := by decide +kernel
theorem dX12_reads_17 : decode cX12_reads 17 = .ok (.iconst 1, 1) := by decide +kernel
theorem dX12_reads_18 : decode cX12_reads 18 = .ok (.goto 4, 3) := by decide +kernel
theorem dX12_reads_21 : decode cX12_reads 21 = .ok (.iconst 0, 1) := by decide +kernel
theorem dX12_reads_22 : decode cX12_reads 22 = .ok (.istore 4, 2) := by decide +kernel
theorem dX12_reads_24 : decode cX12_reads 24 = .ok (.iload 4, 2) := by decide +kernel
theorem dX12_reads_26 : decode cX12_reads 26 = .ok (.ifCond .ne 33, 3) := by decide +kernel
theorem dX12_reads_29 : decode cX12_reads 29 = .ok (.aload_n 0, 1) := by decide +kernel
theorem dX12_reads_30 : decode cX12_reads 30 = .ok (.getfield 13, 3) := by decide +kernel
theorem dX12_reads_33 : decode cX12_reads 33 = .ok (.iload_n 3, 1) := by decide +kernel
theorem dX12_reads_34 : decode cX12_reads 34 = .ok (.iconst 2, 1) := by decide +kernel
theorem dX12_reads_35 : decode cX12_reads 35 = .ok (.iadd, 1) := by decide +kernel
theorem dX12_reads_36 : decode cX12_reads 36 = .ok (.iaload, 1) := by decide +kernel
theorem dX12_reads_37 : decode cX12_reads 37 = .ok (.aload_n 0, 1) := by decide +kernel
theorem dX12_reads_38 : decode cX12_reads 38 = .ok (.aload_n 0, 1) := by decide +kernel
theorem dX12_reads_39 : decode cX12_reads 39 = .ok (.getfield 13, 3) := by decide +kernel
theorem dX12_reads_42 : decode cX12_reads 42 = .ok (.iload_n 3, 1) := by decide +kernel
theorem dX12_reads_43 : decode cX12_reads 43 = .ok (.iconst 1, 1) := by decide +kernel
theorem dX12_reads_44 : decode cX12_reads 44 = .ok (.iadd, 1) := by decide +kernel
theorem dX12_reads_45 : decode cX12_reads 45 = .ok (.iaload, 1) := by decide +kernel
theorem dX12_reads_46 : decode cX12_reads 46 = .ok (.invokevirtual 163, 3) := by decide +kernel
theorem dX12_reads_49 : decode cX12_reads 49 = .ok (.if_icmp .ne 10, 3) := by decide +kernel
theorem dX12_reads_52 : decode cX12_reads 52 = .ok (.aload_n 0, 1) := by decide +kernel
theorem dX12_reads_53 : decode cX12_reads 53 = .ok (.bipush 10, 2) := by decide +kernel
theorem dX12_reads_55 : decode cX12_reads 55 = .ok (.invokevirtual 198, 3) := by decide +kernel
theorem dX12_reads_58 : decode cX12_reads 58 = .ok (.ireturn, 1) := by decide +kernel
theorem dX12_reads_59 : decode cX12_reads 59 = .ok (.aload_n 0, 1) := by decide +kernel
theorem dX12_reads_60 : decode cX12_reads 60 = .ok (.invokevirtual 180, 3) := by decide +kernel
theorem dX12_reads_63 : decode cX12_reads 63 = .ok (.aload_n 0, 1) := by decide +kernel
theorem dX12_reads_64 : decode cX12_reads 64 = .ok (.iconst 0, 1) := by decide +kernel
theorem dX12_reads_65 : decode cX12_reads 65 = .ok (.putfield 160, 3) := by decide +kernel
theorem dX12_reads_68 : decode cX12_reads 68 = .ok (.iload 4, 2) := by decide +kernel
theorem dX12_reads_70 : decode cX12_reads 70 = .ok (.ifCond .eq 26, 3) := by decide +kernel
theorem dX12_reads_73 : decode cX12_reads 73 = .ok (.aload_n 0, 1) := by decide +kernel
theorem dX12_reads_74 : decode cX12_reads 74 = .ok (.iload_n 1, 1) := by decide +kernel
theorem dX12_reads_75 : decode cX12_reads 75 = .ok (.invokevirtual 208, 3) := by decide +kernel
theorem dX12_reads_78 : decode cX12_reads 78 = .ok (.aload_n 0, 1) := by decide +kernel
theorem dX12_reads_79 : decode cX12_reads 79 = .ok (.iload_n 1, 1) := by decide +kernel
theorem dX12_reads_80 : decode cX12_reads 80 = .ok (.invokevirtual 211, 3) := by decide +kernel
theorem dX12_reads_83 : decode cX12_reads 83 = .ok (.aload_n 0, 1) := by decide +kernel
theorem dX12_reads_84 : decode cX12_reads 84 = .ok (.getfield 13, 3) := by decide +kernel
theorem dX12_reads_87 : decode cX12_reads 87 = .ok (.iload_n 3, 1) := by decide +kernel
theorem dX12_reads_88 : decode cX12_reads 88 = .ok (.bipush 8, 2) := by decide +kernel
theorem dX12_reads_90 : decode cX12_reads 90 = .ok (.iadd, 1) := by decide +kernel
theorem dX12_reads_91 : decode cX12_reads 91 = .ok (.dup2, 1) := by decide +kernel
theorem dX12_reads_92 : decode cX12_reads 92 = .ok (.iaload, 1) := by decide +kernel
theorem dX12_reads_93 : decode cX12_reads 93 = .ok (.iconst 1, 1) := by decide +kernel
theorem dX12_reads_94 : decode cX12_reads 94 = .ok (.iadd, 1) := by decide +kernel
theorem dX12_reads_95 : decode cX12_reads 95 = .ok (.iastore, 1) := by decide +kernel
theorem dX12_reads_96 : decode cX12_reads 96 = .ok (.aload_n 0, 1) := by decide +kernel
theorem dX12_reads_97 : decode cX12_reads 97 = .ok (.getfield 160, 3) := by decide +kernel
theorem dX12_reads_100 : decode cX12_reads 100 = .ok (.iload_n 2, 1) := by decide +kernel
theorem dX12_reads_101 : decode cX12_reads 101 = .ok (.if_icmp .ge 59, 3) := by decide +kernel
theorem dX12_reads_104 : decode cX12_reads 104 = .ok (.aload_n 0, 1) := by decide +kernel
theorem dX12_reads_105 : decode cX12_reads 105 = .ok (.getfield 13, 3) := by decide +kernel
theorem dX12_reads_108 : decode cX12_reads 108 = .ok (.iload_n 3, 1) := by decide +kernel
theorem dX12_reads_109 : decode cX12_reads 109 = .ok (.iconst 2, 1) := by decide +kernel
theorem dX12_reads_110 : decode cX12_reads 110 = .ok (.iadd, 1) := by decide +kernel
theorem dX12_reads_111 : decode cX12_reads 111 = .ok (.iaload, 1) := by decide +kernel
theorem dX12_reads_112 : decode cX12_reads 112 = .ok (.aload_n 0, 1) := by decide +kernel
theorem dX12_reads_113 : decode cX12_reads 113 = .ok (.aload_n 0, 1) := by decide +kernel
theorem dX12_reads_114 : decode cX12_reads 114 = .ok (.getfield 13, 3) := by decide +kernel
theorem dX12_reads_117 : decode cX12_reads 117 = .ok (.iload_n 3, 1) := by decide +kernel
theorem dX12_reads_118 : decode cX12_reads 118 = .ok (.iconst 1, 1) := by decide +kernel
theorem dX12_reads_119 : decode cX12_reads 119 = .ok (.iadd, 1) := by decide +kernel
theorem dX12_reads_120 : decode cX12_reads 120 = .ok (.iaload, 1) := by decide +kernel
theorem dX12_reads_121 : decode cX12_reads 121 = .ok (.invokevirtual 163, 3) := by decide +kernel
theorem dX12_reads_124 : decode cX12_reads 124 = .ok (.if_icmp .ge 36, 3) := by decide +kernel
theorem dX12_reads_127 : decode cX12_reads 127 = .ok (.aload_n 0, 1) := by decide +kernel
theorem dX12_reads_128 : decode cX12_reads 128 = .ok (.iload_n 1, 1) := by decide +kernel
theorem dX12_reads_129 : decode cX12_reads 129 = .ok (.invokevirtual 214, 3) := by decide +kernel
theorem dX12_reads_132 : decode cX12_reads 132 = .ok (.aload_n 0, 1) := by decide +kernel
theorem dX12_reads_133 : decode cX12_reads 133 = .ok (.getfield 13, 3) := by decide +kernel
theorem dX12_reads_136 : decode cX12_reads 136 = .ok (.iload_n 3, 1) := by decide +kernel
theorem dX12_reads_137 : decode cX12_reads 137 = .ok (.iconst 2, 1) := by decide +kernel
theorem dX12_reads_138 : decode cX12_reads 138 = .ok (.iadd, 1) := by decide +kernel
theorem dX12_reads_139 : decode cX12_reads 139 = .ok (.dup2, 1) := by decide +kernel
theorem dX12_reads_140 : decode cX12_reads 140 = .ok (.iaload, 1) := by decide +kernel
theorem dX12_reads_141 : decode cX12_reads 141 = .ok (.iconst 1, 1) := by decide +kernel
theorem dX12_reads_142 : decode cX12_reads 142 = .ok (.iadd, 1) := by decide +kernel
theorem dX12_reads_143 : decode cX12_reads 143 = .ok (.iastore, 1) := by decide +kernel
theorem dX12_reads_144 : decode cX12_reads 144 = .ok (.aload_n 0, 1) := by decide +kernel
theorem dX12_reads_145 : decode cX12_reads 145 = .ok (.getfield 13, 3) := by decide +kernel
theorem dX12_reads_148 : decode cX12_reads 148 = .ok (.iload_n 3, 1) := by decide +kernel
theorem dX12_reads_149 : decode cX12_reads 149 = .ok (.bipush 7, 2) := by decide +kernel
theorem dX12_reads_151 : decode cX12_reads 151 = .ok (.iadd, 1) := by decide +kernel
theorem dX12_reads_152 : decode cX12_reads 152 = .ok (.dup2, 1) := by decide +kernel
theorem dX12_reads_153 : decode cX12_reads 153 = .ok (.iaload, 1) := by decide +kernel
theorem dX12_reads_154 : decode cX12_reads 154 = .ok (.iconst 1, 1) := by decide +kernel
theorem dX12_reads_155 : decode cX12_reads 155 = .ok (.iadd, 1) := by decide +kernel
theorem dX12_reads_156 : decode cX12_reads 156 = .ok (.iastore, 1) := by decide +kernel
theorem dX12_reads_157 : decode cX12_reads 157 = .ok (.goto (-61), 3) := by decide +kernel
theorem dX12_reads_160 : decode cX12_reads 160 = .ok (.aload_n 0, 1) := by decide +kernel
theorem dX12_reads_161 : decode cX12_reads 161 = .ok (.getfield 13, 3) := by decide +kernel
theorem dX12_reads_164 : decode cX12_reads 164 = .ok (.iload_n 3, 1) := by decide +kernel
theorem dX12_reads_165 : decode cX12_reads 165 = .ok (.iconst 3, 1) := by decide +kernel
theorem dX12_reads_166 : decode cX12_reads 166 = .ok (.iadd, 1) := by decide +kernel
theorem dX12_reads_167 : decode cX12_reads 167 = .ok (.aload_n 0, 1) := by decide +kernel
theorem dX12_reads_168 : decode cX12_reads 168 = .ok (.getfield 13, 3) := by decide +kernel
theorem dX12_reads_171 : decode cX12_reads 171 = .ok (.iconst 0, 1) := by decide +kernel
theorem dX12_reads_172 : decode cX12_reads 172 = .ok (.iaload, 1) := by decide +kernel
theorem dX12_reads_173 : decode cX12_reads 173 = .ok (.iastore, 1) := by decide +kernel
theorem dX12_reads_174 : decode cX12_reads 174 = .ok (.aload_n 0, 1) := by decide +kernel
theorem dX12_reads_175 : decode cX12_reads 175 = .ok (.getfield 13, 3) := by decide +kernel
theorem dX12_reads_178 : decode cX12_reads 178 = .ok (.iload_n 3, 1) := by decide +kernel
theorem dX12_reads_179 : decode cX12_reads 179 = .ok (.iconst 5, 1) := by decide +kernel
theorem dX12_reads_180 : decode cX12_reads 180 = .ok (.iadd, 1) := by decide +kernel
theorem dX12_reads_181 : decode cX12_reads 181 = .ok (.dup2, 1) := by decide +kernel
theorem dX12_reads_182 : decode cX12_reads 182 = .ok (.iaload, 1) := by decide +kernel
theorem dX12_reads_183 : decode cX12_reads 183 = .ok (.aload_n 0, 1) := by decide +kernel
theorem dX12_reads_184 : decode cX12_reads 184 = .ok (.getfield 13, 3) := by decide +kernel
theorem dX12_reads_187 : decode cX12_reads 187 = .ok (.iload_n 3, 1) := by decide +kernel
theorem dX12_reads_188 : decode cX12_reads 188 = .ok (.iconst 4, 1) := by decide +kernel
theorem dX12_reads_189 : decode cX12_reads 189 = .ok (.iadd, 1) := by decide +kernel
theorem dX12_reads_190 : decode cX12_reads 190 = .ok (.iaload, 1) := by decide +kernel
theorem dX12_reads_191 : decode cX12_reads 191 = .ok (.iconst (-1), 1) := by decide +kernel
theorem dX12_reads_192 : decode cX12_reads 192 = .ok (.if_icmp .ne 7, 3) := by decide +kernel
theorem dX12_reads_195 : decode cX12_reads 195 = .ok (.iconst 0, 1) := by decide +kernel
theorem dX12_reads_196 : decode cX12_reads 196 = .ok (.goto 4, 3) := by decide +kernel
theorem dX12_reads_199 : decode cX12_reads 199 = .ok (.iconst 1, 1) := by decide +kernel
theorem dX12_reads_200 : decode cX12_reads 200 = .ok (.iadd, 1) := by decide +kernel
theorem dX12_reads_201 : decode cX12_reads 201 = .ok (.iastore, 1) := by decide +kernel
theorem dX12_reads_202 : decode cX12_reads 202 = .ok (.aload_n 0, 1) := by decide +kernel
theorem dX12_reads_203 : decode cX12_reads 203 = .ok (.getfield 13, 3) := by decide +kernel
theorem dX12_reads_206 : decode cX12_reads 206 = .ok (.iload_n 3, 1) := by decide +kernel
theorem dX12_reads_207 : decode cX12_reads 207 = .ok (.iconst 4, 1) := by decide +kernel
theorem dX12_reads_208 : decode cX12_reads 208 = .ok (.iadd, 1) := by decide +kernel
theorem dX12_reads_209 : decode cX12_reads 209 = .ok (.iconst (-1), 1) := by decide +kernel
theorem dX12_reads_210 : decode cX12_reads 210 = .ok (.iastore, 1) := by decide +kernel
theorem dX12_reads_211 : decode cX12_reads 211 = .ok (.aload_n 0, 1) := by decide +kernel
theorem dX12_reads_212 : decode cX12_reads 212 = .ok (.getfield 160, 3) := by decide +kernel
theorem dX12_reads_215 : decode cX12_reads 215 = .ok (.ireturn, 1) := by decide +kernel
theorem dX12_read_0 : decode cX12_read 0 = .ok (.aload_n 0, 1) := by decide +kernel
theorem dX12_read_1 : decode cX12_read 1 = .ok (.aload_n 0, 1) := by decide +kernel
theorem dX12_read_2 : decode cX12_read 2 = .ok (.iload_n 1, 1) := by decide +kernel
theorem dX12_read_3 : decode cX12_read 3 = .ok (.invokevirtual 77, 3) := by decide +kernel
theorem dX12_read_6 : decode cX12_read 6 = .ok (.ifCond .ne 7, 3) := by decide +kernel
theorem dX12_read_9 : decode cX12_read 9 = .ok (.iconst 1, 1) := by decide +kernel
theorem dX12_read_10 : decode cX12_read 10 = .ok (.goto 18, 3) := by decide +kernel
theorem dX12_read_13 : decode cX12_read 13 = .ok (.iload_n 2, 1) := by decide +kernel
theorem dX12_read_14 : decode cX12_read 14 = .ok (.iconst 1, 1) := by decide +kernel
theorem dX12_read_15 : decode cX12_read 15 = .ok (.bipush 99, 2) := by decide +kernel
theorem dX12_read_17 : decode cX12_read 17 = .ok (.invokestatic 66, 3) := by decide +kernel
theorem dX12_read_20 : decode cX12_read 20 = .ok (.ifCond .eq 7, 3) := by decide +kernel
theorem dX12_read_23 : decode cX12_read 23 = .ok (.iconst 0, 1) := by decide +kernel
theorem dX12_read_24 : decode cX12_read 24 = .ok (.goto 4, 3) := by decide +kernel
theorem dX12_read_27 : decode cX12_read 27 = .ok (.iconst 2, 1) := by decide +kernel
theorem dX12_read_28 : decode cX12_read 28 = .ok (.putfield 60, 3) := by decide +kernel
theorem dX12_read_31 : decode cX12_read 31 = .ok (.aload_n 0, 1) := by decide +kernel
theorem dX12_read_32 : decode cX12_read 32 = .ok (.getfield 60, 3) := by decide +kernel
theorem dX12_read_35 : decode cX12_read 35 = .ok (.ifCond .le 7, 3) := by decide +kernel
theorem dX12_read_38 : decode cX12_read 38 = .ok (.iconst 0, 1) := by decide +kernel
theorem dX12_read_39 : decode cX12_read 39 = .ok (.goto 9, 3) := by decide +kernel
theorem dX12_read_42 : decode cX12_read 42 = .ok (.aload_n 0, 1) := by decide +kernel
theorem dX12_read_43 : decode cX12_read 43 = .ok (.iload_n 1, 1) := by decide +kernel
theorem dX12_read_44 : decode cX12_read 44 = .ok (.iload_n 2, 1) := by decide +kernel
theorem dX12_read_45 : decode cX12_read 45 = .ok (.invokevirtual 217, 3) := by decide +kernel
theorem dX12_read_48 : decode cX12_read 48 = .ok (.ireturn, 1) := by decide +kernel
theorem dX12_promises_0 : decode cX12_promises 0 = .ok (.aload_n 0, 1) := by decide +kernel
theorem dX12_promises_1 : decode cX12_promises 1 = .ok (.iload_n 1, 1) := by decide +kernel
theorem dX12_promises_2 : decode cX12_promises 2 = .ok (.bipush 6, 2) := by decide +kernel
theorem dX12_promises_4 : decode cX12_promises 4 = .ok (.invokevirtual 74, 3) := by decide +kernel
theorem dX12_promises_7 : decode cX12_promises 7 = .ok (.aload_n 0, 1) := by decide +kernel
theorem dX12_promises_8 : decode cX12_promises 8 = .ok (.getfield 7, 3) := by decide +kernel
theorem dX12_promises_11 : decode cX12_promises 11 = .ok (.iconst 4, 1) := by decide +kernel
theorem dX12_promises_12 : decode cX12_promises 12 = .ok (.iaload, 1) := by decide +kernel
theorem dX12_promises_13 : decode cX12_promises 13 = .ok (.if_icmp .lt 7, 3) := by decide +kernel
theorem dX12_promises_16 : decode cX12_promises 16 = .ok (.iconst 3, 1) := by decide +kernel
theorem dX12_promises_17 : decode cX12_promises 17 = .ok (.goto 18, 3) := by decide +kernel
theorem dX12_promises_20 : decode cX12_promises 20 = .ok (.aload_n 0, 1) := by decide +kernel
theorem dX12_promises_21 : decode cX12_promises 21 = .ok (.iload_n 1, 1) := by decide +kernel
theorem dX12_promises_22 : decode cX12_promises 22 = .ok (.iconst 4, 1) := by decide +kernel
theorem dX12_promises_23 : decode cX12_promises 23 = .ok (.invokevirtual 74, 3) := by decide +kernel
theorem dX12_promises_26 : decode cX12_promises 26 = .ok (.iconst (-1), 1) := by decide +kernel
theorem dX12_promises_27 : decode cX12_promises 27 = .ok (.if_icmp .eq 7, 3) := by decide +kernel
theorem dX12_promises_30 : decode cX12_promises 30 = .ok (.iconst 4, 1) := by decide +kernel
theorem dX12_promises_31 : decode cX12_promises 31 = .ok (.goto 4, 3) := by decide +kernel
theorem dX12_promises_34 : decode cX12_promises 34 = .ok (.iconst 0, 1) := by decide +kernel
theorem dX12_promises_35 : decode cX12_promises 35 = .ok (.istore_n 3, 1) := by decide +kernel
theorem dX12_promises_36 : decode cX12_promises 36 = .ok (.iload_n 3, 1) := by decide +kernel
theorem dX12_promises_37 : decode cX12_promises 37 = .ok (.ifCond .le 9, 3) := by decide +kernel
theorem dX12_promises_40 : decode cX12_promises 40 = .ok (.aload_n 0, 1) := by decide +kernel
theorem dX12_promises_41 : decode cX12_promises 41 = .ok (.iload_n 3, 1) := by decide +kernel
theorem dX12_promises_42 : decode cX12_promises 42 = .ok (.invokevirtual 198, 3) := by decide +kernel
theorem dX12_promises_45 : decode cX12_promises 45 = .ok (.ireturn, 1) := by decide +kernel
theorem dX12_promises_46 : decode cX12_promises 46 = .ok (.aload_n 0, 1) := by decide +kernel
theorem dX12_promises_47 : decode cX12_promises 47 = .ok (.invokevirtual 180, 3) := by decide +kernel
theorem dX12_promises_50 : decode cX12_promises 50 = .ok (.aload_n 0, 1) := by decide +kernel
theorem dX12_promises_51 : decode cX12_promises 51 = .ok (.getfield 13, 3) := by decide +kernel
theorem dX12_promises_54 : decode cX12_promises 54 = .ok (.iload_n 1, 1) := by decide +kernel
theorem dX12_promises_55 : decode cX12_promises 55 = .ok (.invokestatic 63, 3) := by decide +kernel
theorem dX12_promises_58 : decode cX12_promises 58 = .ok (.iconst 4, 1) := by decide +kernel
theorem dX12_promises_59 : decode cX12_promises 59 = .ok (.iadd, 1) := by decide +kernel
theorem dX12_promises_60 : decode cX12_promises 60 = .ok (.aload_n 0, 1) := by decide +kernel
theorem dX12_promises_61 : decode cX12_promises 61 = .ok (.getfield 13, 3) := by decide +kernel
theorem dX12_promises_64 : decode cX12_promises 64 = .ok (.iconst 0, 1) := by decide +kernel
theorem dX12_promises_65 : decode cX12_promises 65 = .ok (.iaload, 1) := by decide +kernel
theorem dX12_promises_66 : decode cX12_promises 66 = .ok (.iload_n 2, 1) := by decide +kernel
theorem dX12_promises_67 : decode cX12_promises 67 = .ok (.iadd, 1) := by decide +kernel
theorem dX12_promises_68 : decode cX12_promises 68 = .ok (.iastore, 1) := by decide +kernel
theorem dX12_promises_69 : decode cX12_promises 69 = .ok (.aload_n 0, 1) := by decide +kernel
theorem dX12_promises_70 : decode cX12_promises 70 = .ok (.getfield 13, 3) := by decide +kernel
theorem dX12_promises_73 : decode cX12_promises 73 = .ok (.iconst 0, 1) := by decide +kernel
theorem dX12_promises_74 : decode cX12_promises 74 = .ok (.iaload, 1) := by decide +kernel
theorem dX12_promises_75 : decode cX12_promises 75 = .ok (.iload_n 2, 1) := by decide +kernel
theorem dX12_promises_76 : decode cX12_promises 76 = .ok (.iadd, 1) := by decide +kernel
theorem dX12_promises_77 : decode cX12_promises 77 = .ok (.ireturn, 1) := by decide +kernel
theorem dX12_promise_0 : decode cX12_promise 0 = .ok (.aload_n 0, 1) := by decide +kernel
theorem dX12_promise_1 : decode cX12_promise 1 = .ok (.aload_n 0, 1) := by decide +kernel
theorem dX12_promise_2 : decode cX12_promise 2 = .ok (.iload_n 1, 1) := by decide +kernel
theorem dX12_promise_3 : decode cX12_promise 3 = .ok (.invokevirtual 77, 3) := by decide +kernel
theorem dX12_promise_6 : decode cX12_promise 6 = .ok (.ifCond .ne 7, 3) := by decide +kernel
theorem dX12_promise_9 : decode cX12_promise 9 = .ok (.iconst 1, 1) := by decide +kernel
theorem dX12_promise_10 : decode cX12_promise 10 = .ok (.goto 22, 3) := by decide +kernel
theorem dX12_promise_13 : decode cX12_promise 13 = .ok (.iload_n 2, 1) := by decide +kernel
theorem dX12_promise_14 : decode cX12_promise 14 = .ok (.iconst 1, 1) := by decide +kernel
theorem dX12_promise_15 : decode cX12_promise 15 = .ok (.aload_n 0, 1) := by decide +kernel
theorem dX12_promise_16 : decode cX12_promise 16 = .ok (.getfield 7, 3) := by decide +kernel
theorem dX12_promise_19 : decode cX12_promise 19 = .ok (.iconst 5, 1) := by decide +kernel
theorem dX12_promise_20 : decode cX12_promise 20 = .ok (.iaload, 1) := by decide +kernel
theorem dX12_promise_21 : decode cX12_promise 21 = .ok (.invokestatic 66, 3) := by decide +kernel
theorem dX12_promise_24 : decode cX12_promise 24 = .ok (.ifCond .eq 7, 3) := by decide +kernel
theorem dX12_promise_27 : decode cX12_promise 27 = .ok (.iconst 0, 1) := by decide +kernel
theorem dX12_promise_28 : decode cX12_promise 28 = .ok (.goto 4, 3) := by decide +kernel
theorem dX12_promise_31 : decode cX12_promise 31 = .ok (.iconst 2, 1) := by decide +kernel
theorem dX12_promise_32 : decode cX12_promise 32 = .ok (.putfield 60, 3) := by decide +kernel
theorem dX12_promise_35 : decode cX12_promise 35 = .ok (.aload_n 0, 1) := by decide +kernel
theorem dX12_promise_36 : decode cX12_promise 36 = .ok (.getfield 60, 3) := by decide +kernel
theorem dX12_promise_39 : decode cX12_promise 39 = .ok (.ifCond .le 7, 3) := by decide +kernel
theorem dX12_promise_42 : decode cX12_promise 42 = .ok (.iconst 0, 1) := by decide +kernel
theorem dX12_promise_43 : decode cX12_promise 43 = .ok (.goto 9, 3) := by decide +kernel
theorem dX12_promise_46 : decode cX12_promise 46 = .ok (.aload_n 0, 1) := by decide +kernel
theorem dX12_promise_47 : decode cX12_promise 47 = .ok (.iload_n 1, 1) := by decide +kernel
theorem dX12_promise_48 : decode cX12_promise 48 = .ok (.iload_n 2, 1) := by decide +kernel
theorem dX12_promise_49 : decode cX12_promise 49 = .ok (.invokevirtual 220, 3) := by decide +kernel
theorem dX12_promise_52 : decode cX12_promise 52 = .ok (.ireturn, 1) := by decide +kernel
theorem dX12_isAbove_0 : decode cX12_isAbove 0 = .ok (.iload_n 2, 1) := by decide +kernel
theorem dX12_isAbove_1 : decode cX12_isAbove 1 = .ok (.istore_n 3, 1) := by decide +kernel
theorem dX12_isAbove_2 : decode cX12_isAbove 2 = .ok (.iload_n 3, 1) := by decide +kernel
theorem dX12_isAbove_3 : decode cX12_isAbove 3 = .ok (.iconst (-1), 1) := by decide +kernel
theorem dX12_isAbove_4 : decode cX12_isAbove 4 = .ok (.if_icmp .eq 18, 3) := by decide +kernel
theorem dX12_isAbove_7 : decode cX12_isAbove 7 = .ok (.iload_n 3, 1) := by decide +kernel
theorem dX12_isAbove_8 : decode cX12_isAbove 8 = .ok (.iload_n 1, 1) := by decide +kernel
theorem dX12_isAbove_9 : decode cX12_isAbove 9 = .ok (.if_icmp .eq 13, 3) := by decide +kernel
theorem dX12_isAbove_12 : decode cX12_isAbove 12 = .ok (.aload_n 0, 1) := by decide +kernel
theorem dX12_isAbove_13 : decode cX12_isAbove 13 = .ok (.iload_n 3, 1) := by decide +kernel
theorem dX12_isAbove_14 : decode cX12_isAbove 14 = .ok (.iconst 4, 1) := by decide +kernel
theorem dX12_isAbove_15 : decode cX12_isAbove 15 = .ok (.invokevirtual 70, 3) := by decide +kernel
theorem dX12_isAbove_18 : decode cX12_isAbove 18 = .ok (.istore_n 3, 1) := by decide +kernel
theorem dX12_isAbove_19 : decode cX12_isAbove 19 = .ok (.goto (-17), 3) := by decide +kernel
theorem dX12_isAbove_22 : decode cX12_isAbove 22 = .ok (.iload_n 3, 1) := by decide +kernel
theorem dX12_isAbove_23 : decode cX12_isAbove 23 = .ok (.iload_n 1, 1) := by decide +kernel
theorem dX12_isAbove_24 : decode cX12_isAbove 24 = .ok (.if_icmp .ne 7, 3) := by decide +kernel
theorem dX12_isAbove_27 : decode cX12_isAbove 27 = .ok (.iconst 1, 1) := by decide +kernel
theorem dX12_isAbove_28 : decode cX12_isAbove 28 = .ok (.goto 4, 3) := by decide +kernel
theorem dX12_isAbove_31 : decode cX12_isAbove 31 = .ok (.iconst 0, 1) := by decide +kernel
theorem dX12_isAbove_32 : decode cX12_isAbove 32 = .ok (.ireturn, 1) := by decide +kernel
theorem dX12_commonOf_0 : decode cX12_commonOf 0 = .ok (.iload_n 1, 1) := by decide +kernel
theorem dX12_commonOf_1 : decode cX12_commonOf 1 = .ok (.iload_n 2, 1) := by decide +kernel
theorem dX12_commonOf_2 : decode cX12_commonOf 2 = .ok (.if_icmp .ne 9, 3) := by decide +kernel
theorem dX12_commonOf_5 : decode cX12_commonOf 5 = .ok (.aload_n 0, 1) := by decide +kernel
theorem dX12_commonOf_6 : decode cX12_commonOf 6 = .ok (.iload_n 1, 1) := by decide +kernel
theorem dX12_commonOf_7 : decode cX12_commonOf 7 = .ok (.invokevirtual 163, 3) := by decide +kernel
theorem dX12_commonOf_10 : decode cX12_commonOf 10 = .ok (.ireturn, 1) := by decide +kernel
theorem dX12_commonOf_11 : decode cX12_commonOf 11 = .ok (.iload_n 1, 1) := by decide +kernel
theorem dX12_commonOf_12 : decode cX12_commonOf 12 = .ok (.istore_n 3, 1) := by decide +kernel
theorem dX12_commonOf_13 : decode cX12_commonOf 13 = .ok (.aload_n 0, 1) := by decide +kernel
theorem dX12_commonOf_14 : decode cX12_commonOf 14 = .ok (.iload_n 1, 1) := by decide +kernel
theorem dX12_commonOf_15 : decode cX12_commonOf 15 = .ok (.invokevirtual 163, 3) := by decide +kernel
theorem dX12_commonOf_18 : decode cX12_commonOf 18 = .ok (.istore 4, 2) := by decide +kernel
theorem dX12_commonOf_20 : decode cX12_commonOf 20 = .ok (.iconst 1, 1) := by decide +kernel
theorem dX12_commonOf_21 : decode cX12_commonOf 21 = .ok (.istore 5, 2) := by decide +kernel
theorem dX12_commonOf_23 : decode cX12_commonOf 23 = .ok (.aload_n 0, 1) := by decide +kernel
theorem dX12_commonOf_24 : decode cX12_commonOf 24 = .ok (.iload_n 3, 1) := by decide +kernel
theorem dX12_commonOf_25 : decode cX12_commonOf 25 = .ok (.iload_n 2, 1) := by decide +kernel
theorem dX12_commonOf_26 : decode cX12_commonOf 26 = .ok (.invokevirtual 223, 3) := by decide +kernel
theorem dX12_commonOf_29 : decode cX12_commonOf 29 = .ok (.ifCond .ne 45, 3) := by decide +kernel
theorem dX12_commonOf_32 : decode cX12_commonOf 32 = .ok (.iload 5, 2) := by decide +kernel
theorem dX12_commonOf_34 : decode cX12_commonOf 34 = .ok (.ifCond .ne 14, 3) := by decide +kernel
theorem dX12_commonOf_37 : decode cX12_commonOf 37 = .ok (.aload_n 0, 1) := by decide +kernel
theorem dX12_commonOf_38 : decode cX12_commonOf 38 = .ok (.iload_n 3, 1) := by decide +kernel
theorem dX12_commonOf_39 : decode cX12_commonOf 39 = .ok (.iconst 5, 1) := by decide +kernel
theorem dX12_commonOf_40 : decode cX12_commonOf 40 = .ok (.invokevirtual 70, 3) := by decide +kernel
theorem dX12_commonOf_43 : decode cX12_commonOf 43 = .ok (.iload 4, 2) := by decide +kernel
theorem dX12_commonOf_45 : decode cX12_commonOf 45 = .ok (.if_icmp .ge 12, 3) := by decide +kernel
theorem dX12_commonOf_48 : decode cX12_commonOf 48 = .ok (.aload_n 0, 1) := by decide +kernel
theorem dX12_commonOf_49 : decode cX12_commonOf 49 = .ok (.iload_n 3, 1) := by decide +kernel
theorem dX12_commonOf_50 : decode cX12_commonOf 50 = .ok (.iconst 5, 1) := by decide +kernel
theorem dX12_commonOf_51 : decode cX12_commonOf 51 = .ok (.invokevirtual 70, 3) := by decide +kernel
theorem dX12_commonOf_54 : decode cX12_commonOf 54 = .ok (.goto 5, 3) := by decide +kernel
theorem dX12_commonOf_57 : decode cX12_commonOf 57 = .ok (.iload 4, 2) := by decide +kernel
theorem dX12_commonOf_59 : decode cX12_commonOf 59 = .ok (.istore 4, 2) := by decide +kernel
theorem dX12_commonOf_61 : decode cX12_commonOf 61 = .ok (.iconst 0, 1) := by decide +kernel
theorem dX12_commonOf_62 : decode cX12_commonOf 62 = .ok (.istore 5, 2) := by decide +kernel
theorem dX12_commonOf_64 : decode cX12_commonOf 64 = .ok (.aload_n 0, 1) := by decide +kernel
theorem dX12_commonOf_65 : decode cX12_commonOf 65 = .ok (.iload_n 3, 1) := by decide +kernel
theorem dX12_commonOf_66 : decode cX12_commonOf 66 = .ok (.iconst 4, 1) := by decide +kernel
theorem dX12_commonOf_67 : decode cX12_commonOf 67 = .ok (.invokevirtual 70, 3) := by decide +kernel
theorem dX12_commonOf_70 : decode cX12_commonOf 70 = .ok (.istore_n 3, 1) := by decide +kernel
theorem dX12_commonOf_71 : decode cX12_commonOf 71 = .ok (.goto (-48), 3) := by decide +kernel
theorem dX12_commonOf_74 : decode cX12_commonOf 74 = .ok (.iload_n 2, 1) := by decide +kernel
theorem dX12_commonOf_75 : decode cX12_commonOf 75 = .ok (.istore 6, 2) := by decide +kernel
theorem dX12_commonOf_77 : decode cX12_commonOf 77 = .ok (.iload 6, 2) := by decide +kernel
theorem dX12_commonOf_79 : decode cX12_commonOf 79 = .ok (.iload_n 3, 1) := by decide +kernel
theorem dX12_commonOf_80 : decode cX12_commonOf 80 = .ok (.if_icmp .eq 49, 3) := by decide +kernel
theorem dX12_commonOf_83 : decode cX12_commonOf 83 = .ok (.iload 5, 2) := by decide +kernel
theorem dX12_commonOf_85 : decode cX12_commonOf 85 = .ok (.ifCond .ne 15, 3) := by decide +kernel
theorem dX12_commonOf_88 : decode cX12_commonOf 88 = .ok (.aload_n 0, 1) := by decide +kernel
theorem dX12_commonOf_89 : decode cX12_commonOf 89 = .ok (.iload 6, 2) := by decide +kernel
theorem dX12_commonOf_91 : decode cX12_commonOf 91 = .ok (.iconst 5, 1) := by decide +kernel
theorem dX12_commonOf_92 : decode cX12_commonOf 92 = .ok (.invokevirtual 70, 3) := by decide +kernel
theorem dX12_commonOf_95 : decode cX12_commonOf 95 = .ok (.iload 4, 2) := by decide +kernel
theorem dX12_commonOf_97 : decode cX12_commonOf 97 = .ok (.if_icmp .ge 13, 3) := by decide +kernel
theorem dX12_commonOf_100 : decode cX12_commonOf 100 = .ok (.aload_n 0, 1) := by decide +kernel
theorem dX12_commonOf_101 : decode cX12_commonOf 101 = .ok (.iload 6, 2) := by decide +kernel
theorem dX12_commonOf_103 : decode cX12_commonOf 103 = .ok (.iconst 5, 1) := by decide +kernel
theorem dX12_commonOf_104 : decode cX12_commonOf 104 = .ok (.invokevirtual 70, 3) := by decide +kernel
theorem dX12_commonOf_107 : decode cX12_commonOf 107 = .ok (.goto 5, 3) := by decide +kernel
theorem dX12_commonOf_110 : decode cX12_commonOf 110 = .ok (.iload 4, 2) := by decide +kernel
theorem dX12_commonOf_112 : decode cX12_commonOf 112 = .ok (.istore 4, 2) := by decide +kernel
theorem dX12_commonOf_114 : decode cX12_commonOf 114 = .ok (.iconst 0, 1) := by decide +kernel
theorem dX12_commonOf_115 : decode cX12_commonOf 115 = .ok (.istore 5, 2) := by decide +kernel
theorem dX12_commonOf_117 : decode cX12_commonOf 117 = .ok (.aload_n 0, 1) := by decide +kernel
theorem dX12_commonOf_118 : decode cX12_commonOf 118 = .ok (.iload 6, 2) := by decide +kernel
theorem dX12_commonOf_120 : decode cX12_commonOf 120 = .ok (.iconst 4, 1) := by decide +kernel
theorem dX12_commonOf_121 : decode cX12_commonOf 121 = .ok (.invokevirtual 70, 3) := by decide +kernel
theorem dX12_commonOf_124 : decode cX12_commonOf 124 = .ok (.istore 6, 2) := by decide +kernel
theorem dX12_commonOf_126 : decode cX12_commonOf 126 = .ok (.goto (-49), 3) := by decide +kernel
theorem dX12_commonOf_129 : decode cX12_commonOf 129 = .ok (.iload 4, 2) := by decide +kernel
theorem dX12_commonOf_131 : decode cX12_commonOf 131 = .ok (.ireturn, 1) := by decide +kernel
theorem dX12_moves_0 : decode cX12_moves 0 = .ok (.aload_n 0, 1) := by decide +kernel
theorem dX12_moves_1 : decode cX12_moves 1 = .ok (.iload_n 1, 1) := by decide +kernel
theorem dX12_moves_2 : decode cX12_moves 2 = .ok (.iconst 2, 1) := by decide +kernel
theorem dX12_moves_3 : decode cX12_moves 3 = .ok (.invokevirtual 74, 3) := by decide +kernel
theorem dX12_moves_6 : decode cX12_moves 6 = .ok (.istore_n 3, 1) := by decide +kernel
theorem dX12_moves_7 : decode cX12_moves 7 = .ok (.aload_n 0, 1) := by decide +kernel
theorem dX12_moves_8 : decode cX12_moves 8 = .ok (.iload_n 1, 1) := by decide +kernel
theorem dX12_moves_9 : decode cX12_moves 9 = .ok (.iconst 1, 1) := by decide +kernel
theorem dX12_moves_10 : decode cX12_moves 10 = .ok (.invokevirtual 74, 3) := by decide +kernel
theorem dX12_moves_13 : decode cX12_moves 13 = .ok (.iload_n 2, 1) := by decide +kernel
theorem dX12_moves_14 : decode cX12_moves 14 = .ok (.if_icmp .eq 28, 3) := by decide +kernel
theorem dX12_moves_17 : decode cX12_moves 17 = .ok (.iload_n 3, 1) := by decide +kernel
theorem dX12_moves_18 : decode cX12_moves 18 = .ok (.aload_n 0, 1) := by decide +kernel
theorem dX12_moves_19 : decode cX12_moves 19 = .ok (.aload_n 0, 1) := by decide +kernel
theorem dX12_moves_20 : decode cX12_moves 20 = .ok (.iload_n 1, 1) := by decide +kernel
theorem dX12_moves_21 : decode cX12_moves 21 = .ok (.iconst 1, 1) := by decide +kernel
theorem dX12_moves_22 : decode cX12_moves 22 = .ok (.invokevirtual 74, 3) := by decide +kernel
theorem dX12_moves_25 : decode cX12_moves 25 = .ok (.iload_n 2, 1) := by decide +kernel
theorem dX12_moves_26 : decode cX12_moves 26 = .ok (.invokevirtual 226, 3) := by decide +kernel
theorem dX12_moves_29 : decode cX12_moves 29 = .ok (.if_icmp .gt 13, 3) := by decide +kernel
theorem dX12_moves_32 : decode cX12_moves 32 = .ok (.iload_n 3, 1) := by decide +kernel
theorem dX12_moves_33 : decode cX12_moves 33 = .ok (.aload_n 0, 1) := by decide +kernel
theorem dX12_moves_34 : decode cX12_moves 34 = .ok (.iload_n 2, 1) := by decide +kernel
theorem dX12_moves_35 : decode cX12_moves 35 = .ok (.iconst 1, 1) := by decide +kernel
theorem dX12_moves_36 : decode cX12_moves 36 = .ok (.invokevirtual 70, 3) := by decide +kernel
theorem dX12_moves_39 : decode cX12_moves 39 = .ok (.if_icmp .ge 9, 3) := by decide +kernel
theorem dX12_moves_42 : decode cX12_moves 42 = .ok (.aload_n 0, 1) := by decide +kernel
theorem dX12_moves_43 : decode cX12_moves 43 = .ok (.iconst 5, 1) := by decide +kernel
theorem dX12_moves_44 : decode cX12_moves 44 = .ok (.invokevirtual 198, 3) := by decide +kernel
theorem dX12_moves_47 : decode cX12_moves 47 = .ok (.ireturn, 1) := by decide +kernel
theorem dX12_moves_48 : decode cX12_moves 48 = .ok (.aload_n 0, 1) := by decide +kernel
theorem dX12_moves_49 : decode cX12_moves 49 = .ok (.invokevirtual 180, 3) := by decide +kernel
theorem dX12_moves_52 : decode cX12_moves 52 = .ok (.aload_n 0, 1) := by decide +kernel
theorem dX12_moves_53 : decode cX12_moves 53 = .ok (.getfield 13, 3) := by decide +kernel
theorem dX12_moves_56 : decode cX12_moves 56 = .ok (.iload_n 1, 1) := by decide +kernel
theorem dX12_moves_57 : decode cX12_moves 57 = .ok (.invokestatic 63, 3) := by decide +kernel
theorem dX12_moves_60 : decode cX12_moves 60 = .ok (.iconst 1, 1) := by decide +kernel
theorem dX12_moves_61 : decode cX12_moves 61 = .ok (.iadd, 1) := by decide +kernel
theorem dX12_moves_62 : decode cX12_moves 62 = .ok (.iload_n 2, 1) := by decide +kernel
theorem dX12_moves_63 : decode cX12_moves 63 = .ok (.iastore, 1) := by decide +kernel
theorem dX12_moves_64 : decode cX12_moves 64 = .ok (.aload_n 0, 1) := by decide +kernel
theorem dX12_moves_65 : decode cX12_moves 65 = .ok (.getfield 13, 3) := by decide +kernel
theorem dX12_moves_68 : decode cX12_moves 68 = .ok (.iload_n 1, 1) := by decide +kernel
theorem dX12_moves_69 : decode cX12_moves 69 = .ok (.invokestatic 63, 3) := by decide +kernel
theorem dX12_moves_72 : decode cX12_moves 72 = .ok (.iconst 3, 1) := by decide +kernel
theorem dX12_moves_73 : decode cX12_moves 73 = .ok (.iadd, 1) := by decide +kernel
theorem dX12_moves_74 : decode cX12_moves 74 = .ok (.aload_n 0, 1) := by decide +kernel
theorem dX12_moves_75 : decode cX12_moves 75 = .ok (.getfield 13, 3) := by decide +kernel
theorem dX12_moves_78 : decode cX12_moves 78 = .ok (.iconst 0, 1) := by decide +kernel
theorem dX12_moves_79 : decode cX12_moves 79 = .ok (.iaload, 1) := by decide +kernel
theorem dX12_moves_80 : decode cX12_moves 80 = .ok (.iastore, 1) := by decide +kernel
theorem dX12_moves_81 : decode cX12_moves 81 = .ok (.iload_n 3, 1) := by decide +kernel
theorem dX12_moves_82 : decode cX12_moves 82 = .ok (.ireturn, 1) := by decide +kernel
theorem dX12_move_0 : decode cX12_move 0 = .ok (.aload_n 0, 1) := by decide +kernel
theorem dX12_move_1 : decode cX12_move 1 = .ok (.aload_n 0, 1) := by decide +kernel
theorem dX12_move_2 : decode cX12_move 2 = .ok (.iload_n 1, 1) := by decide +kernel
theorem dX12_move_3 : decode cX12_move 3 = .ok (.invokevirtual 77, 3) := by decide +kernel
theorem dX12_move_6 : decode cX12_move 6 = .ok (.ifCond .eq 15, 3) := by decide +kernel
theorem dX12_move_9 : decode cX12_move 9 = .ok (.aload_n 0, 1) := by decide +kernel
theorem dX12_move_10 : decode cX12_move 10 = .ok (.iload_n 2, 1) := by decide +kernel
theorem dX12_move_11 : decode cX12_move 11 = .ok (.invokevirtual 134, 3) := by decide +kernel
theorem dX12_move_14 : decode cX12_move 14 = .ok (.ifCond .eq 7, 3) := by decide +kernel
theorem dX12_move_17 : decode cX12_move 17 = .ok (.iconst 0, 1) := by decide +kernel
theorem dX12_move_18 : decode cX12_move 18 = .ok (.goto 4, 3) := by decide +kernel
theorem dX12_move_21 : decode cX12_move 21 = .ok (.iconst 1, 1) := by decide +kernel
theorem dX12_move_22 : decode cX12_move 22 = .ok (.putfield 60, 3) := by decide +kernel
theorem dX12_move_25 : decode cX12_move 25 = .ok (.aload_n 0, 1) := by decide +kernel
theorem dX12_move_26 : decode cX12_move 26 = .ok (.getfield 60, 3) := by decide +kernel
theorem dX12_move_29 : decode cX12_move 29 = .ok (.ifCond .le 7, 3) := by decide +kernel
theorem dX12_move_32 : decode cX12_move 32 = .ok (.iconst 0, 1) := by decide +kernel
theorem dX12_move_33 : decode cX12_move 33 = .ok (.goto 9, 3) := by decide +kernel
theorem dX12_move_36 : decode cX12_move 36 = .ok (.aload_n 0, 1) := by decide +kernel
theorem dX12_move_37 : decode cX12_move 37 = .ok (.iload_n 1, 1) := by decide +kernel
theorem dX12_move_38 : decode cX12_move 38 = .ok (.iload_n 2, 1) := by decide +kernel
theorem dX12_move_39 : decode cX12_move 39 = .ok (.invokevirtual 229, 3) := by decide +kernel
theorem dX12_move_42 : decode cX12_move 42 = .ok (.ireturn, 1) := by decide +kernel
theorem dX12_forks_0 : decode cX12_forks 0 = .ok (.aload_n 0, 1) := by decide +kernel
theorem dX12_forks_1 : decode cX12_forks 1 = .ok (.invokevirtual 147, 3) := by decide +kernel
theorem dX12_forks_4 : decode cX12_forks 4 = .ok (.iconst 4, 1) := by decide +kernel
theorem dX12_forks_5 : decode cX12_forks 5 = .ok (.if_icmp .ne 9, 3) := by decide +kernel
theorem dX12_forks_8 : decode cX12_forks 8 = .ok (.aload_n 0, 1) := by decide +kernel
theorem dX12_forks_9 : decode cX12_forks 9 = .ok (.iconst 2, 1) := by decide +kernel
theorem dX12_forks_10 : decode cX12_forks 10 = .ok (.invokevirtual 198, 3) := by decide +kernel
theorem dX12_forks_13 : decode cX12_forks 13 = .ok (.ireturn, 1) := by decide +kernel
theorem dX12_forks_14 : decode cX12_forks 14 = .ok (.aload_n 0, 1) := by decide +kernel
theorem dX12_forks_15 : decode cX12_forks 15 = .ok (.invokevirtual 180, 3) := by decide +kernel
theorem dX12_forks_18 : decode cX12_forks 18 = .ok (.iconst 0, 1) := by decide +kernel
theorem dX12_forks_19 : decode cX12_forks 19 = .ok (.istore_n 2, 1) := by decide +kernel
theorem dX12_forks_20 : decode cX12_forks 20 = .ok (.aload_n 0, 1) := by decide +kernel
theorem dX12_forks_21 : decode cX12_forks 21 = .ok (.iload_n 2, 1) := by decide +kernel
theorem dX12_forks_22 : decode cX12_forks 22 = .ok (.invokevirtual 134, 3) := by decide +kernel
theorem dX12_forks_25 : decode cX12_forks 25 = .ok (.ifCond .eq 9, 3) := by decide +kernel
theorem dX12_forks_28 : decode cX12_forks 28 = .ok (.iinc 2 1, 3) := by decide +kernel
theorem dX12_forks_31 : decode cX12_forks 31 = .ok (.goto (-11), 3) := by decide +kernel
theorem dX12_forks_34 : decode cX12_forks 34 = .ok (.iconst 0, 1) := by decide +kernel
theorem dX12_forks_35 : decode cX12_forks 35 = .ok (.istore_n 3, 1) := by decide +kernel
theorem dX12_forks_36 : decode cX12_forks 36 = .ok (.iload_n 3, 1) := by decide +kernel
theorem dX12_forks_37 : decode cX12_forks 37 = .ok (.bipush 7, 2) := by decide +kernel
theorem dX12_forks_39 : decode cX12_forks 39 = .ok (.if_icmp .ge 26, 3) := by decide +kernel
theorem dX12_forks_42 : decode cX12_forks 42 = .ok (.aload_n 0, 1) := by decide +kernel
theorem dX12_forks_43 : decode cX12_forks 43 = .ok (.getfield 13, 3) := by decide +kernel
theorem dX12_forks_46 : decode cX12_forks 46 = .ok (.iload_n 2, 1) := by decide +kernel
theorem dX12_forks_47 : decode cX12_forks 47 = .ok (.invokestatic 56, 3) := by decide +kernel
theorem dX12_forks_50 : decode cX12_forks 50 = .ok (.iload_n 3, 1) := by decide +kernel
theorem dX12_forks_51 : decode cX12_forks 51 = .ok (.iadd, 1) := by decide +kernel
theorem dX12_forks_52 : decode cX12_forks 52 = .ok (.aload_n 0, 1) := by decide +kernel
theorem dX12_forks_53 : decode cX12_forks 53 = .ok (.iload_n 1, 1) := by decide +kernel
theorem dX12_forks_54 : decode cX12_forks 54 = .ok (.iload_n 3, 1) := by decide +kernel
theorem dX12_forks_55 : decode cX12_forks 55 = .ok (.invokevirtual 70, 3) := by decide +kernel
theorem dX12_forks_58 : decode cX12_forks 58 = .ok (.iastore, 1) := by decide +kernel
theorem dX12_forks_59 : decode cX12_forks 59 = .ok (.iinc 3 1, 3) := by decide +kernel
theorem dX12_forks_62 : decode cX12_forks 62 = .ok (.goto (-26), 3) := by decide +kernel
theorem dX12_forks_65 : decode cX12_forks 65 = .ok (.aload_n 0, 1) := by decide +kernel
theorem dX12_forks_66 : decode cX12_forks 66 = .ok (.getfield 13, 3) := by decide +kernel
theorem dX12_forks_69 : decode cX12_forks 69 = .ok (.iload_n 2, 1) := by decide +kernel
theorem dX12_forks_70 : decode cX12_forks 70 = .ok (.invokestatic 56, 3) := by decide +kernel
theorem dX12_forks_73 : decode cX12_forks 73 = .ok (.iconst 4, 1) := by decide +kernel
theorem dX12_forks_74 : decode cX12_forks 74 = .ok (.iadd, 1) := by decide +kernel
theorem dX12_forks_75 : decode cX12_forks 75 = .ok (.iload_n 1, 1) := by decide +kernel
theorem dX12_forks_76 : decode cX12_forks 76 = .ok (.iastore, 1) := by decide +kernel
theorem dX12_forks_77 : decode cX12_forks 77 = .ok (.aload_n 0, 1) := by decide +kernel
theorem dX12_forks_78 : decode cX12_forks 78 = .ok (.getfield 13, 3) := by decide +kernel
theorem dX12_forks_81 : decode cX12_forks 81 = .ok (.iload_n 2, 1) := by decide +kernel
theorem dX12_forks_82 : decode cX12_forks 82 = .ok (.invokestatic 56, 3) := by decide +kernel
theorem dX12_forks_85 : decode cX12_forks 85 = .ok (.iconst 5, 1) := by decide +kernel
theorem dX12_forks_86 : decode cX12_forks 86 = .ok (.iadd, 1) := by decide +kernel
theorem dX12_forks_87 : decode cX12_forks 87 = .ok (.aload_n 0, 1) := by decide +kernel
theorem dX12_forks_88 : decode cX12_forks 88 = .ok (.iload_n 1, 1) := by decide +kernel
theorem dX12_forks_89 : decode cX12_forks 89 = .ok (.invokevirtual 163, 3) := by decide +kernel
theorem dX12_forks_92 : decode cX12_forks 92 = .ok (.iastore, 1) := by decide +kernel
theorem dX12_forks_93 : decode cX12_forks 93 = .ok (.aload_n 0, 1) := by decide +kernel
theorem dX12_forks_94 : decode cX12_forks 94 = .ok (.getfield 13, 3) := by decide +kernel
theorem dX12_forks_97 : decode cX12_forks 97 = .ok (.iload_n 2, 1) := by decide +kernel
theorem dX12_forks_98 : decode cX12_forks 98 = .ok (.invokestatic 56, 3) := by decide +kernel
theorem dX12_forks_101 : decode cX12_forks 101 = .ok (.bipush 6, 2) := by decide +kernel
theorem dX12_forks_103 : decode cX12_forks 103 = .ok (.iadd, 1) := by decide +kernel
theorem dX12_forks_104 : decode cX12_forks 104 = .ok (.iconst 0, 1) := by decide +kernel
theorem dX12_forks_105 : decode cX12_forks 105 = .ok (.iastore, 1) := by decide +kernel
theorem dX12_forks_106 : decode cX12_forks 106 = .ok (.iconst 0, 1) := by decide +kernel
theorem dX12_forks_107 : decode cX12_forks 107 = .ok (.istore_n 3, 1) := by decide +kernel
theorem dX12_forks_108 : decode cX12_forks 108 = .ok (.iload_n 3, 1) := by decide +kernel
theorem dX12_forks_109 : decode cX12_forks 109 = .ok (.aload_n 0, 1) := by decide +kernel
theorem dX12_forks_110 : decode cX12_forks 110 = .ok (.iload_n 1, 1) := by decide +kernel
theorem dX12_forks_111 : decode cX12_forks 111 = .ok (.iconst 2, 1) := by decide +kernel
theorem dX12_forks_112 : decode cX12_forks 112 = .ok (.invokevirtual 70, 3) := by decide +kernel
theorem dX12_forks_115 : decode cX12_forks 115 = .ok (.if_icmp .ge 65, 3) := by decide +kernel
theorem dX12_forks_118 : decode cX12_forks 118 = .ok (.aload_n 0, 1) := by decide +kernel
theorem dX12_forks_119 : decode cX12_forks 119 = .ok (.getfield 13, 3) := by decide +kernel
theorem dX12_forks_122 : decode cX12_forks 122 = .ok (.sipush 190, 3) := by decide +kernel
theorem dX12_forks_125 : decode cX12_forks 125 = .ok (.iload_n 2, 1) := by decide +kernel
theorem dX12_forks_126 : decode cX12_forks 126 = .ok (.iload_n 3, 1) := by decide +kernel
theorem dX12_forks_127 : decode cX12_forks 127 = .ok (.invokestatic 81, 3) := by decide +kernel
theorem dX12_forks_130 : decode cX12_forks 130 = .ok (.iadd, 1) := by decide +kernel
theorem dX12_forks_131 : decode cX12_forks 131 = .ok (.aload_n 0, 1) := by decide +kernel
theorem dX12_forks_132 : decode cX12_forks 132 = .ok (.getfield 13, 3) := by decide +kernel
theorem dX12_forks_135 : decode cX12_forks 135 = .ok (.sipush 190, 3) := by decide +kernel
theorem dX12_forks_138 : decode cX12_forks 138 = .ok (.iload_n 1, 1) := by decide +kernel
theorem dX12_forks_139 : decode cX12_forks 139 = .ok (.iload_n 3, 1) := by decide +kernel
theorem dX12_forks_140 : decode cX12_forks 140 = .ok (.invokestatic 81, 3) := by decide +kernel
theorem dX12_forks_143 : decode cX12_forks 143 = .ok (.iadd, 1) := by decide +kernel
theorem dX12_forks_144 : decode cX12_forks 144 = .ok (.iaload, 1) := by decide +kernel
theorem dX12_forks_145 : decode cX12_forks 145 = .ok (.iastore, 1) := by decide +kernel
theorem dX12_forks_146 : decode cX12_forks 146 = .ok (.aload_n 0, 1) := by decide +kernel
theorem dX12_forks_147 : decode cX12_forks 147 = .ok (.getfield 13, 3) := by decide +kernel
theorem dX12_forks_150 : decode cX12_forks 150 = .ok (.sipush 7406, 3) := by decide +kernel
theorem dX12_forks_153 : decode cX12_forks 153 = .ok (.iload_n 2, 1) := by decide +kernel
theorem dX12_forks_154 : decode cX12_forks 154 = .ok (.iload_n 3, 1) := by decide +kernel
theorem dX12_forks_155 : decode cX12_forks 155 = .ok (.invokestatic 81, 3) := by decide +kernel
theorem dX12_forks_158 : decode cX12_forks 158 = .ok (.iadd, 1) := by decide +kernel
theorem dX12_forks_159 : decode cX12_forks 159 = .ok (.aload_n 0, 1) := by decide +kernel
theorem dX12_forks_160 : decode cX12_forks 160 = .ok (.getfield 13, 3) := by decide +kernel
theorem dX12_forks_163 : decode cX12_forks 163 = .ok (.sipush 7406, 3) := by decide +kernel
theorem dX12_forks_166 : decode cX12_forks 166 = .ok (.iload_n 1, 1) := by decide +kernel
theorem dX12_forks_167 : decode cX12_forks 167 = .ok (.iload_n 3, 1) := by decide +kernel
theorem dX12_forks_168 : decode cX12_forks 168 = .ok (.invokestatic 81, 3) := by decide +kernel
theorem dX12_forks_171 : decode cX12_forks 171 = .ok (.iadd, 1) := by decide +kernel
theorem dX12_forks_172 : decode cX12_forks 172 = .ok (.iaload, 1) := by decide +kernel
theorem dX12_forks_173 : decode cX12_forks 173 = .ok (.iastore, 1) := by decide +kernel
theorem dX12_forks_174 : decode cX12_forks 174 = .ok (.iinc 3 1, 3) := by decide +kernel
theorem dX12_forks_177 : decode cX12_forks 177 = .ok (.goto (-69), 3) := by decide +kernel
theorem dX12_forks_180 : decode cX12_forks 180 = .ok (.iload_n 2, 1) := by decide +kernel
theorem dX12_forks_181 : decode cX12_forks 181 = .ok (.ireturn, 1) := by decide +kernel
theorem dX12_fork_0 : decode cX12_fork 0 = .ok (.aload_n 0, 1) := by decide +kernel
theorem dX12_fork_1 : decode cX12_fork 1 = .ok (.aload_n 0, 1) := by decide +kernel
theorem dX12_fork_2 : decode cX12_fork 2 = .ok (.iload_n 1, 1) := by decide +kernel
theorem dX12_fork_3 : decode cX12_fork 3 = .ok (.invokevirtual 134, 3) := by decide +kernel
theorem dX12_fork_6 : decode cX12_fork 6 = .ok (.ifCond .eq 7, 3) := by decide +kernel
theorem dX12_fork_9 : decode cX12_fork 9 = .ok (.iconst 0, 1) := by decide +kernel
theorem dX12_fork_10 : decode cX12_fork 10 = .ok (.goto 4, 3) := by decide +kernel
theorem dX12_fork_13 : decode cX12_fork 13 = .ok (.iconst 1, 1) := by decide +kernel
theorem dX12_fork_14 : decode cX12_fork 14 = .ok (.putfield 60, 3) := by decide +kernel
theorem dX12_fork_17 : decode cX12_fork 17 = .ok (.aload_n 0, 1) := by decide +kernel
theorem dX12_fork_18 : decode cX12_fork 18 = .ok (.getfield 60, 3) := by decide +kernel
theorem dX12_fork_21 : decode cX12_fork 21 = .ok (.ifCond .le 7, 3) := by decide +kernel
theorem dX12_fork_24 : decode cX12_fork 24 = .ok (.iconst 0, 1) := by decide +kernel
theorem dX12_fork_25 : decode cX12_fork 25 = .ok (.goto 8, 3) := by decide +kernel
theorem dX12_fork_28 : decode cX12_fork 28 = .ok (.aload_n 0, 1) := by decide +kernel
theorem dX12_fork_29 : decode cX12_fork 29 = .ok (.iload_n 1, 1) := by decide +kernel
theorem dX12_fork_30 : decode cX12_fork 30 = .ok (.invokevirtual 232, 3) := by decide +kernel
theorem dX12_fork_33 : decode cX12_fork 33 = .ok (.ireturn, 1) := by decide +kernel
theorem dX12_whyStays_0 : decode cX12_whyStays 0 = .ok (.iload_n 1, 1) := by decide +kernel
theorem dX12_whyStays_1 : decode cX12_whyStays 1 = .ok (.ifCond .ne 8, 3) := by decide +kernel
theorem dX12_whyStays_4 : decode cX12_whyStays 4 = .ok (.bipush 6, 2) := by decide +kernel
theorem dX12_whyStays_6 : decode cX12_whyStays 6 = .ok (.goto 17, 3) := by decide +kernel
theorem dX12_whyStays_9 : decode cX12_whyStays 9 = .ok (.aload_n 0, 1) := by decide +kernel
theorem dX12_whyStays_10 : decode cX12_whyStays 10 = .ok (.iload_n 1, 1) := by decide +kernel
theorem dX12_whyStays_11 : decode cX12_whyStays 11 = .ok (.invokevirtual 166, 3) := by decide +kernel
theorem dX12_whyStays_14 : decode cX12_whyStays 14 = .ok (.ifCond .le 8, 3) := by decide +kernel
theorem dX12_whyStays_17 : decode cX12_whyStays 17 = .ok (.bipush 7, 2) := by decide +kernel
theorem dX12_whyStays_19 : decode cX12_whyStays 19 = .ok (.goto 4, 3) := by decide +kernel
theorem dX12_whyStays_22 : decode cX12_whyStays 22 = .ok (.iconst 0, 1) := by decide +kernel
theorem dX12_whyStays_23 : decode cX12_whyStays 23 = .ok (.ireturn, 1) := by decide +kernel
theorem dX12_hasLow_0 : decode cX12_hasLow 0 = .ok (.iconst 0, 1) := by decide +kernel
theorem dX12_hasLow_1 : decode cX12_hasLow 1 = .ok (.istore_n 2, 1) := by decide +kernel
theorem dX12_hasLow_2 : decode cX12_hasLow 2 = .ok (.iconst 0, 1) := by decide +kernel
theorem dX12_hasLow_3 : decode cX12_hasLow 3 = .ok (.istore_n 3, 1) := by decide +kernel
theorem dX12_hasLow_4 : decode cX12_hasLow 4 = .ok (.iload_n 3, 1) := by decide +kernel
theorem dX12_hasLow_5 : decode cX12_hasLow 5 = .ok (.bipush 6, 2) := by decide +kernel
theorem dX12_hasLow_7 : decode cX12_hasLow 7 = .ok (.if_icmp .ge 43, 3) := by decide +kernel
theorem dX12_hasLow_10 : decode cX12_hasLow 10 = .ok (.iload_n 2, 1) := by decide +kernel
theorem dX12_hasLow_11 : decode cX12_hasLow 11 = .ok (.ifCond .ne 27, 3) := by decide +kernel
theorem dX12_hasLow_14 : decode cX12_hasLow 14 = .ok (.aload_n 0, 1) := by decide +kernel
theorem dX12_hasLow_15 : decode cX12_hasLow 15 = .ok (.iload_n 3, 1) := by decide +kernel
theorem dX12_hasLow_16 : decode cX12_hasLow 16 = .ok (.iload_n 1, 1) := by decide +kernel
theorem dX12_hasLow_17 : decode cX12_hasLow 17 = .ok (.invokevirtual 93, 3) := by decide +kernel
theorem dX12_hasLow_20 : decode cX12_hasLow 20 = .ok (.ifCond .eq 22, 3) := by decide +kernel
theorem dX12_hasLow_23 : decode cX12_hasLow 23 = .ok (.aload_n 0, 1) := by decide +kernel
theorem dX12_hasLow_24 : decode cX12_hasLow 24 = .ok (.iload_n 3, 1) := by decide +kernel
theorem dX12_hasLow_25 : decode cX12_hasLow 25 = .ok (.iconst 2, 1) := by decide +kernel
theorem dX12_hasLow_26 : decode cX12_hasLow 26 = .ok (.invokevirtual 74, 3) := by decide +kernel
theorem dX12_hasLow_29 : decode cX12_hasLow 29 = .ok (.aload_n 0, 1) := by decide +kernel
theorem dX12_hasLow_30 : decode cX12_hasLow 30 = .ok (.iload_n 1, 1) := by decide +kernel
theorem dX12_hasLow_31 : decode cX12_hasLow 31 = .ok (.iconst 5, 1) := by decide +kernel
theorem dX12_hasLow_32 : decode cX12_hasLow 32 = .ok (.invokevirtual 70, 3) := by decide +kernel
theorem dX12_hasLow_35 : decode cX12_hasLow 35 = .ok (.if_icmp .ge 7, 3) := by decide +kernel
theorem dX12_hasLow_38 : decode cX12_hasLow 38 = .ok (.iconst 1, 1) := by decide +kernel
theorem dX12_hasLow_39 : decode cX12_hasLow 39 = .ok (.goto 4, 3) := by decide +kernel
theorem dX12_hasLow_42 : decode cX12_hasLow 42 = .ok (.iconst 0, 1) := by decide +kernel
theorem dX12_hasLow_43 : decode cX12_hasLow 43 = .ok (.istore_n 2, 1) := by decide +kernel
theorem dX12_hasLow_44 : decode cX12_hasLow 44 = .ok (.iinc 3 1, 3) := by decide +kernel
theorem dX12_hasLow_47 : decode cX12_hasLow 47 = .ok (.goto (-43), 3) := by decide +kernel
theorem dX12_hasLow_50 : decode cX12_hasLow 50 = .ok (.iload_n 2, 1) := by decide +kernel
theorem dX12_hasLow_51 : decode cX12_hasLow 51 = .ok (.ireturn, 1) := by decide +kernel
theorem dX12_merges_0 : decode cX12_merges 0 = .ok (.aload_n 0, 1) := by decide +kernel
theorem dX12_merges_1 : decode cX12_merges 1 = .ok (.iload_n 1, 1) := by decide +kernel
theorem dX12_merges_2 : decode cX12_merges 2 = .ok (.invokevirtual 235, 3) := by decide +kernel
theorem dX12_merges_5 : decode cX12_merges 5 = .ok (.ifCond .le 11, 3) := by decide +kernel
theorem dX12_merges_8 : decode cX12_merges 8 = .ok (.aload_n 0, 1) := by decide +kernel
theorem dX12_merges_9 : decode cX12_merges 9 = .ok (.iload_n 1, 1) := by decide +kernel
theorem dX12_merges_10 : decode cX12_merges 10 = .ok (.invokevirtual 235, 3) := by decide +kernel
theorem dX12_merges_13 : decode cX12_merges 13 = .ok (.goto 17, 3) := by decide +kernel
theorem dX12_merges_16 : decode cX12_merges 16 = .ok (.aload_n 0, 1) := by decide +kernel
theorem dX12_merges_17 : decode cX12_merges 17 = .ok (.iload_n 1, 1) := by decide +kernel
theorem dX12_merges_18 : decode cX12_merges 18 = .ok (.invokevirtual 238, 3) := by decide +kernel
theorem dX12_merges_21 : decode cX12_merges 21 = .ok (.ifCond .eq 8, 3) := by decide +kernel
theorem dX12_merges_24 : decode cX12_merges 24 = .ok (.bipush 9, 2) := by decide +kernel
theorem dX12_merges_26 : decode cX12_merges 26 = .ok (.goto 4, 3) := by decide +kernel
theorem dX12_merges_29 : decode cX12_merges 29 = .ok (.iconst 0, 1) := by decide +kernel
theorem dX12_merges_30 : decode cX12_merges 30 = .ok (.istore_n 2, 1) := by decide +kernel
theorem dX12_merges_31 : decode cX12_merges 31 = .ok (.iload_n 2, 1) := by decide +kernel
theorem dX12_merges_32 : decode cX12_merges 32 = .ok (.ifCond .le 9, 3) := by decide +kernel
theorem dX12_merges_35 : decode cX12_merges 35 = .ok (.aload_n 0, 1) := by decide +kernel
theorem dX12_merges_36 : decode cX12_merges 36 = .ok (.iload_n 2, 1) := by decide +kernel
theorem dX12_merges_37 : decode cX12_merges 37 = .ok (.invokevirtual 198, 3) := by decide +kernel
theorem dX12_merges_40 : decode cX12_merges 40 = .ok (.ireturn, 1) := by decide +kernel
theorem dX12_merges_41 : decode cX12_merges 41 = .ok (.aload_n 0, 1) := by decide +kernel
theorem dX12_merges_42 : decode cX12_merges 42 = .ok (.invokevirtual 180, 3) := by decide +kernel
theorem dX12_merges_45 : decode cX12_merges 45 = .ok (.aload_n 0, 1) := by decide +kernel
theorem dX12_merges_46 : decode cX12_merges 46 = .ok (.iload_n 1, 1) := by decide +kernel
theorem dX12_merges_47 : decode cX12_merges 47 = .ok (.iconst 4, 1) := by decide +kernel
theorem dX12_merges_48 : decode cX12_merges 48 = .ok (.invokevirtual 70, 3) := by decide +kernel
theorem dX12_merges_51 : decode cX12_merges 51 = .ok (.istore_n 3, 1) := by decide +kernel
theorem dX12_merges_52 : decode cX12_merges 52 = .ok (.aload_n 0, 1) := by decide +kernel
theorem dX12_merges_53 : decode cX12_merges 53 = .ok (.iload_n 3, 1) := by decide +kernel
theorem dX12_merges_54 : decode cX12_merges 54 = .ok (.invokevirtual 163, 3) := by decide +kernel
theorem dX12_merges_57 : decode cX12_merges 57 = .ok (.istore 4, 2) := by decide +kernel
theorem dX12_merges_59 : decode cX12_merges 59 = .ok (.aload_n 0, 1) := by decide +kernel
theorem dX12_merges_60 : decode cX12_merges 60 = .ok (.iload_n 1, 1) := by decide +kernel
theorem dX12_merges_61 : decode cX12_merges 61 = .ok (.iconst 5, 1) := by decide +kernel
theorem dX12_merges_62 : decode cX12_merges 62 = .ok (.invokevirtual 70, 3) := by decide +kernel
theorem dX12_merges_65 : decode cX12_merges 65 = .ok (.aload_n 0, 1) := by decide +kernel
theorem dX12_merges_66 : decode cX12_merges 66 = .ok (.iload_n 1, 1) := by decide +kernel
theorem dX12_merges_67 : decode cX12_merges 67 = .ok (.iconst 1, 1) := by decide +kernel
theorem dX12_merges_68 : decode cX12_merges 68 = .ok (.invokevirtual 70, 3) := by decide +kernel
theorem dX12_merges_71 : decode cX12_merges 71 = .ok (.if_icmp .le 12, 3) := by decide +kernel
theorem dX12_merges_74 : decode cX12_merges 74 = .ok (.aload_n 0, 1) := by decide +kernel
theorem dX12_merges_75 : decode cX12_merges 75 = .ok (.iload_n 1, 1) := by decide +kernel
theorem dX12_merges_76 : decode cX12_merges 76 = .ok (.iconst 5, 1) := by decide +kernel
theorem dX12_merges_77 : decode cX12_merges 77 = .ok (.invokevirtual 70, 3) := by decide +kernel
theorem dX12_merges_80 : decode cX12_merges 80 = .ok (.goto 9, 3) := by decide +kernel
theorem dX12_merges_83 : decode cX12_merges 83 = .ok (.aload_n 0, 1) := by decide +kernel
theorem dX12_merges_84 : decode cX12_merges 84 = .ok (.iload_n 1, 1) := by decide +kernel
theorem dX12_merges_85 : decode cX12_merges 85 = .ok (.iconst 1, 1) := by decide +kernel
theorem dX12_merges_86 : decode cX12_merges 86 = .ok (.invokevirtual 70, 3) := by decide +kernel
theorem dX12_merges_89 : decode cX12_merges 89 = .ok (.istore 5, 2) := by decide +kernel
theorem dX12_merges_91 : decode cX12_merges 91 = .ok (.iconst 0, 1) := by decide +kernel
theorem dX12_merges_92 : decode cX12_merges 92 = .ok (.istore 6, 2) := by decide +kernel
theorem dX12_merges_94 : decode cX12_merges 94 = .ok (.iload 5, 2) := by decide +kernel
theorem dX12_merges_96 : decode cX12_merges 96 = .ok (.aload_n 0, 1) := by decide +kernel
theorem dX12_merges_97 : decode cX12_merges 97 = .ok (.iload_n 1, 1) := by decide +kernel
theorem dX12_merges_98 : decode cX12_merges 98 = .ok (.iconst 1, 1) := by decide +kernel
theorem dX12_merges_99 : decode cX12_merges 99 = .ok (.invokevirtual 70, 3) := by decide +kernel
theorem dX12_merges_102 : decode cX12_merges 102 = .ok (.isub, 1) := by decide +kernel
theorem dX12_merges_103 : decode cX12_merges 103 = .ok (.istore 7, 2) := by decide +kernel
theorem dX12_merges_105 : decode cX12_merges 105 = .ok (.iload 7, 2) := by decide +kernel
theorem dX12_merges_107 : decode cX12_merges 107 = .ok (.aload_n 0, 1) := by decide +kernel
theorem dX12_merges_108 : decode cX12_merges 108 = .ok (.iload_n 1, 1) := by decide +kernel
theorem dX12_merges_109 : decode cX12_merges 109 = .ok (.iconst 2, 1) := by decide +kernel
theorem dX12_merges_110 : decode cX12_merges 110 = .ok (.invokevirtual 70, 3) := by decide +kernel
theorem dX12_merges_113 : decode cX12_merges 113 = .ok (.if_icmp .ge 39, 3) := by decide +kernel
theorem dX12_merges_116 : decode cX12_merges 116 = .ok (.aload_n 0, 1) := by decide +kernel
theorem dX12_merges_117 : decode cX12_merges 117 = .ok (.iload_n 3, 1) := by decide +kernel
theorem dX12_merges_118 : decode cX12_merges 118 = .ok (.aload_n 0, 1) := by decide +kernel
theorem dX12_merges_119 : decode cX12_merges 119 = .ok (.iload_n 1, 1) := by decide +kernel
theorem dX12_merges_120 : decode cX12_merges 120 = .ok (.iload 7, 2) := by decide +kernel
theorem dX12_merges_122 : decode cX12_merges 122 = .ok (.invokevirtual 106, 3) := by decide +kernel
theorem dX12_merges_125 : decode cX12_merges 125 = .ok (.aload_n 0, 1) := by decide +kernel
theorem dX12_merges_126 : decode cX12_merges 126 = .ok (.getfield 13, 3) := by decide +kernel
theorem dX12_merges_129 : decode cX12_merges 129 = .ok (.sipush 7406, 3) := by decide +kernel
theorem dX12_merges_132 : decode cX12_merges 132 = .ok (.iload_n 1, 1) := by decide +kernel
theorem dX12_merges_133 : decode cX12_merges 133 = .ok (.iload 7, 2) := by decide +kernel
theorem dX12_merges_135 : decode cX12_merges 135 = .ok (.invokestatic 81, 3) := by decide +kernel
theorem dX12_merges_138 : decode cX12_merges 138 = .ok (.iadd, 1) := by decide +kernel
theorem dX12_merges_139 : decode cX12_merges 139 = .ok (.iaload, 1) := by decide +kernel
theorem dX12_merges_140 : decode cX12_merges 140 = .ok (.invokevirtual 187, 3) := by decide +kernel
theorem dX12_merges_143 : decode cX12_merges 143 = .ok (.iinc 6 1, 3) := by decide +kernel
theorem dX12_merges_146 : decode cX12_merges 146 = .ok (.iinc 7 1, 3) := by decide +kernel
theorem dX12_merges_149 : decode cX12_merges 149 = .ok (.goto (-44), 3) := by decide +kernel
theorem dX12_merges_152 : decode cX12_merges 152 = .ok (.iconst 0, 1) := by decide +kernel
theorem dX12_merges_153 : decode cX12_merges 153 = .ok (.istore 7, 2) := by decide +kernel
theorem dX12_merges_155 : decode cX12_merges 155 = .ok (.iload 7, 2) := by decide +kernel
theorem dX12_merges_157 : decode cX12_merges 157 = .ok (.bipush 6, 2) := by decide +kernel
theorem dX12_merges_159 : decode cX12_merges 159 = .ok (.if_icmp .ge 57, 3) := by decide +kernel
theorem dX12_merges_162 : decode cX12_merges 162 = .ok (.aload_n 0, 1) := by decide +kernel
theorem dX12_merges_163 : decode cX12_merges 163 = .ok (.iload 7, 2) := by decide +kernel
theorem dX12_merges_165 : decode cX12_merges 165 = .ok (.iload_n 1, 1) := by decide +kernel
theorem dX12_merges_166 : decode cX12_merges 166 = .ok (.invokevirtual 93, 3) := by decide +kernel
theorem dX12_merges_169 : decode cX12_merges 169 = .ok (.ifCond .eq 41, 3) := by decide +kernel
theorem dX12_merges_172 : decode cX12_merges 172 = .ok (.aload_n 0, 1) := by decide +kernel
theorem dX12_merges_173 : decode cX12_merges 173 = .ok (.getfield 13, 3) := by decide +kernel
theorem dX12_merges_176 : decode cX12_merges 176 = .ok (.iload 7, 2) := by decide +kernel
theorem dX12_merges_178 : decode cX12_merges 178 = .ok (.invokestatic 63, 3) := by decide +kernel
theorem dX12_merges_181 : decode cX12_merges 181 = .ok (.iconst 1, 1) := by decide +kernel
theorem dX12_merges_182 : decode cX12_merges 182 = .ok (.iadd, 1) := by decide +kernel
theorem dX12_merges_183 : decode cX12_merges 183 = .ok (.iload_n 3, 1) := by decide +kernel
theorem dX12_merges_184 : decode cX12_merges 184 = .ok (.iastore, 1) := by decide +kernel
theorem dX12_merges_185 : decode cX12_merges 185 = .ok (.aload_n 0, 1) := by decide +kernel
theorem dX12_merges_186 : decode cX12_merges 186 = .ok (.getfield 13, 3) := by decide +kernel
theorem dX12_merges_189 : decode cX12_merges 189 = .ok (.iload 7, 2) := by decide +kernel
theorem dX12_merges_191 : decode cX12_merges 191 = .ok (.invokestatic 63, 3) := by decide +kernel
theorem dX12_merges_194 : decode cX12_merges 194 = .ok (.iconst 2, 1) := by decide +kernel
theorem dX12_merges_195 : decode cX12_merges 195 = .ok (.iadd, 1) := by decide +kernel
theorem dX12_merges_196 : decode cX12_merges 196 = .ok (.iload 4, 2) := by decide +kernel
theorem dX12_merges_198 : decode cX12_merges 198 = .ok (.aload_n 0, 1) := by decide +kernel
theorem dX12_merges_199 : decode cX12_merges 199 = .ok (.iload 7, 2) := by decide +kernel
theorem dX12_merges_201 : decode cX12_merges 201 = .ok (.iconst 2, 1) := by decide +kernel
theorem dX12_merges_202 : decode cX12_merges 202 = .ok (.invokevirtual 74, 3) := by decide +kernel
theorem dX12_merges_205 : decode cX12_merges 205 = .ok (.iadd, 1) := by decide +kernel
theorem dX12_merges_206 : decode cX12_merges 206 = .ok (.iload 5, 2) := by decide +kernel
theorem dX12_merges_208 : decode cX12_merges 208 = .ok (.isub, 1) := by decide +kernel
theorem dX12_merges_209 : decode cX12_merges 209 = .ok (.iastore, 1) := by decide +kernel
theorem dX12_merges_210 : decode cX12_merges 210 = .ok (.iinc 7 1, 3) := by decide +kernel
theorem dX12_merges_213 : decode cX12_merges 213 = .ok (.goto (-58), 3) := by decide +kernel
theorem dX12_merges_216 : decode cX12_merges 216 = .ok (.aload_n 0, 1) := by decide +kernel
theorem dX12_merges_217 : decode cX12_merges 217 = .ok (.getfield 13, 3) := by decide +kernel
theorem dX12_merges_220 : decode cX12_merges 220 = .ok (.iload_n 1, 1) := by decide +kernel
theorem dX12_merges_221 : decode cX12_merges 221 = .ok (.invokestatic 56, 3) := by decide +kernel
theorem dX12_merges_224 : decode cX12_merges 224 = .ok (.iconst 0, 1) := by decide +kernel
theorem dX12_merges_225 : decode cX12_merges 225 = .ok (.iadd, 1) := by decide +kernel
theorem dX12_merges_226 : decode cX12_merges 226 = .ok (.iconst 0, 1) := by decide +kernel
theorem dX12_merges_227 : decode cX12_merges 227 = .ok (.iastore, 1) := by decide +kernel
theorem dX12_merges_228 : decode cX12_merges 228 = .ok (.aload_n 0, 1) := by decide +kernel
theorem dX12_merges_229 : decode cX12_merges 229 = .ok (.iload_n 3, 1) := by decide +kernel
theorem dX12_merges_230 : decode cX12_merges 230 = .ok (.invokevirtual 137, 3) := by decide +kernel
theorem dX12_merges_233 : decode cX12_merges 233 = .ok (.iload 6, 2) := by decide +kernel
theorem dX12_merges_235 : decode cX12_merges 235 = .ok (.ireturn, 1) := by decide +kernel
theorem dX12_merge_0 : decode cX12_merge 0 = .ok (.aload_n 0, 1) := by decide +kernel
theorem dX12_merge_1 : decode cX12_merge 1 = .ok (.aload_n 0, 1) := by decide +kernel
theorem dX12_merge_2 : decode cX12_merge 2 = .ok (.iload_n 1, 1) := by decide +kernel
theorem dX12_merge_3 : decode cX12_merge 3 = .ok (.invokevirtual 134, 3) := by decide +kernel
theorem dX12_merge_6 : decode cX12_merge 6 = .ok (.ifCond .eq 7, 3) := by decide +kernel
theorem dX12_merge_9 : decode cX12_merge 9 = .ok (.iconst 0, 1) := by decide +kernel
theorem dX12_merge_10 : decode cX12_merge 10 = .ok (.goto 4, 3) := by decide +kernel
theorem dX12_merge_13 : decode cX12_merge 13 = .ok (.iconst 1, 1) := by decide +kernel
theorem dX12_merge_14 : decode cX12_merge 14 = .ok (.putfield 60, 3) := by decide +kernel
theorem dX12_merge_17 : decode cX12_merge 17 = .ok (.aload_n 0, 1) := by decide +kernel
theorem dX12_merge_18 : decode cX12_merge 18 = .ok (.getfield 60, 3) := by decide +kernel
theorem dX12_merge_21 : decode cX12_merge 21 = .ok (.ifCond .le 7, 3) := by decide +kernel
theorem dX12_merge_24 : decode cX12_merge 24 = .ok (.iconst 0, 1) := by decide +kernel
theorem dX12_merge_25 : decode cX12_merge 25 = .ok (.goto 8, 3) := by decide +kernel
theorem dX12_merge_28 : decode cX12_merge 28 = .ok (.aload_n 0, 1) := by decide +kernel
theorem dX12_merge_29 : decode cX12_merge 29 = .ok (.iload_n 1, 1) := by decide +kernel
theorem dX12_merge_30 : decode cX12_merge 30 = .ok (.invokevirtual 241, 3) := by decide +kernel
theorem dX12_merge_33 : decode cX12_merge 33 = .ok (.ireturn, 1) := by decide +kernel
theorem dX12_drops_0 : decode cX12_drops 0 = .ok (.aload_n 0, 1) := by decide +kernel
theorem dX12_drops_1 : decode cX12_drops 1 = .ok (.iload_n 1, 1) := by decide +kernel
theorem dX12_drops_2 : decode cX12_drops 2 = .ok (.invokevirtual 235, 3) := by decide +kernel
theorem dX12_drops_5 : decode cX12_drops 5 = .ok (.ifCond .le 11, 3) := by decide +kernel
theorem dX12_drops_8 : decode cX12_drops 8 = .ok (.aload_n 0, 1) := by decide +kernel
theorem dX12_drops_9 : decode cX12_drops 9 = .ok (.iload_n 1, 1) := by decide +kernel
theorem dX12_drops_10 : decode cX12_drops 10 = .ok (.invokevirtual 235, 3) := by decide +kernel
theorem dX12_drops_13 : decode cX12_drops 13 = .ok (.goto 17, 3) := by decide +kernel
theorem dX12_drops_16 : decode cX12_drops 16 = .ok (.aload_n 0, 1) := by decide +kernel
theorem dX12_drops_17 : decode cX12_drops 17 = .ok (.iload_n 1, 1) := by decide +kernel
theorem dX12_drops_18 : decode cX12_drops 18 = .ok (.invokevirtual 103, 3) := by decide +kernel
theorem dX12_drops_21 : decode cX12_drops 21 = .ok (.ifCond .le 8, 3) := by decide +kernel
theorem dX12_drops_24 : decode cX12_drops 24 = .ok (.bipush 8, 2) := by decide +kernel
theorem dX12_drops_26 : decode cX12_drops 26 = .ok (.goto 4, 3) := by decide +kernel
theorem dX12_drops_29 : decode cX12_drops 29 = .ok (.iconst 0, 1) := by decide +kernel
theorem dX12_drops_30 : decode cX12_drops 30 = .ok (.istore_n 2, 1) := by decide +kernel
theorem dX12_drops_31 : decode cX12_drops 31 = .ok (.iload_n 2, 1) := by decide +kernel
theorem dX12_drops_32 : decode cX12_drops 32 = .ok (.ifCond .le 9, 3) := by decide +kernel
theorem dX12_drops_35 : decode cX12_drops 35 = .ok (.aload_n 0, 1) := by decide +kernel
theorem dX12_drops_36 : decode cX12_drops 36 = .ok (.iload_n 2, 1) := by decide +kernel
theorem dX12_drops_37 : decode cX12_drops 37 = .ok (.invokevirtual 198, 3) := by decide +kernel
theorem dX12_drops_40 : decode cX12_drops 40 = .ok (.ireturn, 1) := by decide +kernel
theorem dX12_drops_41 : decode cX12_drops 41 = .ok (.aload_n 0, 1) := by decide +kernel
theorem dX12_drops_42 : decode cX12_drops 42 = .ok (.invokevirtual 180, 3) := by decide +kernel
theorem dX12_drops_45 : decode cX12_drops 45 = .ok (.aload_n 0, 1) := by decide +kernel
theorem dX12_drops_46 : decode cX12_drops 46 = .ok (.getfield 13, 3) := by decide +kernel
theorem dX12_drops_49 : decode cX12_drops 49 = .ok (.iload_n 1, 1) := by decide +kernel
theorem dX12_drops_50 : decode cX12_drops 50 = .ok (.invokestatic 56, 3) := by decide +kernel
theorem dX12_drops_53 : decode cX12_drops 53 = .ok (.iconst 0, 1) := by decide +kernel
theorem dX12_drops_54 : decode cX12_drops 54 = .ok (.iadd, 1) := by decide +kernel
theorem dX12_drops_55 : decode cX12_drops 55 = .ok (.iconst 0, 1) := by decide +kernel
theorem dX12_drops_56 : decode cX12_drops 56 = .ok (.iastore, 1) := by decide +kernel
theorem dX12_drops_57 : decode cX12_drops 57 = .ok (.aload_n 0, 1) := by decide +kernel
theorem dX12_drops_58 : decode cX12_drops 58 = .ok (.iload_n 1, 1) := by decide +kernel
theorem dX12_drops_59 : decode cX12_drops 59 = .ok (.iconst 2, 1) := by decide +kernel
theorem dX12_drops_60 : decode cX12_drops 60 = .ok (.invokevirtual 70, 3) := by decide +kernel
theorem dX12_drops_63 : decode cX12_drops 63 = .ok (.ireturn, 1) := by decide +kernel
theorem dX12_drop_0 : decode cX12_drop 0 = .ok (.aload_n 0, 1) := by decide +kernel
theorem dX12_drop_1 : decode cX12_drop 1 = .ok (.aload_n 0, 1) := by decide +kernel
theorem dX12_drop_2 : decode cX12_drop 2 = .ok (.iload_n 1, 1) := by decide +kernel
theorem dX12_drop_3 : decode cX12_drop 3 = .ok (.invokevirtual 134, 3) := by decide +kernel
theorem dX12_drop_6 : decode cX12_drop 6 = .ok (.ifCond .eq 7, 3) := by decide +kernel
theorem dX12_drop_9 : decode cX12_drop 9 = .ok (.iconst 0, 1) := by decide +kernel
theorem dX12_drop_10 : decode cX12_drop 10 = .ok (.goto 4, 3) := by decide +kernel
theorem dX12_drop_13 : decode cX12_drop 13 = .ok (.iconst 1, 1) := by decide +kernel
theorem dX12_drop_14 : decode cX12_drop 14 = .ok (.putfield 60, 3) := by decide +kernel
theorem dX12_drop_17 : decode cX12_drop 17 = .ok (.aload_n 0, 1) := by decide +kernel
theorem dX12_drop_18 : decode cX12_drop 18 = .ok (.getfield 60, 3) := by decide +kernel
theorem dX12_drop_21 : decode cX12_drop 21 = .ok (.ifCond .le 7, 3) := by decide +kernel
theorem dX12_drop_24 : decode cX12_drop 24 = .ok (.iconst 0, 1) := by decide +kernel
theorem dX12_drop_25 : decode cX12_drop 25 = .ok (.goto 8, 3) := by decide +kernel
theorem dX12_drop_28 : decode cX12_drop 28 = .ok (.aload_n 0, 1) := by decide +kernel
theorem dX12_drop_29 : decode cX12_drop 29 = .ok (.iload_n 1, 1) := by decide +kernel
theorem dX12_drop_30 : decode cX12_drop 30 = .ok (.invokevirtual 244, 3) := by decide +kernel
theorem dX12_drop_33 : decode cX12_drop 33 = .ok (.ireturn, 1) := by decide +kernel
theorem dX12_passes_0 : decode cX12_passes 0 = .ok (.aload_n 0, 1) := by decide +kernel
theorem dX12_passes_1 : decode cX12_passes 1 = .ok (.invokevirtual 180, 3) := by decide +kernel
theorem dX12_passes_4 : decode cX12_passes 4 = .ok (.aload_n 0, 1) := by decide +kernel
theorem dX12_passes_5 : decode cX12_passes 5 = .ok (.invokevirtual 247, 3) := by decide +kernel
theorem dX12_passes_8 : decode cX12_passes 8 = .ok (.iconst 0, 1) := by decide +kernel
theorem dX12_passes_9 : decode cX12_passes 9 = .ok (.istore_n 2, 1) := by decide +kernel
theorem dX12_passes_10 : decode cX12_passes 10 = .ok (.iload_n 2, 1) := by decide +kernel
theorem dX12_passes_11 : decode cX12_passes 11 = .ok (.iload_n 1, 1) := by decide +kernel
theorem dX12_passes_12 : decode cX12_passes 12 = .ok (.if_icmp .ge 13, 3) := by decide +kernel
theorem dX12_passes_15 : decode cX12_passes 15 = .ok (.aload_n 0, 1) := by decide +kernel
theorem dX12_passes_16 : decode cX12_passes 16 = .ok (.invokevirtual 250, 3) := by decide +kernel
theorem dX12_passes_19 : decode cX12_passes 19 = .ok (.iinc 2 1, 3) := by decide +kernel
theorem dX12_passes_22 : decode cX12_passes 22 = .ok (.goto (-12), 3) := by decide +kernel
theorem dX12_passes_25 : decode cX12_passes 25 = .ok (.aload_n 0, 1) := by decide +kernel
theorem dX12_passes_26 : decode cX12_passes 26 = .ok (.getfield 84, 3) := by decide +kernel
theorem dX12_passes_29 : decode cX12_passes 29 = .ok (.ireturn, 1) := by decide +kernel
theorem dX12_pass_0 : decode cX12_pass 0 = .ok (.aload_n 0, 1) := by decide +kernel
theorem dX12_pass_1 : decode cX12_pass 1 = .ok (.iload_n 1, 1) := by decide +kernel
theorem dX12_pass_2 : decode cX12_pass 2 = .ok (.iconst 1, 1) := by decide +kernel
theorem dX12_pass_3 : decode cX12_pass 3 = .ok (.bipush 99, 2) := by decide +kernel
theorem dX12_pass_5 : decode cX12_pass 5 = .ok (.invokestatic 66, 3) := by decide +kernel
theorem dX12_pass_8 : decode cX12_pass 8 = .ok (.ifCond .eq 7, 3) := by decide +kernel
theorem dX12_pass_11 : decode cX12_pass 11 = .ok (.iconst 0, 1) := by decide +kernel
theorem dX12_pass_12 : decode cX12_pass 12 = .ok (.goto 4, 3) := by decide +kernel
theorem dX12_pass_15 : decode cX12_pass 15 = .ok (.iconst 1, 1) := by decide +kernel
theorem dX12_pass_16 : decode cX12_pass 16 = .ok (.putfield 60, 3) := by decide +kernel
theorem dX12_pass_19 : decode cX12_pass 19 = .ok (.aload_n 0, 1) := by decide +kernel
theorem dX12_pass_20 : decode cX12_pass 20 = .ok (.getfield 60, 3) := by decide +kernel
theorem dX12_pass_23 : decode cX12_pass 23 = .ok (.ifCond .le 7, 3) := by decide +kernel
theorem dX12_pass_26 : decode cX12_pass 26 = .ok (.iconst 0, 1) := by decide +kernel
theorem dX12_pass_27 : decode cX12_pass 27 = .ok (.goto 8, 3) := by decide +kernel
theorem dX12_pass_30 : decode cX12_pass 30 = .ok (.aload_n 0, 1) := by decide +kernel
theorem dX12_pass_31 : decode cX12_pass 31 = .ok (.iload_n 1, 1) := by decide +kernel
theorem dX12_pass_32 : decode cX12_pass 32 = .ok (.invokevirtual 253, 3) := by decide +kernel
theorem dX12_pass_35 : decode cX12_pass 35 = .ok (.ireturn, 1) := by decide +kernel
theorem dX12_common_0 : decode cX12_common 0 = .ok (.aload_n 0, 1) := by decide +kernel
theorem dX12_common_1 : decode cX12_common 1 = .ok (.aload_n 0, 1) := by decide +kernel
theorem dX12_common_2 : decode cX12_common 2 = .ok (.iload_n 1, 1) := by decide +kernel
theorem dX12_common_3 : decode cX12_common 3 = .ok (.invokevirtual 134, 3) := by decide +kernel
theorem dX12_common_6 : decode cX12_common 6 = .ok (.ifCond .eq 15, 3) := by decide +kernel
theorem dX12_common_9 : decode cX12_common 9 = .ok (.aload_n 0, 1) := by decide +kernel
theorem dX12_common_10 : decode cX12_common 10 = .ok (.iload_n 2, 1) := by decide +kernel
theorem dX12_common_11 : decode cX12_common 11 = .ok (.invokevirtual 134, 3) := by decide +kernel
theorem dX12_common_14 : decode cX12_common 14 = .ok (.ifCond .eq 7, 3) := by decide +kernel
theorem dX12_common_17 : decode cX12_common 17 = .ok (.iconst 0, 1) := by decide +kernel
theorem dX12_common_18 : decode cX12_common 18 = .ok (.goto 4, 3) := by decide +kernel
theorem dX12_common_21 : decode cX12_common 21 = .ok (.iconst 1, 1) := by decide +kernel
theorem dX12_common_22 : decode cX12_common 22 = .ok (.putfield 60, 3) := by decide +kernel
theorem dX12_common_25 : decode cX12_common 25 = .ok (.aload_n 0, 1) := by decide +kernel
theorem dX12_common_26 : decode cX12_common 26 = .ok (.getfield 60, 3) := by decide +kernel
theorem dX12_common_29 : decode cX12_common 29 = .ok (.ifCond .le 7, 3) := by decide +kernel
theorem dX12_common_32 : decode cX12_common 32 = .ok (.iconst 0, 1) := by decide +kernel
theorem dX12_common_33 : decode cX12_common 33 = .ok (.goto 9, 3) := by decide +kernel
theorem dX12_common_36 : decode cX12_common 36 = .ok (.aload_n 0, 1) := by decide +kernel
theorem dX12_common_37 : decode cX12_common 37 = .ok (.iload_n 1, 1) := by decide +kernel
theorem dX12_common_38 : decode cX12_common 38 = .ok (.iload_n 2, 1) := by decide +kernel
theorem dX12_common_39 : decode cX12_common 39 = .ok (.invokevirtual 226, 3) := by decide +kernel
theorem dX12_common_42 : decode cX12_common 42 = .ok (.ireturn, 1) := by decide +kernel
theorem dX12_holder_0 : decode cX12_holder 0 = .ok (.aload_n 0, 1) := by decide +kernel
theorem dX12_holder_1 : decode cX12_holder 1 = .ok (.aload_n 0, 1) := by decide +kernel
theorem dX12_holder_2 : decode cX12_holder 2 = .ok (.iload_n 1, 1) := by decide +kernel
theorem dX12_holder_3 : decode cX12_holder 3 = .ok (.invokevirtual 134, 3) := by decide +kernel
theorem dX12_holder_6 : decode cX12_holder 6 = .ok (.ifCond .eq 7, 3) := by decide +kernel
theorem dX12_holder_9 : decode cX12_holder 9 = .ok (.iconst 0, 1) := by decide +kernel
theorem dX12_holder_10 : decode cX12_holder 10 = .ok (.goto 4, 3) := by decide +kernel
theorem dX12_holder_13 : decode cX12_holder 13 = .ok (.iconst 1, 1) := by decide +kernel
theorem dX12_holder_14 : decode cX12_holder 14 = .ok (.putfield 60, 3) := by decide +kernel
theorem dX12_holder_17 : decode cX12_holder 17 = .ok (.aload_n 0, 1) := by decide +kernel
theorem dX12_holder_18 : decode cX12_holder 18 = .ok (.getfield 60, 3) := by decide +kernel
theorem dX12_holder_21 : decode cX12_holder 21 = .ok (.ifCond .le 7, 3) := by decide +kernel
theorem dX12_holder_24 : decode cX12_holder 24 = .ok (.iconst 0, 1) := by decide +kernel
theorem dX12_holder_25 : decode cX12_holder 25 = .ok (.goto 8, 3) := by decide +kernel
theorem dX12_holder_28 : decode cX12_holder 28 = .ok (.aload_n 0, 1) := by decide +kernel
theorem dX12_holder_29 : decode cX12_holder 29 = .ok (.iload_n 1, 1) := by decide +kernel
theorem dX12_holder_30 : decode cX12_holder 30 = .ok (.invokevirtual 109, 3) := by decide +kernel
theorem dX12_holder_33 : decode cX12_holder 33 = .ok (.ireturn, 1) := by decide +kernel
theorem dX12_slowest_0 : decode cX12_slowest 0 = .ok (.aload_n 0, 1) := by decide +kernel
theorem dX12_slowest_1 : decode cX12_slowest 1 = .ok (.aload_n 0, 1) := by decide +kernel
theorem dX12_slowest_2 : decode cX12_slowest 2 = .ok (.iload_n 1, 1) := by decide +kernel
theorem dX12_slowest_3 : decode cX12_slowest 3 = .ok (.invokevirtual 134, 3) := by decide +kernel
theorem dX12_slowest_6 : decode cX12_slowest 6 = .ok (.ifCond .eq 7, 3) := by decide +kernel
theorem dX12_slowest_9 : decode cX12_slowest 9 = .ok (.iconst 0, 1) := by decide +kernel
theorem dX12_slowest_10 : decode cX12_slowest 10 = .ok (.goto 4, 3) := by decide +kernel
theorem dX12_slowest_13 : decode cX12_slowest 13 = .ok (.iconst 1, 1) := by decide +kernel
theorem dX12_slowest_14 : decode cX12_slowest 14 = .ok (.putfield 60, 3) := by decide +kernel
theorem dX12_slowest_17 : decode cX12_slowest 17 = .ok (.iconst (-1), 1) := by decide +kernel
theorem dX12_slowest_18 : decode cX12_slowest 18 = .ok (.istore_n 2, 1) := by decide +kernel
theorem dX12_slowest_19 : decode cX12_slowest 19 = .ok (.iconst 0, 1) := by decide +kernel
theorem dX12_slowest_20 : decode cX12_slowest 20 = .ok (.istore_n 3, 1) := by decide +kernel
theorem dX12_slowest_21 : decode cX12_slowest 21 = .ok (.iload_n 3, 1) := by decide +kernel
theorem dX12_slowest_22 : decode cX12_slowest 22 = .ok (.bipush 6, 2) := by decide +kernel
theorem dX12_slowest_24 : decode cX12_slowest 24 = .ok (.if_icmp .ge 51, 3) := by decide +kernel
theorem dX12_slowest_27 : decode cX12_slowest 27 = .ok (.aload_n 0, 1) := by decide +kernel
theorem dX12_slowest_28 : decode cX12_slowest 28 = .ok (.getfield 60, 3) := by decide +kernel
theorem dX12_slowest_31 : decode cX12_slowest 31 = .ok (.ifCond .ne 44, 3) := by decide +kernel
theorem dX12_slowest_34 : decode cX12_slowest 34 = .ok (.aload_n 0, 1) := by decide +kernel
theorem dX12_slowest_35 : decode cX12_slowest 35 = .ok (.iload_n 3, 1) := by decide +kernel
theorem dX12_slowest_36 : decode cX12_slowest 36 = .ok (.iload_n 1, 1) := by decide +kernel
theorem dX12_slowest_37 : decode cX12_slowest 37 = .ok (.invokevirtual 93, 3) := by decide +kernel
theorem dX12_slowest_40 : decode cX12_slowest 40 = .ok (.ifCond .eq 27, 3) := by decide +kernel
theorem dX12_slowest_43 : decode cX12_slowest 43 = .ok (.iload_n 2, 1) := by decide +kernel
theorem dX12_slowest_44 : decode cX12_slowest 44 = .ok (.iconst (-1), 1) := by decide +kernel
theorem dX12_slowest_45 : decode cX12_slowest 45 = .ok (.if_icmp .eq 18, 3) := by decide +kernel
theorem dX12_slowest_48 : decode cX12_slowest 48 = .ok (.aload_n 0, 1) := by decide +kernel
theorem dX12_slowest_49 : decode cX12_slowest 49 = .ok (.iload_n 3, 1) := by decide +kernel
theorem dX12_slowest_50 : decode cX12_slowest 50 = .ok (.iconst 2, 1) := by decide +kernel
theorem dX12_slowest_51 : decode cX12_slowest 51 = .ok (.invokevirtual 74, 3) := by decide +kernel
theorem dX12_slowest_54 : decode cX12_slowest 54 = .ok (.aload_n 0, 1) := by decide +kernel
theorem dX12_slowest_55 : decode cX12_slowest 55 = .ok (.iload_n 2, 1) := by decide +kernel
theorem dX12_slowest_56 : decode cX12_slowest 56 = .ok (.iconst 2, 1) := by decide +kernel
theorem dX12_slowest_57 : decode cX12_slowest 57 = .ok (.invokevirtual 74, 3) := by decide +kernel
theorem dX12_slowest_60 : decode cX12_slowest 60 = .ok (.if_icmp .ge 7, 3) := by decide +kernel
theorem dX12_slowest_63 : decode cX12_slowest 63 = .ok (.iload_n 3, 1) := by decide +kernel
theorem dX12_slowest_64 : decode cX12_slowest 64 = .ok (.goto 4, 3) := by decide +kernel
theorem dX12_slowest_67 : decode cX12_slowest 67 = .ok (.iload_n 2, 1) := by decide +kernel
theorem dX12_slowest_68 : decode cX12_slowest 68 = .ok (.istore_n 2, 1) := by decide +kernel
theorem dX12_slowest_69 : decode cX12_slowest 69 = .ok (.iinc 3 1, 3) := by decide +kernel
theorem dX12_slowest_72 : decode cX12_slowest 72 = .ok (.goto (-51), 3) := by decide +kernel
theorem dX12_slowest_75 : decode cX12_slowest 75 = .ok (.aload_n 0, 1) := by decide +kernel
theorem dX12_slowest_76 : decode cX12_slowest 76 = .ok (.getfield 60, 3) := by decide +kernel
theorem dX12_slowest_79 : decode cX12_slowest 79 = .ok (.ifCond .le 7, 3) := by decide +kernel
theorem dX12_slowest_82 : decode cX12_slowest 82 = .ok (.iconst 0, 1) := by decide +kernel
theorem dX12_slowest_83 : decode cX12_slowest 83 = .ok (.goto 4, 3) := by decide +kernel
theorem dX12_slowest_86 : decode cX12_slowest 86 = .ok (.iload_n 2, 1) := by decide +kernel
theorem dX12_slowest_87 : decode cX12_slowest 87 = .ok (.ireturn, 1) := by decide +kernel
theorem dX12_cause_0 : decode cX12_cause 0 = .ok (.aload_n 0, 1) := by decide +kernel
theorem dX12_cause_1 : decode cX12_cause 1 = .ok (.aload_n 0, 1) := by decide +kernel
theorem dX12_cause_2 : decode cX12_cause 2 = .ok (.iload_n 1, 1) := by decide +kernel
theorem dX12_cause_3 : decode cX12_cause 3 = .ok (.invokevirtual 134, 3) := by decide +kernel
theorem dX12_cause_6 : decode cX12_cause 6 = .ok (.ifCond .eq 7, 3) := by decide +kernel
theorem dX12_cause_9 : decode cX12_cause 9 = .ok (.iconst 0, 1) := by decide +kernel
theorem dX12_cause_10 : decode cX12_cause 10 = .ok (.goto 4, 3) := by decide +kernel
theorem dX12_cause_13 : decode cX12_cause 13 = .ok (.iconst 1, 1) := by decide +kernel
theorem dX12_cause_14 : decode cX12_cause 14 = .ok (.putfield 60, 3) := by decide +kernel
theorem dX12_cause_17 : decode cX12_cause 17 = .ok (.aload_n 0, 1) := by decide +kernel
theorem dX12_cause_18 : decode cX12_cause 18 = .ok (.getfield 60, 3) := by decide +kernel
theorem dX12_cause_21 : decode cX12_cause 21 = .ok (.ifCond .le 7, 3) := by decide +kernel
theorem dX12_cause_24 : decode cX12_cause 24 = .ok (.iconst 0, 1) := by decide +kernel
theorem dX12_cause_25 : decode cX12_cause 25 = .ok (.goto 8, 3) := by decide +kernel
theorem dX12_cause_28 : decode cX12_cause 28 = .ok (.aload_n 0, 1) := by decide +kernel
theorem dX12_cause_29 : decode cX12_cause 29 = .ok (.iload_n 1, 1) := by decide +kernel
theorem dX12_cause_30 : decode cX12_cause 30 = .ok (.invokevirtual 128, 3) := by decide +kernel
theorem dX12_cause_33 : decode cX12_cause 33 = .ok (.ireturn, 1) := by decide +kernel
theorem dX12_latest_0 : decode cX12_latest 0 = .ok (.aload_n 0, 1) := by decide +kernel
theorem dX12_latest_1 : decode cX12_latest 1 = .ok (.aload_n 0, 1) := by decide +kernel
theorem dX12_latest_2 : decode cX12_latest 2 = .ok (.iload_n 1, 1) := by decide +kernel
theorem dX12_latest_3 : decode cX12_latest 3 = .ok (.invokevirtual 134, 3) := by decide +kernel
theorem dX12_latest_6 : decode cX12_latest 6 = .ok (.ifCond .ne 7, 3) := by decide +kernel
theorem dX12_latest_9 : decode cX12_latest 9 = .ok (.iconst 1, 1) := by decide +kernel
theorem dX12_latest_10 : decode cX12_latest 10 = .ok (.goto 18, 3) := by decide +kernel
theorem dX12_latest_13 : decode cX12_latest 13 = .ok (.iload_n 2, 1) := by decide +kernel
theorem dX12_latest_14 : decode cX12_latest 14 = .ok (.iconst 0, 1) := by decide +kernel
theorem dX12_latest_15 : decode cX12_latest 15 = .ok (.bipush 9, 2) := by decide +kernel
theorem dX12_latest_17 : decode cX12_latest 17 = .ok (.invokestatic 66, 3) := by decide +kernel
theorem dX12_latest_20 : decode cX12_latest 20 = .ok (.ifCond .eq 7, 3) := by decide +kernel
theorem dX12_latest_23 : decode cX12_latest 23 = .ok (.iconst 0, 1) := by decide +kernel
theorem dX12_latest_24 : decode cX12_latest 24 = .ok (.goto 4, 3) := by decide +kernel
theorem dX12_latest_27 : decode cX12_latest 27 = .ok (.iconst 2, 1) := by decide +kernel
theorem dX12_latest_28 : decode cX12_latest 28 = .ok (.putfield 60, 3) := by decide +kernel
theorem dX12_latest_31 : decode cX12_latest 31 = .ok (.aload_n 0, 1) := by decide +kernel
theorem dX12_latest_32 : decode cX12_latest 32 = .ok (.getfield 60, 3) := by decide +kernel
theorem dX12_latest_35 : decode cX12_latest 35 = .ok (.ifCond .le 5, 3) := by decide +kernel
theorem dX12_latest_38 : decode cX12_latest 38 = .ok (.iconst 0, 1) := by decide +kernel
theorem dX12_latest_39 : decode cX12_latest 39 = .ok (.ireturn, 1) := by decide +kernel
theorem dX12_latest_40 : decode cX12_latest 40 = .ok (.aload_n 0, 1) := by decide +kernel
theorem dX12_latest_41 : decode cX12_latest 41 = .ok (.iload_n 1, 1) := by decide +kernel
theorem dX12_latest_42 : decode cX12_latest 42 = .ok (.iconst 2, 1) := by decide +kernel
theorem dX12_latest_43 : decode cX12_latest 43 = .ok (.invokevirtual 70, 3) := by decide +kernel
theorem dX12_latest_46 : decode cX12_latest 46 = .ok (.iconst 1, 1) := by decide +kernel
theorem dX12_latest_47 : decode cX12_latest 47 = .ok (.isub, 1) := by decide +kernel
theorem dX12_latest_48 : decode cX12_latest 48 = .ok (.istore_n 3, 1) := by decide +kernel
theorem dX12_latest_49 : decode cX12_latest 49 = .ok (.iload_n 3, 1) := by decide +kernel
theorem dX12_latest_50 : decode cX12_latest 50 = .ok (.ifCond .lt 26, 3) := by decide +kernel
theorem dX12_latest_53 : decode cX12_latest 53 = .ok (.aload_n 0, 1) := by decide +kernel
theorem dX12_latest_54 : decode cX12_latest 54 = .ok (.iload_n 1, 1) := by decide +kernel
theorem dX12_latest_55 : decode cX12_latest 55 = .ok (.iload_n 3, 1) := by decide +kernel
theorem dX12_latest_56 : decode cX12_latest 56 = .ok (.invokevirtual 121, 3) := by decide +kernel
theorem dX12_latest_59 : decode cX12_latest 59 = .ok (.iload_n 2, 1) := by decide +kernel
theorem dX12_latest_60 : decode cX12_latest 60 = .ok (.if_icmp .ne 10, 3) := by decide +kernel
theorem dX12_latest_63 : decode cX12_latest 63 = .ok (.aload_n 0, 1) := by decide +kernel
theorem dX12_latest_64 : decode cX12_latest 64 = .ok (.iload_n 1, 1) := by decide +kernel
theorem dX12_latest_65 : decode cX12_latest 65 = .ok (.iload_n 3, 1) := by decide +kernel
theorem dX12_latest_66 : decode cX12_latest 66 = .ok (.invokevirtual 115, 3) := by decide +kernel
theorem dX12_latest_69 : decode cX12_latest 69 = .ok (.ireturn, 1) := by decide +kernel
theorem dX12_latest_70 : decode cX12_latest 70 = .ok (.iinc 3 (-1), 3) := by decide +kernel
theorem dX12_latest_73 : decode cX12_latest 73 = .ok (.goto (-24), 3) := by decide +kernel
theorem dX12_latest_76 : decode cX12_latest 76 = .ok (.sipush (-1000), 3) := by decide +kernel
theorem dX12_latest_79 : decode cX12_latest 79 = .ok (.ireturn, 1) := by decide +kernel
theorem dX12_wouldCut_0 : decode cX12_wouldCut 0 = .ok (.aload_n 0, 1) := by decide +kernel
theorem dX12_wouldCut_1 : decode cX12_wouldCut 1 = .ok (.aload_n 0, 1) := by decide +kernel
theorem dX12_wouldCut_2 : decode cX12_wouldCut 2 = .ok (.iload_n 1, 1) := by decide +kernel
theorem dX12_wouldCut_3 : decode cX12_wouldCut 3 = .ok (.invokevirtual 134, 3) := by decide +kernel
theorem dX12_wouldCut_6 : decode cX12_wouldCut 6 = .ok (.ifCond .ne 7, 3) := by decide +kernel
theorem dX12_wouldCut_9 : decode cX12_wouldCut 9 = .ok (.iconst 1, 1) := by decide +kernel
theorem dX12_wouldCut_10 : decode cX12_wouldCut 10 = .ok (.goto 18, 3) := by decide +kernel
theorem dX12_wouldCut_13 : decode cX12_wouldCut 13 = .ok (.iload_n 2, 1) := by decide +kernel
theorem dX12_wouldCut_14 : decode cX12_wouldCut 14 = .ok (.iconst 1, 1) := by decide +kernel
theorem dX12_wouldCut_15 : decode cX12_wouldCut 15 = .ok (.bipush 9, 2) := by decide +kernel
theorem dX12_wouldCut_17 : decode cX12_wouldCut 17 = .ok (.invokestatic 66, 3) := by decide +kernel
theorem dX12_wouldCut_20 : decode cX12_wouldCut 20 = .ok (.ifCond .eq 7, 3) := by decide +kernel
theorem dX12_wouldCut_23 : decode cX12_wouldCut 23 = .ok (.iconst 0, 1) := by decide +kernel
theorem dX12_wouldCut_24 : decode cX12_wouldCut 24 = .ok (.goto 4, 3) := by decide +kernel
theorem dX12_wouldCut_27 : decode cX12_wouldCut 27 = .ok (.iconst 2, 1) := by decide +kernel
theorem dX12_wouldCut_28 : decode cX12_wouldCut 28 = .ok (.putfield 60, 3) := by decide +kernel
theorem dX12_wouldCut_31 : decode cX12_wouldCut 31 = .ok (.aload_n 0, 1) := by decide +kernel
theorem dX12_wouldCut_32 : decode cX12_wouldCut 32 = .ok (.getfield 60, 3) := by decide +kernel
theorem dX12_wouldCut_35 : decode cX12_wouldCut 35 = .ok (.ifCond .le 5, 3) := by decide +kernel
theorem dX12_wouldCut_38 : decode cX12_wouldCut 38 = .ok (.iconst 0, 1) := by decide +kernel
theorem dX12_wouldCut_39 : decode cX12_wouldCut 39 = .ok (.ireturn, 1) := by decide +kernel
theorem dX12_wouldCut_40 : decode cX12_wouldCut 40 = .ok (.aload_n 0, 1) := by decide +kernel
theorem dX12_wouldCut_41 : decode cX12_wouldCut 41 = .ok (.getfield 13, 3) := by decide +kernel
theorem dX12_wouldCut_44 : decode cX12_wouldCut 44 = .ok (.iconst 0, 1) := by decide +kernel
theorem dX12_wouldCut_45 : decode cX12_wouldCut 45 = .ok (.aload_n 0, 1) := by decide +kernel
theorem dX12_wouldCut_46 : decode cX12_wouldCut 46 = .ok (.getfield 16, 3) := by decide +kernel
theorem dX12_wouldCut_49 : decode cX12_wouldCut 49 = .ok (.iconst 0, 1) := by decide +kernel
theorem dX12_wouldCut_50 : decode cX12_wouldCut 50 = .ok (.invokestatic 176, 3) := by decide +kernel
theorem dX12_wouldCut_53 : decode cX12_wouldCut 53 = .ok (.aload_n 0, 1) := by decide +kernel
theorem dX12_wouldCut_54 : decode cX12_wouldCut 54 = .ok (.invokevirtual 247, 3) := by decide +kernel
theorem dX12_wouldCut_57 : decode cX12_wouldCut 57 = .ok (.aload_n 0, 1) := by decide +kernel
theorem dX12_wouldCut_58 : decode cX12_wouldCut 58 = .ok (.iload_n 1, 1) := by decide +kernel
theorem dX12_wouldCut_59 : decode cX12_wouldCut 59 = .ok (.aload_n 0, 1) := by decide +kernel
theorem dX12_wouldCut_60 : decode cX12_wouldCut 60 = .ok (.getfield 13, 3) := by decide +kernel
theorem dX12_wouldCut_63 : decode cX12_wouldCut 63 = .ok (.iconst 0, 1) := by decide +kernel
theorem dX12_wouldCut_64 : decode cX12_wouldCut 64 = .ok (.iaload, 1) := by decide +kernel
theorem dX12_wouldCut_65 : decode cX12_wouldCut 65 = .ok (.iconst 0, 1) := by decide +kernel
theorem dX12_wouldCut_66 : decode cX12_wouldCut 66 = .ok (.iload_n 2, 1) := by decide +kernel
theorem dX12_wouldCut_67 : decode cX12_wouldCut 67 = .ok (.iconst 0, 1) := by decide +kernel
theorem dX12_wouldCut_68 : decode cX12_wouldCut 68 = .ok (.invokestatic 183, 3) := by decide +kernel
theorem dX12_wouldCut_71 : decode cX12_wouldCut 71 = .ok (.invokevirtual 187, 3) := by decide +kernel
theorem dX12_wouldCut_74 : decode cX12_wouldCut 74 = .ok (.aload_n 0, 1) := by decide +kernel
theorem dX12_wouldCut_75 : decode cX12_wouldCut 75 = .ok (.iload_n 1, 1) := by decide +kernel
theorem dX12_wouldCut_76 : decode cX12_wouldCut 76 = .ok (.invokevirtual 137, 3) := by decide +kernel
theorem dX12_wouldCut_79 : decode cX12_wouldCut 79 = .ok (.aload_n 0, 1) := by decide +kernel
theorem dX12_wouldCut_80 : decode cX12_wouldCut 80 = .ok (.getfield 16, 3) := by decide +kernel
theorem dX12_wouldCut_83 : decode cX12_wouldCut 83 = .ok (.iconst 0, 1) := by decide +kernel
theorem dX12_wouldCut_84 : decode cX12_wouldCut 84 = .ok (.aload_n 0, 1) := by decide +kernel
theorem dX12_wouldCut_85 : decode cX12_wouldCut 85 = .ok (.getfield 13, 3) := by decide +kernel
theorem dX12_wouldCut_88 : decode cX12_wouldCut 88 = .ok (.iconst 0, 1) := by decide +kernel
theorem dX12_wouldCut_89 : decode cX12_wouldCut 89 = .ok (.invokestatic 176, 3) := by decide +kernel
theorem dX12_wouldCut_92 : decode cX12_wouldCut 92 = .ok (.aload_n 0, 1) := by decide +kernel
theorem dX12_wouldCut_93 : decode cX12_wouldCut 93 = .ok (.getfield 84, 3) := by decide +kernel
theorem dX12_wouldCut_96 : decode cX12_wouldCut 96 = .ok (.ireturn, 1) := by decide +kernel
theorem dX12_unread_0 : decode cX12_unread 0 = .ok (.aload_n 0, 1) := by decide +kernel
theorem dX12_unread_1 : decode cX12_unread 1 = .ok (.aload_n 0, 1) := by decide +kernel
theorem dX12_unread_2 : decode cX12_unread 2 = .ok (.iload_n 1, 1) := by decide +kernel
theorem dX12_unread_3 : decode cX12_unread 3 = .ok (.invokevirtual 77, 3) := by decide +kernel
theorem dX12_unread_6 : decode cX12_unread 6 = .ok (.ifCond .ne 7, 3) := by decide +kernel
theorem dX12_unread_9 : decode cX12_unread 9 = .ok (.iconst 1, 1) := by decide +kernel
theorem dX12_unread_10 : decode cX12_unread 10 = .ok (.goto 18, 3) := by decide +kernel
theorem dX12_unread_13 : decode cX12_unread 13 = .ok (.iload_n 2, 1) := by decide +kernel
theorem dX12_unread_14 : decode cX12_unread 14 = .ok (.iconst 0, 1) := by decide +kernel
theorem dX12_unread_15 : decode cX12_unread 15 = .ok (.bipush 9, 2) := by decide +kernel
theorem dX12_unread_17 : decode cX12_unread 17 = .ok (.invokestatic 66, 3) := by decide +kernel
theorem dX12_unread_20 : decode cX12_unread 20 = .ok (.ifCond .eq 7, 3) := by decide +kernel
theorem dX12_unread_23 : decode cX12_unread 23 = .ok (.iconst 0, 1) := by decide +kernel
theorem dX12_unread_24 : decode cX12_unread 24 = .ok (.goto 4, 3) := by decide +kernel
theorem dX12_unread_27 : decode cX12_unread 27 = .ok (.iconst 2, 1) := by decide +kernel
theorem dX12_unread_28 : decode cX12_unread 28 = .ok (.putfield 60, 3) := by decide +kernel
theorem dX12_unread_31 : decode cX12_unread 31 = .ok (.aload_n 0, 1) := by decide +kernel
theorem dX12_unread_32 : decode cX12_unread 32 = .ok (.getfield 60, 3) := by decide +kernel
theorem dX12_unread_35 : decode cX12_unread 35 = .ok (.ifCond .le 5, 3) := by decide +kernel
theorem dX12_unread_38 : decode cX12_unread 38 = .ok (.iconst 0, 1) := by decide +kernel
theorem dX12_unread_39 : decode cX12_unread 39 = .ok (.ireturn, 1) := by decide +kernel
theorem dX12_unread_40 : decode cX12_unread 40 = .ok (.aload_n 0, 1) := by decide +kernel
theorem dX12_unread_41 : decode cX12_unread 41 = .ok (.iload_n 1, 1) := by decide +kernel
theorem dX12_unread_42 : decode cX12_unread 42 = .ok (.iconst 1, 1) := by decide +kernel
theorem dX12_unread_43 : decode cX12_unread 43 = .ok (.invokevirtual 74, 3) := by decide +kernel
theorem dX12_unread_46 : decode cX12_unread 46 = .ok (.istore_n 3, 1) := by decide +kernel
theorem dX12_unread_47 : decode cX12_unread 47 = .ok (.iconst 0, 1) := by decide +kernel
theorem dX12_unread_48 : decode cX12_unread 48 = .ok (.istore 4, 2) := by decide +kernel
theorem dX12_unread_50 : decode cX12_unread 50 = .ok (.aload_n 0, 1) := by decide +kernel
theorem dX12_unread_51 : decode cX12_unread 51 = .ok (.iload_n 1, 1) := by decide +kernel
theorem dX12_unread_52 : decode cX12_unread 52 = .ok (.iconst 2, 1) := by decide +kernel
theorem dX12_unread_53 : decode cX12_unread 53 = .ok (.invokevirtual 74, 3) := by decide +kernel
theorem dX12_unread_56 : decode cX12_unread 56 = .ok (.aload_n 0, 1) := by decide +kernel
theorem dX12_unread_57 : decode cX12_unread 57 = .ok (.iload_n 3, 1) := by decide +kernel
theorem dX12_unread_58 : decode cX12_unread 58 = .ok (.iconst 1, 1) := by decide +kernel
theorem dX12_unread_59 : decode cX12_unread 59 = .ok (.invokevirtual 70, 3) := by decide +kernel
theorem dX12_unread_62 : decode cX12_unread 62 = .ok (.isub, 1) := by decide +kernel
theorem dX12_unread_63 : decode cX12_unread 63 = .ok (.istore 5, 2) := by decide +kernel
theorem dX12_unread_65 : decode cX12_unread 65 = .ok (.iload 5, 2) := by decide +kernel
theorem dX12_unread_67 : decode cX12_unread 67 = .ok (.aload_n 0, 1) := by decide +kernel
theorem dX12_unread_68 : decode cX12_unread 68 = .ok (.iload_n 3, 1) := by decide +kernel
theorem dX12_unread_69 : decode cX12_unread 69 = .ok (.iconst 2, 1) := by decide +kernel
theorem dX12_unread_70 : decode cX12_unread 70 = .ok (.invokevirtual 70, 3) := by decide +kernel
theorem dX12_unread_73 : decode cX12_unread 73 = .ok (.if_icmp .ge 30, 3) := by decide +kernel
theorem dX12_unread_76 : decode cX12_unread 76 = .ok (.iload 4, 2) := by decide +kernel
theorem dX12_unread_78 : decode cX12_unread 78 = .ok (.aload_n 0, 1) := by decide +kernel
theorem dX12_unread_79 : decode cX12_unread 79 = .ok (.iload_n 3, 1) := by decide +kernel
theorem dX12_unread_80 : decode cX12_unread 80 = .ok (.iload 5, 2) := by decide +kernel
theorem dX12_unread_82 : decode cX12_unread 82 = .ok (.invokevirtual 121, 3) := by decide +kernel
theorem dX12_unread_85 : decode cX12_unread 85 = .ok (.iload_n 2, 1) := by decide +kernel
theorem dX12_unread_86 : decode cX12_unread 86 = .ok (.if_icmp .ne 7, 3) := by decide +kernel
theorem dX12_unread_89 : decode cX12_unread 89 = .ok (.iconst 1, 1) := by decide +kernel
theorem dX12_unread_90 : decode cX12_unread 90 = .ok (.goto 4, 3) := by decide +kernel
theorem dX12_unread_93 : decode cX12_unread 93 = .ok (.iconst 0, 1) := by decide +kernel
theorem dX12_unread_94 : decode cX12_unread 94 = .ok (.iadd, 1) := by decide +kernel
theorem dX12_unread_95 : decode cX12_unread 95 = .ok (.istore 4, 2) := by decide +kernel
theorem dX12_unread_97 : decode cX12_unread 97 = .ok (.iinc 5 1, 3) := by decide +kernel
theorem dX12_unread_100 : decode cX12_unread 100 = .ok (.goto (-35), 3) := by decide +kernel
theorem dX12_unread_103 : decode cX12_unread 103 = .ok (.iload 4, 2) := by decide +kernel
theorem dX12_unread_105 : decode cX12_unread 105 = .ok (.ireturn, 1) := by decide +kernel
theorem dX12_hasPromise_0 : decode cX12_hasPromise 0 = .ok (.aload_n 0, 1) := by decide +kernel
theorem dX12_hasPromise_1 : decode cX12_hasPromise 1 = .ok (.iload_n 1, 1) := by decide +kernel
theorem dX12_hasPromise_2 : decode cX12_hasPromise 2 = .ok (.invokevirtual 77, 3) := by decide +kernel
theorem dX12_hasPromise_5 : decode cX12_hasPromise 5 = .ok (.ifCond .eq 17, 3) := by decide +kernel
theorem dX12_hasPromise_8 : decode cX12_hasPromise 8 = .ok (.aload_n 0, 1) := by decide +kernel
theorem dX12_hasPromise_9 : decode cX12_hasPromise 9 = .ok (.iload_n 1, 1) := by decide +kernel
theorem dX12_hasPromise_10 : decode cX12_hasPromise 10 = .ok (.iconst 4, 1) := by decide +kernel
theorem dX12_hasPromise_11 : decode cX12_hasPromise 11 = .ok (.invokevirtual 74, 3) := by decide +kernel
theorem dX12_hasPromise_14 : decode cX12_hasPromise 14 = .ok (.iconst (-1), 1) := by decide +kernel
theorem dX12_hasPromise_15 : decode cX12_hasPromise 15 = .ok (.if_icmp .eq 7, 3) := by decide +kernel
theorem dX12_hasPromise_18 : decode cX12_hasPromise 18 = .ok (.iconst 1, 1) := by decide +kernel
theorem dX12_hasPromise_19 : decode cX12_hasPromise 19 = .ok (.goto 4, 3) := by decide +kernel
theorem dX12_hasPromise_22 : decode cX12_hasPromise 22 = .ok (.iconst 0, 1) := by decide +kernel
theorem dX12_hasPromise_23 : decode cX12_hasPromise 23 = .ok (.ireturn, 1) := by decide +kernel
theorem dX12_aheadOf_0 : decode cX12_aheadOf 0 = .ok (.iconst 0, 1) := by decide +kernel
theorem dX12_aheadOf_1 : decode cX12_aheadOf 1 = .ok (.istore_n 2, 1) := by decide +kernel
theorem dX12_aheadOf_2 : decode cX12_aheadOf 2 = .ok (.iconst 0, 1) := by decide +kernel
theorem dX12_aheadOf_3 : decode cX12_aheadOf 3 = .ok (.istore_n 3, 1) := by decide +kernel
theorem dX12_aheadOf_4 : decode cX12_aheadOf 4 = .ok (.iload_n 3, 1) := by decide +kernel
theorem dX12_aheadOf_5 : decode cX12_aheadOf 5 = .ok (.bipush 6, 2) := by decide +kernel
theorem dX12_aheadOf_7 : decode cX12_aheadOf 7 = .ok (.if_icmp .ge 72, 3) := by decide +kernel
theorem dX12_aheadOf_10 : decode cX12_aheadOf 10 = .ok (.aload_n 0, 1) := by decide +kernel
theorem dX12_aheadOf_11 : decode cX12_aheadOf 11 = .ok (.iload_n 3, 1) := by decide +kernel
theorem dX12_aheadOf_12 : decode cX12_aheadOf 12 = .ok (.iconst 4, 1) := by decide +kernel
theorem dX12_aheadOf_13 : decode cX12_aheadOf 13 = .ok (.invokevirtual 74, 3) := by decide +kernel
theorem dX12_aheadOf_16 : decode cX12_aheadOf 16 = .ok (.aload_n 0, 1) := by decide +kernel
theorem dX12_aheadOf_17 : decode cX12_aheadOf 17 = .ok (.iload_n 1, 1) := by decide +kernel
theorem dX12_aheadOf_18 : decode cX12_aheadOf 18 = .ok (.iconst 4, 1) := by decide +kernel
theorem dX12_aheadOf_19 : decode cX12_aheadOf 19 = .ok (.invokevirtual 74, 3) := by decide +kernel
theorem dX12_aheadOf_22 : decode cX12_aheadOf 22 = .ok (.if_icmp .lt 23, 3) := by decide +kernel
theorem dX12_aheadOf_25 : decode cX12_aheadOf 25 = .ok (.aload_n 0, 1) := by decide +kernel
theorem dX12_aheadOf_26 : decode cX12_aheadOf 26 = .ok (.iload_n 3, 1) := by decide +kernel
theorem dX12_aheadOf_27 : decode cX12_aheadOf 27 = .ok (.iconst 4, 1) := by decide +kernel
theorem dX12_aheadOf_28 : decode cX12_aheadOf 28 = .ok (.invokevirtual 74, 3) := by decide +kernel
theorem dX12_aheadOf_31 : decode cX12_aheadOf 31 = .ok (.aload_n 0, 1) := by decide +kernel
theorem dX12_aheadOf_32 : decode cX12_aheadOf 32 = .ok (.iload_n 1, 1) := by decide +kernel
theorem dX12_aheadOf_33 : decode cX12_aheadOf 33 = .ok (.iconst 4, 1) := by decide +kernel
theorem dX12_aheadOf_34 : decode cX12_aheadOf 34 = .ok (.invokevirtual 74, 3) := by decide +kernel
theorem dX12_aheadOf_37 : decode cX12_aheadOf 37 = .ok (.if_icmp .ne 12, 3) := by decide +kernel
theorem dX12_aheadOf_40 : decode cX12_aheadOf 40 = .ok (.iload_n 3, 1) := by decide +kernel
theorem dX12_aheadOf_41 : decode cX12_aheadOf 41 = .ok (.iload_n 1, 1) := by decide +kernel
theorem dX12_aheadOf_42 : decode cX12_aheadOf 42 = .ok (.if_icmp .ge 7, 3) := by decide +kernel
theorem dX12_aheadOf_45 : decode cX12_aheadOf 45 = .ok (.iconst 1, 1) := by decide +kernel
theorem dX12_aheadOf_46 : decode cX12_aheadOf 46 = .ok (.goto 4, 3) := by decide +kernel
theorem dX12_aheadOf_49 : decode cX12_aheadOf 49 = .ok (.iconst 0, 1) := by decide +kernel
theorem dX12_aheadOf_50 : decode cX12_aheadOf 50 = .ok (.istore 4, 2) := by decide +kernel
theorem dX12_aheadOf_52 : decode cX12_aheadOf 52 = .ok (.iload_n 2, 1) := by decide +kernel
theorem dX12_aheadOf_53 : decode cX12_aheadOf 53 = .ok (.aload_n 0, 1) := by decide +kernel
theorem dX12_aheadOf_54 : decode cX12_aheadOf 54 = .ok (.iload_n 3, 1) := by decide +kernel
theorem dX12_aheadOf_55 : decode cX12_aheadOf 55 = .ok (.invokevirtual 256, 3) := by decide +kernel
theorem dX12_aheadOf_58 : decode cX12_aheadOf 58 = .ok (.ifCond .eq 12, 3) := by decide +kernel
theorem dX12_aheadOf_61 : decode cX12_aheadOf 61 = .ok (.iload 4, 2) := by decide +kernel
theorem dX12_aheadOf_63 : decode cX12_aheadOf 63 = .ok (.ifCond .eq 7, 3) := by decide +kernel
theorem dX12_aheadOf_66 : decode cX12_aheadOf 66 = .ok (.iconst 1, 1) := by decide +kernel
theorem dX12_aheadOf_67 : decode cX12_aheadOf 67 = .ok (.goto 4, 3) := by decide +kernel
theorem dX12_aheadOf_70 : decode cX12_aheadOf 70 = .ok (.iconst 0, 1) := by decide +kernel
theorem dX12_aheadOf_71 : decode cX12_aheadOf 71 = .ok (.iadd, 1) := by decide +kernel
theorem dX12_aheadOf_72 : decode cX12_aheadOf 72 = .ok (.istore_n 2, 1) := by decide +kernel
theorem dX12_aheadOf_73 : decode cX12_aheadOf 73 = .ok (.iinc 3 1, 3) := by decide +kernel
theorem dX12_aheadOf_76 : decode cX12_aheadOf 76 = .ok (.goto (-72), 3) := by decide +kernel
theorem dX12_aheadOf_79 : decode cX12_aheadOf 79 = .ok (.iload_n 2, 1) := by decide +kernel
theorem dX12_aheadOf_80 : decode cX12_aheadOf 80 = .ok (.ireturn, 1) := by decide +kernel
theorem dX12_promised_0 : decode cX12_promised 0 = .ok (.aload_n 0, 1) := by decide +kernel
theorem dX12_promised_1 : decode cX12_promised 1 = .ok (.iload_n 1, 1) := by decide +kernel
theorem dX12_promised_2 : decode cX12_promised 2 = .ok (.ifCond .lt 7, 3) := by decide +kernel
theorem dX12_promised_5 : decode cX12_promised 5 = .ok (.iconst 0, 1) := by decide +kernel
theorem dX12_promised_6 : decode cX12_promised 6 = .ok (.goto 4, 3) := by decide +kernel
theorem dX12_promised_9 : decode cX12_promised 9 = .ok (.iconst 1, 1) := by decide +kernel
theorem dX12_promised_10 : decode cX12_promised 10 = .ok (.putfield 60, 3) := by decide +kernel
theorem dX12_promised_13 : decode cX12_promised 13 = .ok (.iconst 0, 1) := by decide +kernel
theorem dX12_promised_14 : decode cX12_promised 14 = .ok (.istore_n 2, 1) := by decide +kernel
theorem dX12_promised_15 : decode cX12_promised 15 = .ok (.iload_n 2, 1) := by decide +kernel
theorem dX12_promised_16 : decode cX12_promised 16 = .ok (.bipush 6, 2) := by decide +kernel
theorem dX12_promised_18 : decode cX12_promised 18 = .ok (.if_icmp .ge 35, 3) := by decide +kernel
theorem dX12_promised_21 : decode cX12_promised 21 = .ok (.aload_n 0, 1) := by decide +kernel
theorem dX12_promised_22 : decode cX12_promised 22 = .ok (.getfield 60, 3) := by decide +kernel
theorem dX12_promised_25 : decode cX12_promised 25 = .ok (.ifCond .ne 28, 3) := by decide +kernel
theorem dX12_promised_28 : decode cX12_promised 28 = .ok (.aload_n 0, 1) := by decide +kernel
theorem dX12_promised_29 : decode cX12_promised 29 = .ok (.iload_n 2, 1) := by decide +kernel
theorem dX12_promised_30 : decode cX12_promised 30 = .ok (.invokevirtual 256, 3) := by decide +kernel
theorem dX12_promised_33 : decode cX12_promised 33 = .ok (.ifCond .eq 14, 3) := by decide +kernel
theorem dX12_promised_36 : decode cX12_promised 36 = .ok (.aload_n 0, 1) := by decide +kernel
theorem dX12_promised_37 : decode cX12_promised 37 = .ok (.iload_n 2, 1) := by decide +kernel
theorem dX12_promised_38 : decode cX12_promised 38 = .ok (.invokevirtual 259, 3) := by decide +kernel
theorem dX12_promised_41 : decode cX12_promised 41 = .ok (.iload_n 1, 1) := by decide +kernel
theorem dX12_promised_42 : decode cX12_promised 42 = .ok (.if_icmp .ne 5, 3) := by decide +kernel
theorem dX12_promised_45 : decode cX12_promised 45 = .ok (.iload_n 2, 1) := by decide +kernel
theorem dX12_promised_46 : decode cX12_promised 46 = .ok (.ireturn, 1) := by decide +kernel
theorem dX12_promised_47 : decode cX12_promised 47 = .ok (.iinc 2 1, 3) := by decide +kernel
theorem dX12_promised_50 : decode cX12_promised 50 = .ok (.goto (-35), 3) := by decide +kernel
theorem dX12_promised_53 : decode cX12_promised 53 = .ok (.aload_n 0, 1) := by decide +kernel
theorem dX12_promised_54 : decode cX12_promised 54 = .ok (.getfield 60, 3) := by decide +kernel
theorem dX12_promised_57 : decode cX12_promised 57 = .ok (.ifCond .le 7, 3) := by decide +kernel
theorem dX12_promised_60 : decode cX12_promised 60 = .ok (.iconst 0, 1) := by decide +kernel
theorem dX12_promised_61 : decode cX12_promised 61 = .ok (.goto 4, 3) := by decide +kernel
theorem dX12_promised_64 : decode cX12_promised 64 = .ok (.iconst (-1), 1) := by decide +kernel
theorem dX12_promised_65 : decode cX12_promised 65 = .ok (.ireturn, 1) := by decide +kernel
theorem dX12_age_0 : decode cX12_age 0 = .ok (.aload_n 0, 1) := by decide +kernel
theorem dX12_age_1 : decode cX12_age 1 = .ok (.aload_n 0, 1) := by decide +kernel
theorem dX12_age_2 : decode cX12_age 2 = .ok (.iload_n 1, 1) := by decide +kernel
theorem dX12_age_3 : decode cX12_age 3 = .ok (.invokevirtual 134, 3) := by decide +kernel
theorem dX12_age_6 : decode cX12_age 6 = .ok (.ifCond .eq 7, 3) := by decide +kernel
theorem dX12_age_9 : decode cX12_age 9 = .ok (.iconst 0, 1) := by decide +kernel
theorem dX12_age_10 : decode cX12_age 10 = .ok (.goto 4, 3) := by decide +kernel
theorem dX12_age_13 : decode cX12_age 13 = .ok (.iconst 1, 1) := by decide +kernel
theorem dX12_age_14 : decode cX12_age 14 = .ok (.putfield 60, 3) := by decide +kernel
theorem dX12_age_17 : decode cX12_age 17 = .ok (.aload_n 0, 1) := by decide +kernel
theorem dX12_age_18 : decode cX12_age 18 = .ok (.getfield 60, 3) := by decide +kernel
theorem dX12_age_21 : decode cX12_age 21 = .ok (.ifCond .le 7, 3) := by decide +kernel
theorem dX12_age_24 : decode cX12_age 24 = .ok (.iconst 0, 1) := by decide +kernel
theorem dX12_age_25 : decode cX12_age 25 = .ok (.goto 29, 3) := by decide +kernel
theorem dX12_age_28 : decode cX12_age 28 = .ok (.aload_n 0, 1) := by decide +kernel
theorem dX12_age_29 : decode cX12_age 29 = .ok (.iload_n 1, 1) := by decide +kernel
theorem dX12_age_30 : decode cX12_age 30 = .ok (.iconst 2, 1) := by decide +kernel
theorem dX12_age_31 : decode cX12_age 31 = .ok (.invokevirtual 70, 3) := by decide +kernel
theorem dX12_age_34 : decode cX12_age 34 = .ok (.ifCond .ne 7, 3) := by decide +kernel
theorem dX12_age_37 : decode cX12_age 37 = .ok (.iconst (-1), 1) := by decide +kernel
theorem dX12_age_38 : decode cX12_age 38 = .ok (.goto 16, 3) := by decide +kernel
theorem dX12_age_41 : decode cX12_age 41 = .ok (.aload_n 0, 1) := by decide +kernel
theorem dX12_age_42 : decode cX12_age 42 = .ok (.getfield 13, 3) := by decide +kernel
theorem dX12_age_45 : decode cX12_age 45 = .ok (.iconst 0, 1) := by decide +kernel
theorem dX12_age_46 : decode cX12_age 46 = .ok (.iaload, 1) := by decide +kernel
theorem dX12_age_47 : decode cX12_age 47 = .ok (.aload_n 0, 1) := by decide +kernel
theorem dX12_age_48 : decode cX12_age 48 = .ok (.iload_n 1, 1) := by decide +kernel
theorem dX12_age_49 : decode cX12_age 49 = .ok (.iconst 0, 1) := by decide +kernel
theorem dX12_age_50 : decode cX12_age 50 = .ok (.invokevirtual 106, 3) := by decide +kernel
theorem dX12_age_53 : decode cX12_age 53 = .ok (.isub, 1) := by decide +kernel
theorem dX12_age_54 : decode cX12_age 54 = .ok (.ireturn, 1) := by decide +kernel
theorem dX12_mean_0 : decode cX12_mean 0 = .ok (.aload_n 0, 1) := by decide +kernel
theorem dX12_mean_1 : decode cX12_mean 1 = .ok (.aload_n 0, 1) := by decide +kernel
theorem dX12_mean_2 : decode cX12_mean 2 = .ok (.iload_n 1, 1) := by decide +kernel
theorem dX12_mean_3 : decode cX12_mean 3 = .ok (.invokevirtual 134, 3) := by decide +kernel
theorem dX12_mean_6 : decode cX12_mean 6 = .ok (.ifCond .eq 7, 3) := by decide +kernel
theorem dX12_mean_9 : decode cX12_mean 9 = .ok (.iconst 0, 1) := by decide +kernel
theorem dX12_mean_10 : decode cX12_mean 10 = .ok (.goto 4, 3) := by decide +kernel
theorem dX12_mean_13 : decode cX12_mean 13 = .ok (.iconst 1, 1) := by decide +kernel
theorem dX12_mean_14 : decode cX12_mean 14 = .ok (.putfield 60, 3) := by decide +kernel
theorem dX12_mean_17 : decode cX12_mean 17 = .ok (.aload_n 0, 1) := by decide +kernel
theorem dX12_mean_18 : decode cX12_mean 18 = .ok (.getfield 60, 3) := by decide +kernel
theorem dX12_mean_21 : decode cX12_mean 21 = .ok (.ifCond .gt 12, 3) := by decide +kernel
theorem dX12_mean_24 : decode cX12_mean 24 = .ok (.aload_n 0, 1) := by decide +kernel
theorem dX12_mean_25 : decode cX12_mean 25 = .ok (.iload_n 1, 1) := by decide +kernel
theorem dX12_mean_26 : decode cX12_mean 26 = .ok (.iconst 2, 1) := by decide +kernel
theorem dX12_mean_27 : decode cX12_mean 27 = .ok (.invokevirtual 70, 3) := by decide +kernel
theorem dX12_mean_30 : decode cX12_mean 30 = .ok (.ifCond .ne 5, 3) := by decide +kernel
theorem dX12_mean_33 : decode cX12_mean 33 = .ok (.dconst 0, 1) := by decide +kernel
theorem dX12_mean_34 : decode cX12_mean 34 = .ok (.dreturn, 1) := by decide +kernel
theorem dX12_mean_35 : decode cX12_mean 35 = .ok (.iconst 0, 1) := by decide +kernel
theorem dX12_mean_36 : decode cX12_mean 36 = .ok (.istore_n 2, 1) := by decide +kernel
theorem dX12_mean_37 : decode cX12_mean 37 = .ok (.iconst 0, 1) := by decide +kernel
theorem dX12_mean_38 : decode cX12_mean 38 = .ok (.istore_n 3, 1) := by decide +kernel
theorem dX12_mean_39 : decode cX12_mean 39 = .ok (.iload_n 3, 1) := by decide +kernel
theorem dX12_mean_40 : decode cX12_mean 40 = .ok (.aload_n 0, 1) := by decide +kernel
theorem dX12_mean_41 : decode cX12_mean 41 = .ok (.iload_n 1, 1) := by decide +kernel
theorem dX12_mean_42 : decode cX12_mean 42 = .ok (.iconst 2, 1) := by decide +kernel
theorem dX12_mean_43 : decode cX12_mean 43 = .ok (.invokevirtual 70, 3) := by decide +kernel
theorem dX12_mean_46 : decode cX12_mean 46 = .ok (.if_icmp .ge 18, 3) := by decide +kernel
theorem dX12_mean_49 : decode cX12_mean 49 = .ok (.iload_n 2, 1) := by decide +kernel
theorem dX12_mean_50 : decode cX12_mean 50 = .ok (.aload_n 0, 1) := by decide +kernel
theorem dX12_mean_51 : decode cX12_mean 51 = .ok (.iload_n 1, 1) := by decide +kernel
theorem dX12_mean_52 : decode cX12_mean 52 = .ok (.iload_n 3, 1) := by decide +kernel
theorem dX12_mean_53 : decode cX12_mean 53 = .ok (.invokevirtual 115, 3) := by decide +kernel
theorem dX12_mean_56 : decode cX12_mean 56 = .ok (.iadd, 1) := by decide +kernel
theorem dX12_mean_57 : decode cX12_mean 57 = .ok (.istore_n 2, 1) := by decide +kernel
theorem dX12_mean_58 : decode cX12_mean 58 = .ok (.iinc 3 1, 3) := by decide +kernel
theorem dX12_mean_61 : decode cX12_mean 61 = .ok (.goto (-22), 3) := by decide +kernel
theorem dX12_mean_64 : decode cX12_mean 64 = .ok (.iload_n 2, 1) := by decide +kernel
theorem dX12_mean_65 : decode cX12_mean 65 = .ok (.i2d, 1) := by decide +kernel
theorem dX12_mean_66 : decode cX12_mean 66 = .ok (.aload_n 0, 1) := by decide +kernel
theorem dX12_mean_67 : decode cX12_mean 67 = .ok (.iload_n 1, 1) := by decide +kernel
theorem dX12_mean_68 : decode cX12_mean 68 = .ok (.iconst 2, 1) := by decide +kernel
theorem dX12_mean_69 : decode cX12_mean 69 = .ok (.invokevirtual 70, 3) := by decide +kernel
theorem dX12_mean_72 : decode cX12_mean 72 = .ok (.i2d, 1) := by decide +kernel
theorem dX12_mean_73 : decode cX12_mean 73 = .ok (.ddiv, 1) := by decide +kernel
theorem dX12_mean_74 : decode cX12_mean 74 = .ok (.dreturn, 1) := by decide +kernel
theorem dX12_trust_0 : decode cX12_trust 0 = .ok (.aload_n 0, 1) := by decide +kernel
theorem dX12_trust_1 : decode cX12_trust 1 = .ok (.aload_n 0, 1) := by decide +kernel
theorem dX12_trust_2 : decode cX12_trust 2 = .ok (.iload_n 1, 1) := by decide +kernel
theorem dX12_trust_3 : decode cX12_trust 3 = .ok (.invokevirtual 77, 3) := by decide +kernel
theorem dX12_trust_6 : decode cX12_trust 6 = .ok (.ifCond .eq 7, 3) := by decide +kernel
theorem dX12_trust_9 : decode cX12_trust 9 = .ok (.iconst 0, 1) := by decide +kernel
theorem dX12_trust_10 : decode cX12_trust 10 = .ok (.goto 4, 3) := by decide +kernel
theorem dX12_trust_13 : decode cX12_trust 13 = .ok (.iconst 1, 1) := by decide +kernel
theorem dX12_trust_14 : decode cX12_trust 14 = .ok (.putfield 60, 3) := by decide +kernel
theorem dX12_trust_17 : decode cX12_trust 17 = .ok (.aload_n 0, 1) := by decide +kernel
theorem dX12_trust_18 : decode cX12_trust 18 = .ok (.getfield 60, 3) := by decide +kernel
theorem dX12_trust_21 : decode cX12_trust 21 = .ok (.ifCond .le 5, 3) := by decide +kernel
theorem dX12_trust_24 : decode cX12_trust 24 = .ok (.fconst 0, 1) := by decide +kernel
theorem dX12_trust_25 : decode cX12_trust 25 = .ok (.freturn, 1) := by decide +kernel
theorem dX12_trust_26 : decode cX12_trust 26 = .ok (.aload_n 0, 1) := by decide +kernel
theorem dX12_trust_27 : decode cX12_trust 27 = .ok (.iload_n 1, 1) := by decide +kernel
theorem dX12_trust_28 : decode cX12_trust 28 = .ok (.iconst 5, 1) := by decide +kernel
theorem dX12_trust_29 : decode cX12_trust 29 = .ok (.invokevirtual 74, 3) := by decide +kernel
theorem dX12_trust_32 : decode cX12_trust 32 = .ok (.aload_n 0, 1) := by decide +kernel
theorem dX12_trust_33 : decode cX12_trust 33 = .ok (.iload_n 1, 1) := by decide +kernel
theorem dX12_trust_34 : decode cX12_trust 34 = .ok (.bipush 6, 2) := by decide +kernel
theorem dX12_trust_36 : decode cX12_trust 36 = .ok (.invokevirtual 74, 3) := by decide +kernel
theorem dX12_trust_39 : decode cX12_trust 39 = .ok (.iadd, 1) := by decide +kernel
theorem dX12_trust_40 : decode cX12_trust 40 = .ok (.istore_n 2, 1) := by decide +kernel
theorem dX12_trust_41 : decode cX12_trust 41 = .ok (.iload_n 2, 1) := by decide +kernel
theorem dX12_trust_42 : decode cX12_trust 42 = .ok (.ifCond .ne 7, 3) := by decide +kernel
theorem dX12_trust_45 : decode cX12_trust 45 = .ok (.fconst 1, 1) := by decide +kernel
theorem dX12_trust_46 : decode cX12_trust 46 = .ok (.goto 13, 3) := by decide +kernel
theorem dX12_trust_49 : decode cX12_trust 49 = .ok (.aload_n 0, 1) := by decide +kernel
theorem dX12_trust_50 : decode cX12_trust 50 = .ok (.iload_n 1, 1) := by decide +kernel
theorem dX12_trust_51 : decode cX12_trust 51 = .ok (.iconst 5, 1) := by decide +kernel
theorem dX12_trust_52 : decode cX12_trust 52 = .ok (.invokevirtual 74, 3) := by decide +kernel
theorem dX12_trust_55 : decode cX12_trust 55 = .ok (.i2f, 1) := by decide +kernel
theorem dX12_trust_56 : decode cX12_trust 56 = .ok (.iload_n 2, 1) := by decide +kernel
theorem dX12_trust_57 : decode cX12_trust 57 = .ok (.i2f, 1) := by decide +kernel
theorem dX12_trust_58 : decode cX12_trust 58 = .ok (.fdiv, 1) := by decide +kernel
theorem dX12_trust_59 : decode cX12_trust 59 = .ok (.freturn, 1) := by decide +kernel
theorem dX12_greatestTotal_0 : decode cX12_greatestTotal 0 = .ok (.iconst 0, 1) := by decide +kernel
theorem dX12_greatestTotal_1 : decode cX12_greatestTotal 1 = .ok (.istore_n 1, 1) := by decide +kernel
theorem dX12_greatestTotal_2 : decode cX12_greatestTotal 2 = .ok (.iconst 0, 1) := by decide +kernel
theorem dX12_greatestTotal_3 : decode cX12_greatestTotal 3 = .ok (.istore_n 2, 1) := by decide +kernel
theorem dX12_greatestTotal_4 : decode cX12_greatestTotal 4 = .ok (.iload_n 2, 1) := by decide +kernel
theorem dX12_greatestTotal_5 : decode cX12_greatestTotal 5 = .ok (.iconst 4, 1) := by decide +kernel
theorem dX12_greatestTotal_6 : decode cX12_greatestTotal 6 = .ok (.if_icmp .ge 38, 3) := by decide +kernel
theorem dX12_greatestTotal_9 : decode cX12_greatestTotal 9 = .ok (.aload_n 0, 1) := by decide +kernel
theorem dX12_greatestTotal_10 : decode cX12_greatestTotal 10 = .ok (.iload_n 2, 1) := by decide +kernel
theorem dX12_greatestTotal_11 : decode cX12_greatestTotal 11 = .ok (.invokevirtual 134, 3) := by decide +kernel
theorem dX12_greatestTotal_14 : decode cX12_greatestTotal 14 = .ok (.ifCond .eq 22, 3) := by decide +kernel
theorem dX12_greatestTotal_17 : decode cX12_greatestTotal 17 = .ok (.aload_n 0, 1) := by decide +kernel
theorem dX12_greatestTotal_18 : decode cX12_greatestTotal 18 = .ok (.iload_n 2, 1) := by decide +kernel
theorem dX12_greatestTotal_19 : decode cX12_greatestTotal 19 = .ok (.iconst 3, 1) := by decide +kernel
theorem dX12_greatestTotal_20 : decode cX12_greatestTotal 20 = .ok (.invokevirtual 70, 3) := by decide +kernel
theorem dX12_greatestTotal_23 : decode cX12_greatestTotal 23 = .ok (.iload_n 1, 1) := by decide +kernel
theorem dX12_greatestTotal_24 : decode cX12_greatestTotal 24 = .ok (.if_icmp .le 12, 3) := by decide +kernel
theorem dX12_greatestTotal_27 : decode cX12_greatestTotal 27 = .ok (.aload_n 0, 1) := by decide +kernel
theorem dX12_greatestTotal_28 : decode cX12_greatestTotal 28 = .ok (.iload_n 2, 1) := by decide +kernel
theorem dX12_greatestTotal_29 : decode cX12_greatestTotal 29 = .ok (.iconst 3, 1) := by decide +kernel
theorem dX12_greatestTotal_30 : decode cX12_greatestTotal 30 = .ok (.invokevirtual 70, 3) := by decide +kernel
theorem dX12_greatestTotal_33 : decode cX12_greatestTotal 33 = .ok (.goto 4, 3) := by decide +kernel
theorem dX12_greatestTotal_36 : decode cX12_greatestTotal 36 = .ok (.iload_n 1, 1) := by decide +kernel
theorem dX12_greatestTotal_37 : decode cX12_greatestTotal 37 = .ok (.istore_n 1, 1) := by decide +kernel
theorem dX12_greatestTotal_38 : decode cX12_greatestTotal 38 = .ok (.iinc 2 1, 3) := by decide +kernel
theorem dX12_greatestTotal_41 : decode cX12_greatestTotal 41 = .ok (.goto (-37), 3) := by decide +kernel
theorem dX12_greatestTotal_44 : decode cX12_greatestTotal 44 = .ok (.iload_n 1, 1) := by decide +kernel
theorem dX12_greatestTotal_45 : decode cX12_greatestTotal 45 = .ok (.ireturn, 1) := by decide +kernel
theorem dX12_ahead_0 : decode cX12_ahead 0 = .ok (.aload_n 0, 1) := by decide +kernel
theorem dX12_ahead_1 : decode cX12_ahead 1 = .ok (.iload_n 1, 1) := by decide +kernel
theorem dX12_ahead_2 : decode cX12_ahead 2 = .ok (.iconst 1, 1) := by decide +kernel
theorem dX12_ahead_3 : decode cX12_ahead 3 = .ok (.bipush 99, 2) := by decide +kernel
theorem dX12_ahead_5 : decode cX12_ahead 5 = .ok (.invokestatic 66, 3) := by decide +kernel
theorem dX12_ahead_8 : decode cX12_ahead 8 = .ok (.ifCond .eq 16, 3) := by decide +kernel
theorem dX12_ahead_11 : decode cX12_ahead 11 = .ok (.iload_n 2, 1) := by decide +kernel
theorem dX12_ahead_12 : decode cX12_ahead 12 = .ok (.iconst 0, 1) := by decide +kernel
theorem dX12_ahead_13 : decode cX12_ahead 13 = .ok (.iconst 3, 1) := by decide +kernel
theorem dX12_ahead_14 : decode cX12_ahead 14 = .ok (.invokestatic 66, 3) := by decide +kernel
theorem dX12_ahead_17 : decode cX12_ahead 17 = .ok (.ifCond .eq 7, 3) := by decide +kernel
theorem dX12_ahead_20 : decode cX12_ahead 20 = .ok (.iconst 0, 1) := by decide +kernel
theorem dX12_ahead_21 : decode cX12_ahead 21 = .ok (.goto 4, 3) := by decide +kernel
theorem dX12_ahead_24 : decode cX12_ahead 24 = .ok (.iconst 1, 1) := by decide +kernel
theorem dX12_ahead_25 : decode cX12_ahead 25 = .ok (.putfield 60, 3) := by decide +kernel
theorem dX12_ahead_28 : decode cX12_ahead 28 = .ok (.aload_n 0, 1) := by decide +kernel
theorem dX12_ahead_29 : decode cX12_ahead 29 = .ok (.getfield 60, 3) := by decide +kernel
theorem dX12_ahead_32 : decode cX12_ahead 32 = .ok (.ifCond .le 5, 3) := by decide +kernel
theorem dX12_ahead_35 : decode cX12_ahead 35 = .ok (.iconst 0, 1) := by decide +kernel
theorem dX12_ahead_36 : decode cX12_ahead 36 = .ok (.ireturn, 1) := by decide +kernel
theorem dX12_ahead_37 : decode cX12_ahead 37 = .ok (.aload_n 0, 1) := by decide +kernel
theorem dX12_ahead_38 : decode cX12_ahead 38 = .ok (.getfield 13, 3) := by decide +kernel
theorem dX12_ahead_41 : decode cX12_ahead 41 = .ok (.iconst 0, 1) := by decide +kernel
theorem dX12_ahead_42 : decode cX12_ahead 42 = .ok (.aload_n 0, 1) := by decide +kernel
theorem dX12_ahead_43 : decode cX12_ahead 43 = .ok (.getfield 16, 3) := by decide +kernel
theorem dX12_ahead_46 : decode cX12_ahead 46 = .ok (.iconst 0, 1) := by decide +kernel
theorem dX12_ahead_47 : decode cX12_ahead 47 = .ok (.invokestatic 176, 3) := by decide +kernel
theorem dX12_ahead_50 : decode cX12_ahead 50 = .ok (.aload_n 0, 1) := by decide +kernel
theorem dX12_ahead_51 : decode cX12_ahead 51 = .ok (.invokevirtual 247, 3) := by decide +kernel
theorem dX12_ahead_54 : decode cX12_ahead 54 = .ok (.iconst 0, 1) := by decide +kernel
theorem dX12_ahead_55 : decode cX12_ahead 55 = .ok (.istore_n 3, 1) := by decide +kernel
theorem dX12_ahead_56 : decode cX12_ahead 56 = .ok (.iload_n 3, 1) := by decide +kernel
theorem dX12_ahead_57 : decode cX12_ahead 57 = .ok (.iload_n 1, 1) := by decide +kernel
theorem dX12_ahead_58 : decode cX12_ahead 58 = .ok (.if_icmp .ge 13, 3) := by decide +kernel
theorem dX12_ahead_61 : decode cX12_ahead 61 = .ok (.aload_n 0, 1) := by decide +kernel
theorem dX12_ahead_62 : decode cX12_ahead 62 = .ok (.invokevirtual 250, 3) := by decide +kernel
theorem dX12_ahead_65 : decode cX12_ahead 65 = .ok (.iinc 3 1, 3) := by decide +kernel
theorem dX12_ahead_68 : decode cX12_ahead 68 = .ok (.goto (-12), 3) := by decide +kernel
theorem dX12_ahead_71 : decode cX12_ahead 71 = .ok (.iload_n 2, 1) := by decide +kernel
theorem dX12_ahead_72 : decode cX12_ahead 72 = .ok (.ifCond .ne 10, 3) := by decide +kernel
theorem dX12_ahead_75 : decode cX12_ahead 75 = .ok (.aload_n 0, 1) := by decide +kernel
theorem dX12_ahead_76 : decode cX12_ahead 76 = .ok (.getfield 84, 3) := by decide +kernel
theorem dX12_ahead_79 : decode cX12_ahead 79 = .ok (.goto 31, 3) := by decide +kernel
theorem dX12_ahead_82 : decode cX12_ahead 82 = .ok (.iload_n 2, 1) := by decide +kernel
theorem dX12_ahead_83 : decode cX12_ahead 83 = .ok (.iconst 1, 1) := by decide +kernel
theorem dX12_ahead_84 : decode cX12_ahead 84 = .ok (.if_icmp .ne 10, 3) := by decide +kernel
theorem dX12_ahead_87 : decode cX12_ahead 87 = .ok (.aload_n 0, 1) := by decide +kernel
theorem dX12_ahead_88 : decode cX12_ahead 88 = .ok (.getfield 87, 3) := by decide +kernel
theorem dX12_ahead_91 : decode cX12_ahead 91 = .ok (.goto 19, 3) := by decide +kernel
theorem dX12_ahead_94 : decode cX12_ahead 94 = .ok (.iload_n 2, 1) := by decide +kernel
theorem dX12_ahead_95 : decode cX12_ahead 95 = .ok (.iconst 2, 1) := by decide +kernel
theorem dX12_ahead_96 : decode cX12_ahead 96 = .ok (.if_icmp .ne 10, 3) := by decide +kernel
theorem dX12_ahead_99 : decode cX12_ahead 99 = .ok (.aload_n 0, 1) := by decide +kernel
theorem dX12_ahead_100 : decode cX12_ahead 100 = .ok (.getfield 90, 3) := by decide +kernel
theorem dX12_ahead_103 : decode cX12_ahead 103 = .ok (.goto 7, 3) := by decide +kernel
theorem dX12_ahead_106 : decode cX12_ahead 106 = .ok (.aload_n 0, 1) := by decide +kernel
theorem dX12_ahead_107 : decode cX12_ahead 107 = .ok (.invokevirtual 262, 3) := by decide +kernel
theorem dX12_ahead_110 : decode cX12_ahead 110 = .ok (.istore_n 3, 1) := by decide +kernel
theorem dX12_ahead_111 : decode cX12_ahead 111 = .ok (.aload_n 0, 1) := by decide +kernel
theorem dX12_ahead_112 : decode cX12_ahead 112 = .ok (.getfield 16, 3) := by decide +kernel
theorem dX12_ahead_115 : decode cX12_ahead 115 = .ok (.iconst 0, 1) := by decide +kernel
theorem dX12_ahead_116 : decode cX12_ahead 116 = .ok (.aload_n 0, 1) := by decide +kernel
theorem dX12_ahead_117 : decode cX12_ahead 117 = .ok (.getfield 13, 3) := by decide +kernel
theorem dX12_ahead_120 : decode cX12_ahead 120 = .ok (.iconst 0, 1) := by decide +kernel
theorem dX12_ahead_121 : decode cX12_ahead 121 = .ok (.invokestatic 176, 3) := by decide +kernel
theorem dX12_ahead_124 : decode cX12_ahead 124 = .ok (.iload_n 3, 1) := by decide +kernel
theorem dX12_ahead_125 : decode cX12_ahead 125 = .ok (.ireturn, 1) := by decide +kernel
theorem dX12_losesIn_0 : decode cX12_losesIn 0 = .ok (.aload_n 0, 1) := by decide +kernel
theorem dX12_losesIn_1 : decode cX12_losesIn 1 = .ok (.aload_n 0, 1) := by decide +kernel
theorem dX12_losesIn_2 : decode cX12_losesIn 2 = .ok (.iload_n 1, 1) := by decide +kernel
theorem dX12_losesIn_3 : decode cX12_losesIn 3 = .ok (.invokevirtual 77, 3) := by decide +kernel
theorem dX12_losesIn_6 : decode cX12_losesIn 6 = .ok (.ifCond .ne 7, 3) := by decide +kernel
theorem dX12_losesIn_9 : decode cX12_losesIn 9 = .ok (.iconst 1, 1) := by decide +kernel
theorem dX12_losesIn_10 : decode cX12_losesIn 10 = .ok (.goto 19, 3) := by decide +kernel
theorem dX12_losesIn_13 : decode cX12_losesIn 13 = .ok (.iload_n 2, 1) := by decide +kernel
theorem dX12_losesIn_14 : decode cX12_losesIn 14 = .ok (.iconst 1, 1) := by decide +kernel
theorem dX12_losesIn_15 : decode cX12_losesIn 15 = .ok (.sipush 200, 3) := by decide +kernel
theorem dX12_losesIn_18 : decode cX12_losesIn 18 = .ok (.invokestatic 66, 3) := by decide +kernel
theorem dX12_losesIn_21 : decode cX12_losesIn 21 = .ok (.ifCond .eq 7, 3) := by decide +kernel
theorem dX12_losesIn_24 : decode cX12_losesIn 24 = .ok (.iconst 0, 1) := by decide +kernel
theorem dX12_losesIn_25 : decode cX12_losesIn 25 = .ok (.goto 4, 3) := by decide +kernel
theorem dX12_losesIn_28 : decode cX12_losesIn 28 = .ok (.iconst 2, 1) := by decide +kernel
theorem dX12_losesIn_29 : decode cX12_losesIn 29 = .ok (.putfield 60, 3) := by decide +kernel
theorem dX12_losesIn_32 : decode cX12_losesIn 32 = .ok (.aload_n 0, 1) := by decide +kernel
theorem dX12_losesIn_33 : decode cX12_losesIn 33 = .ok (.getfield 60, 3) := by decide +kernel
theorem dX12_losesIn_36 : decode cX12_losesIn 36 = .ok (.ifCond .le 5, 3) := by decide +kernel
theorem dX12_losesIn_39 : decode cX12_losesIn 39 = .ok (.iconst 0, 1) := by decide +kernel
theorem dX12_losesIn_40 : decode cX12_losesIn 40 = .ok (.ireturn, 1) := by decide +kernel
theorem dX12_losesIn_41 : decode cX12_losesIn 41 = .ok (.aload_n 0, 1) := by decide +kernel
theorem dX12_losesIn_42 : decode cX12_losesIn 42 = .ok (.getfield 13, 3) := by decide +kernel
theorem dX12_losesIn_45 : decode cX12_losesIn 45 = .ok (.iconst 0, 1) := by decide +kernel
theorem dX12_losesIn_46 : decode cX12_losesIn 46 = .ok (.aload_n 0, 1) := by decide +kernel
theorem dX12_losesIn_47 : decode cX12_losesIn 47 = .ok (.getfield 16, 3) := by decide +kernel
theorem dX12_losesIn_50 : decode cX12_losesIn 50 = .ok (.iconst 0, 1) := by decide +kernel
theorem dX12_losesIn_51 : decode cX12_losesIn 51 = .ok (.invokestatic 176, 3) := by decide +kernel
theorem dX12_losesIn_54 : decode cX12_losesIn 54 = .ok (.aload_n 0, 1) := by decide +kernel
theorem dX12_losesIn_55 : decode cX12_losesIn 55 = .ok (.invokevirtual 247, 3) := by decide +kernel
theorem dX12_losesIn_58 : decode cX12_losesIn 58 = .ok (.iconst 0, 1) := by decide +kernel
theorem dX12_losesIn_59 : decode cX12_losesIn 59 = .ok (.istore_n 3, 1) := by decide +kernel
theorem dX12_losesIn_60 : decode cX12_losesIn 60 = .ok (.iload_n 3, 1) := by decide +kernel
theorem dX12_losesIn_61 : decode cX12_losesIn 61 = .ok (.iload_n 2, 1) := by decide +kernel
theorem dX12_losesIn_62 : decode cX12_losesIn 62 = .ok (.if_icmp .ge 22, 3) := by decide +kernel
theorem dX12_losesIn_65 : decode cX12_losesIn 65 = .ok (.aload_n 0, 1) := by decide +kernel
theorem dX12_losesIn_66 : decode cX12_losesIn 66 = .ok (.getfield 33, 3) := by decide +kernel
theorem dX12_losesIn_69 : decode cX12_losesIn 69 = .ok (.iload_n 1, 1) := by decide +kernel
theorem dX12_losesIn_70 : decode cX12_losesIn 70 = .ok (.iaload, 1) := by decide +kernel
theorem dX12_losesIn_71 : decode cX12_losesIn 71 = .ok (.ifCond .ne 13, 3) := by decide +kernel
theorem dX12_losesIn_74 : decode cX12_losesIn 74 = .ok (.aload_n 0, 1) := by decide +kernel
theorem dX12_losesIn_75 : decode cX12_losesIn 75 = .ok (.invokevirtual 250, 3) := by decide +kernel
theorem dX12_losesIn_78 : decode cX12_losesIn 78 = .ok (.iinc 3 1, 3) := by decide +kernel
theorem dX12_losesIn_81 : decode cX12_losesIn 81 = .ok (.goto (-21), 3) := by decide +kernel
theorem dX12_losesIn_84 : decode cX12_losesIn 84 = .ok (.aload_n 0, 1) := by decide +kernel
theorem dX12_losesIn_85 : decode cX12_losesIn 85 = .ok (.getfield 16, 3) := by decide +kernel
theorem dX12_losesIn_88 : decode cX12_losesIn 88 = .ok (.iconst 0, 1) := by decide +kernel
theorem dX12_losesIn_89 : decode cX12_losesIn 89 = .ok (.aload_n 0, 1) := by decide +kernel
theorem dX12_losesIn_90 : decode cX12_losesIn 90 = .ok (.getfield 13, 3) := by decide +kernel
theorem dX12_losesIn_93 : decode cX12_losesIn 93 = .ok (.iconst 0, 1) := by decide +kernel
theorem dX12_losesIn_94 : decode cX12_losesIn 94 = .ok (.invokestatic 176, 3) := by decide +kernel
theorem dX12_losesIn_97 : decode cX12_losesIn 97 = .ok (.aload_n 0, 1) := by decide +kernel
theorem dX12_losesIn_98 : decode cX12_losesIn 98 = .ok (.getfield 33, 3) := by decide +kernel
theorem dX12_losesIn_101 : decode cX12_losesIn 101 = .ok (.iload_n 1, 1) := by decide +kernel
theorem dX12_losesIn_102 : decode cX12_losesIn 102 = .ok (.iaload, 1) := by decide +kernel
theorem dX12_losesIn_103 : decode cX12_losesIn 103 = .ok (.ifCond .le 7, 3) := by decide +kernel
theorem dX12_losesIn_106 : decode cX12_losesIn 106 = .ok (.iload_n 3, 1) := by decide +kernel
theorem dX12_losesIn_107 : decode cX12_losesIn 107 = .ok (.goto 4, 3) := by decide +kernel
theorem dX12_losesIn_110 : decode cX12_losesIn 110 = .ok (.iconst (-1), 1) := by decide +kernel
theorem dX12_losesIn_111 : decode cX12_losesIn 111 = .ok (.ireturn, 1) := by decide +kernel
theorem dX12_appendText_0 : decode cX12_appendText 0 = .ok (.aload_n 0, 1) := by decide +kernel
theorem dX12_appendText_1 : decode cX12_appendText 1 = .ok (.aload_n 0, 1) := by decide +kernel
theorem dX12_appendText_2 : decode cX12_appendText 2 = .ok (.getfield 265, 3) := by decide +kernel
theorem dX12_appendText_5 : decode cX12_appendText 5 = .ok (.iconst 4, 1) := by decide +kernel
theorem dX12_appendText_6 : decode cX12_appendText 6 = .ok (.iadd, 1) := by decide +kernel
theorem dX12_appendText_7 : decode cX12_appendText 7 = .ok (.sipush 700, 3) := by decide +kernel
theorem dX12_appendText_10 : decode cX12_appendText 10 = .ok (.if_icmp .gt 7, 3) := by decide +kernel
theorem dX12_appendText_13 : decode cX12_appendText 13 = .ok (.iconst 0, 1) := by decide +kernel
theorem dX12_appendText_14 : decode cX12_appendText 14 = .ok (.goto 4, 3) := by decide +kernel
theorem dX12_appendText_17 : decode cX12_appendText 17 = .ok (.iconst 1, 1) := by decide +kernel
theorem dX12_appendText_18 : decode cX12_appendText 18 = .ok (.putfield 60, 3) := by decide +kernel
theorem dX12_appendText_21 : decode cX12_appendText 21 = .ok (.aload_n 0, 1) := by decide +kernel
theorem dX12_appendText_22 : decode cX12_appendText 22 = .ok (.getfield 60, 3) := by decide +kernel
theorem dX12_appendText_25 : decode cX12_appendText 25 = .ok (.ifCond .le 5, 3) := by decide +kernel
theorem dX12_appendText_28 : decode cX12_appendText 28 = .ok (.iconst 0, 1) := by decide +kernel
theorem dX12_appendText_29 : decode cX12_appendText 29 = .ok (.ireturn, 1) := by decide +kernel
theorem dX12_appendText_30 : decode cX12_appendText 30 = .ok (.bipush 24, 2) := by decide +kernel
theorem dX12_appendText_32 : decode cX12_appendText 32 = .ok (.istore_n 2, 1) := by decide +kernel
theorem dX12_appendText_33 : decode cX12_appendText 33 = .ok (.iload_n 2, 1) := by decide +kernel
theorem dX12_appendText_34 : decode cX12_appendText 34 = .ok (.ifCond .lt 32, 3) := by decide +kernel
theorem dX12_appendText_37 : decode cX12_appendText 37 = .ok (.aload_n 0, 1) := by decide +kernel
theorem dX12_appendText_38 : decode cX12_appendText 38 = .ok (.getfield 39, 3) := by decide +kernel
theorem dX12_appendText_41 : decode cX12_appendText 41 = .ok (.aload_n 0, 1) := by decide +kernel
theorem dX12_appendText_42 : decode cX12_appendText 42 = .ok (.getfield 265, 3) := by decide +kernel
theorem dX12_appendText_45 : decode cX12_appendText 45 = .ok (.iload_n 1, 1) := by decide +kernel
theorem dX12_appendText_46 : decode cX12_appendText 46 = .ok (.iload_n 2, 1) := by decide +kernel
theorem dX12_appendText_47 : decode cX12_appendText 47 = .ok (.ishr, 1) := by decide +kernel
theorem dX12_appendText_48 : decode cX12_appendText 48 = .ok (.i2b, 1) := by decide +kernel
theorem dX12_appendText_49 : decode cX12_appendText 49 = .ok (.bastore, 1) := by decide +kernel
theorem dX12_appendText_50 : decode cX12_appendText 50 = .ok (.aload_n 0, 1) := by decide +kernel
theorem dX12_appendText_51 : decode cX12_appendText 51 = .ok (.dup, 1) := by decide +kernel
theorem dX12_appendText_52 : decode cX12_appendText 52 = .ok (.getfield 265, 3) := by decide +kernel
theorem dX12_appendText_55 : decode cX12_appendText 55 = .ok (.iconst 1, 1) := by decide +kernel
theorem dX12_appendText_56 : decode cX12_appendText 56 = .ok (.iadd, 1) := by decide +kernel
theorem dX12_appendText_57 : decode cX12_appendText 57 = .ok (.putfield 265, 3) := by decide +kernel
theorem dX12_appendText_60 : decode cX12_appendText 60 = .ok (.iinc 2 (-8), 3) := by decide +kernel
theorem dX12_appendText_63 : decode cX12_appendText 63 = .ok (.goto (-30), 3) := by decide +kernel
theorem dX12_appendText_66 : decode cX12_appendText 66 = .ok (.aload_n 0, 1) := by decide +kernel
theorem dX12_appendText_67 : decode cX12_appendText 67 = .ok (.getfield 265, 3) := by decide +kernel
theorem dX12_appendText_70 : decode cX12_appendText 70 = .ok (.ireturn, 1) := by decide +kernel
theorem dX12_truncateText_0 : decode cX12_truncateText 0 = .ok (.aload_n 0, 1) := by decide +kernel
theorem dX12_truncateText_1 : decode cX12_truncateText 1 = .ok (.iload_n 1, 1) := by decide +kernel
theorem dX12_truncateText_2 : decode cX12_truncateText 2 = .ok (.iconst 0, 1) := by decide +kernel
theorem dX12_truncateText_3 : decode cX12_truncateText 3 = .ok (.aload_n 0, 1) := by decide +kernel
theorem dX12_truncateText_4 : decode cX12_truncateText 4 = .ok (.getfield 265, 3) := by decide +kernel
theorem dX12_truncateText_7 : decode cX12_truncateText 7 = .ok (.invokestatic 66, 3) := by decide +kernel
theorem dX12_truncateText_10 : decode cX12_truncateText 10 = .ok (.ifCond .eq 7, 3) := by decide +kernel
theorem dX12_truncateText_13 : decode cX12_truncateText 13 = .ok (.iconst 0, 1) := by decide +kernel
theorem dX12_truncateText_14 : decode cX12_truncateText 14 = .ok (.goto 4, 3) := by decide +kernel
theorem dX12_truncateText_17 : decode cX12_truncateText 17 = .ok (.iconst 1, 1) := by decide +kernel
theorem dX12_truncateText_18 : decode cX12_truncateText 18 = .ok (.putfield 60, 3) := by decide +kernel
theorem dX12_truncateText_21 : decode cX12_truncateText 21 = .ok (.aload_n 0, 1) := by decide +kernel
theorem dX12_truncateText_22 : decode cX12_truncateText 22 = .ok (.getfield 60, 3) := by decide +kernel
theorem dX12_truncateText_25 : decode cX12_truncateText 25 = .ok (.ifCond .le 5, 3) := by decide +kernel
theorem dX12_truncateText_28 : decode cX12_truncateText 28 = .ok (.iconst 0, 1) := by decide +kernel
theorem dX12_truncateText_29 : decode cX12_truncateText 29 = .ok (.ireturn, 1) := by decide +kernel
theorem dX12_truncateText_30 : decode cX12_truncateText 30 = .ok (.aload_n 0, 1) := by decide +kernel
theorem dX12_truncateText_31 : decode cX12_truncateText 31 = .ok (.iload_n 1, 1) := by decide +kernel
theorem dX12_truncateText_32 : decode cX12_truncateText 32 = .ok (.putfield 265, 3) := by decide +kernel
theorem dX12_truncateText_35 : decode cX12_truncateText 35 = .ok (.aload_n 0, 1) := by decide +kernel
theorem dX12_truncateText_36 : decode cX12_truncateText 36 = .ok (.getfield 265, 3) := by decide +kernel
theorem dX12_truncateText_39 : decode cX12_truncateText 39 = .ok (.ireturn, 1) := by decide +kernel
theorem dX12_see_0 : decode cX12_see 0 = .ok (.aload_n 0, 1) := by decide +kernel
theorem dX12_see_1 : decode cX12_see 1 = .ok (.getfield 268, 3) := by decide +kernel
theorem dX12_see_4 : decode cX12_see 4 = .ok (.aload_n 0, 1) := by decide +kernel
theorem dX12_see_5 : decode cX12_see 5 = .ok (.getfield 265, 3) := by decide +kernel
theorem dX12_see_8 : decode cX12_see 8 = .ok (.if_icmp .ge 19, 3) := by decide +kernel
theorem dX12_see_11 : decode cX12_see 11 = .ok (.aload_n 0, 1) := by decide +kernel
theorem dX12_see_12 : decode cX12_see 12 = .ok (.getfield 39, 3) := by decide +kernel
theorem dX12_see_15 : decode cX12_see 15 = .ok (.aload_n 0, 1) := by decide +kernel
theorem dX12_see_16 : decode cX12_see 16 = .ok (.getfield 268, 3) := by decide +kernel
theorem dX12_see_19 : decode cX12_see 19 = .ok (.baload, 1) := by decide +kernel
theorem dX12_see_20 : decode cX12_see 20 = .ok (.sipush 255, 3) := by decide +kernel
theorem dX12_see_23 : decode cX12_see 23 = .ok (.iand, 1) := by decide +kernel
theorem dX12_see_24 : decode cX12_see 24 = .ok (.goto 4, 3) := by decide +kernel
theorem dX12_see_27 : decode cX12_see 27 = .ok (.iconst (-1), 1) := by decide +kernel
theorem dX12_see_28 : decode cX12_see 28 = .ok (.ireturn, 1) := by decide +kernel
theorem dX12_isSmall_0 : decode cX12_isSmall 0 = .ok (.aload_n 0, 1) := by decide +kernel
theorem dX12_isSmall_1 : decode cX12_isSmall 1 = .ok (.invokevirtual 271, 3) := by decide +kernel
theorem dX12_isSmall_4 : decode cX12_isSmall 4 = .ok (.bipush 97, 2) := by decide +kernel
theorem dX12_isSmall_6 : decode cX12_isSmall 6 = .ok (.bipush 122, 2) := by decide +kernel
theorem dX12_isSmall_8 : decode cX12_isSmall 8 = .ok (.invokestatic 66, 3) := by decide +kernel
theorem dX12_isSmall_11 : decode cX12_isSmall 11 = .ok (.ireturn, 1) := by decide +kernel
theorem dX12_isDigit_0 : decode cX12_isDigit 0 = .ok (.aload_n 0, 1) := by decide +kernel
theorem dX12_isDigit_1 : decode cX12_isDigit 1 = .ok (.invokevirtual 271, 3) := by decide +kernel
theorem dX12_isDigit_4 : decode cX12_isDigit 4 = .ok (.bipush 48, 2) := by decide +kernel
theorem dX12_isDigit_6 : decode cX12_isDigit 6 = .ok (.bipush 57, 2) := by decide +kernel
theorem dX12_isDigit_8 : decode cX12_isDigit 8 = .ok (.invokestatic 66, 3) := by decide +kernel
theorem dX12_isDigit_11 : decode cX12_isDigit 11 = .ok (.ireturn, 1) := by decide +kernel
theorem dX12_markOf_0 : decode cX12_markOf 0 = .ok (.iload_n 0, 1) := by decide +kernel
theorem dX12_markOf_1 : decode cX12_markOf 1 = .ok (.bipush 59, 2) := by decide +kernel
theorem dX12_markOf_3 : decode cX12_markOf 3 = .ok (.if_icmp .ne 7, 3) := by decide +kernel
theorem dX12_markOf_6 : decode cX12_markOf 6 = .ok (.iconst 3, 1) := by decide +kernel
theorem dX12_markOf_7 : decode cX12_markOf 7 = .ok (.goto 14, 3) := by decide +kernel
theorem dX12_markOf_10 : decode cX12_markOf 10 = .ok (.iload_n 0, 1) := by decide +kernel
theorem dX12_markOf_11 : decode cX12_markOf 11 = .ok (.bipush 45, 2) := by decide +kernel
theorem dX12_markOf_13 : decode cX12_markOf 13 = .ok (.if_icmp .ne 7, 3) := by decide +kernel
theorem dX12_markOf_16 : decode cX12_markOf 16 = .ok (.iconst 4, 1) := by decide +kernel
theorem dX12_markOf_17 : decode cX12_markOf 17 = .ok (.goto 4, 3) := by decide +kernel
theorem dX12_markOf_20 : decode cX12_markOf 20 = .ok (.iconst 5, 1) := by decide +kernel
theorem dX12_markOf_21 : decode cX12_markOf 21 = .ok (.ireturn, 1) := by decide +kernel
theorem dX12_goesOn_0 : decode cX12_goesOn 0 = .ok (.aload_n 0, 1) := by decide +kernel
theorem dX12_goesOn_1 : decode cX12_goesOn 1 = .ok (.invokevirtual 271, 3) := by decide +kernel
theorem dX12_goesOn_4 : decode cX12_goesOn 4 = .ok (.bipush 32, 2) := by decide +kernel
theorem dX12_goesOn_6 : decode cX12_goesOn 6 = .ok (.if_icmp .eq 12, 3) := by decide +kernel
theorem dX12_goesOn_9 : decode cX12_goesOn 9 = .ok (.aload_n 0, 1) := by decide +kernel
theorem dX12_goesOn_10 : decode cX12_goesOn 10 = .ok (.invokevirtual 271, 3) := by decide +kernel
theorem dX12_goesOn_13 : decode cX12_goesOn 13 = .ok (.bipush 10, 2) := by decide +kernel
theorem dX12_goesOn_15 : decode cX12_goesOn 15 = .ok (.if_icmp .ne 16, 3) := by decide +kernel
theorem dX12_goesOn_18 : decode cX12_goesOn 18 = .ok (.aload_n 0, 1) := by decide +kernel
theorem dX12_goesOn_19 : decode cX12_goesOn 19 = .ok (.dup, 1) := by decide +kernel
theorem dX12_goesOn_20 : decode cX12_goesOn 20 = .ok (.getfield 268, 3) := by decide +kernel
theorem dX12_goesOn_23 : decode cX12_goesOn 23 = .ok (.iconst 1, 1) := by decide +kernel
theorem dX12_goesOn_24 : decode cX12_goesOn 24 = .ok (.iadd, 1) := by decide +kernel
theorem dX12_goesOn_25 : decode cX12_goesOn 25 = .ok (.putfield 268, 3) := by decide +kernel
theorem dX12_goesOn_28 : decode cX12_goesOn 28 = .ok (.goto (-28), 3) := by decide +kernel
theorem dX12_goesOn_31 : decode cX12_goesOn 31 = .ok (.aload_n 0, 1) := by decide +kernel
theorem dX12_goesOn_32 : decode cX12_goesOn 32 = .ok (.aload_n 0, 1) := by decide +kernel
theorem dX12_goesOn_33 : decode cX12_goesOn 33 = .ok (.getfield 268, 3) := by decide +kernel
theorem dX12_goesOn_36 : decode cX12_goesOn 36 = .ok (.putfield 274, 3) := by decide +kernel
theorem dX12_goesOn_39 : decode cX12_goesOn 39 = .ok (.aload_n 0, 1) := by decide +kernel
theorem dX12_goesOn_40 : decode cX12_goesOn 40 = .ok (.aload_n 0, 1) := by decide +kernel
theorem dX12_goesOn_41 : decode cX12_goesOn 41 = .ok (.invokevirtual 271, 3) := by decide +kernel
theorem dX12_goesOn_44 : decode cX12_goesOn 44 = .ok (.iconst (-1), 1) := by decide +kernel
theorem dX12_goesOn_45 : decode cX12_goesOn 45 = .ok (.if_icmp .ne 7, 3) := by decide +kernel
theorem dX12_goesOn_48 : decode cX12_goesOn 48 = .ok (.iconst 0, 1) := by decide +kernel
theorem dX12_goesOn_49 : decode cX12_goesOn 49 = .ok (.goto 32, 3) := by decide +kernel
theorem dX12_goesOn_52 : decode cX12_goesOn 52 = .ok (.aload_n 0, 1) := by decide +kernel
theorem dX12_goesOn_53 : decode cX12_goesOn 53 = .ok (.invokevirtual 277, 3) := by decide +kernel
theorem dX12_goesOn_56 : decode cX12_goesOn 56 = .ok (.ifCond .eq 7, 3) := by decide +kernel
theorem dX12_goesOn_59 : decode cX12_goesOn 59 = .ok (.iconst 1, 1) := by decide +kernel
theorem dX12_goesOn_60 : decode cX12_goesOn 60 = .ok (.goto 21, 3) := by decide +kernel
theorem dX12_goesOn_63 : decode cX12_goesOn 63 = .ok (.aload_n 0, 1) := by decide +kernel
theorem dX12_goesOn_64 : decode cX12_goesOn 64 = .ok (.invokevirtual 281, 3) := by decide +kernel
theorem dX12_goesOn_67 : decode cX12_goesOn 67 = .ok (.ifCond .eq 7, 3) := by decide +kernel
theorem dX12_goesOn_70 : decode cX12_goesOn 70 = .ok (.iconst 2, 1) := by decide +kernel
theorem dX12_goesOn_71 : decode cX12_goesOn 71 = .ok (.goto 10, 3) := by decide +kernel
theorem dX12_goesOn_74 : decode cX12_goesOn 74 = .ok (.aload_n 0, 1) := by decide +kernel
theorem dX12_goesOn_75 : decode cX12_goesOn 75 = .ok (.invokevirtual 271, 3) := by decide +kernel
theorem dX12_goesOn_78 : decode cX12_goesOn 78 = .ok (.invokestatic 284, 3) := by decide +kernel
theorem dX12_goesOn_81 : decode cX12_goesOn 81 = .ok (.putfield 287, 3) := by decide +kernel
theorem dX12_goesOn_84 : decode cX12_goesOn 84 = .ok (.aload_n 0, 1) := by decide +kernel
theorem dX12_goesOn_85 : decode cX12_goesOn 85 = .ok (.iconst 0, 1) := by decide +kernel
theorem dX12_goesOn_86 : decode cX12_goesOn 86 = .ok (.putfield 290, 3) := by decide +kernel
theorem dX12_goesOn_89 : decode cX12_goesOn 89 = .ok (.aload_n 0, 1) := by decide +kernel
theorem dX12_goesOn_90 : decode cX12_goesOn 90 = .ok (.dup, 1) := by decide +kernel
theorem dX12_goesOn_91 : decode cX12_goesOn 91 = .ok (.getfield 268, 3) := by decide +kernel
theorem dX12_goesOn_94 : decode cX12_goesOn 94 = .ok (.aload_n 0, 1) := by decide +kernel
theorem dX12_goesOn_95 : decode cX12_goesOn 95 = .ok (.getfield 287, 3) := by decide +kernel
theorem dX12_goesOn_98 : decode cX12_goesOn 98 = .ok (.iconst 3, 1) := by decide +kernel
theorem dX12_goesOn_99 : decode cX12_goesOn 99 = .ok (.if_icmp .lt 7, 3) := by decide +kernel
theorem dX12_goesOn_102 : decode cX12_goesOn 102 = .ok (.iconst 1, 1) := by decide +kernel
theorem dX12_goesOn_103 : decode cX12_goesOn 103 = .ok (.goto 4, 3) := by decide +kernel
theorem dX12_goesOn_106 : decode cX12_goesOn 106 = .ok (.iconst 0, 1) := by decide +kernel
theorem dX12_goesOn_107 : decode cX12_goesOn 107 = .ok (.iadd, 1) := by decide +kernel
theorem dX12_goesOn_108 : decode cX12_goesOn 108 = .ok (.putfield 268, 3) := by decide +kernel
theorem dX12_goesOn_111 : decode cX12_goesOn 111 = .ok (.aload_n 0, 1) := by decide +kernel
theorem dX12_goesOn_112 : decode cX12_goesOn 112 = .ok (.getfield 287, 3) := by decide +kernel
theorem dX12_goesOn_115 : decode cX12_goesOn 115 = .ok (.iconst 1, 1) := by decide +kernel
theorem dX12_goesOn_116 : decode cX12_goesOn 116 = .ok (.if_icmp .ne 23, 3) := by decide +kernel
theorem dX12_goesOn_119 : decode cX12_goesOn 119 = .ok (.aload_n 0, 1) := by decide +kernel
theorem dX12_goesOn_120 : decode cX12_goesOn 120 = .ok (.invokevirtual 277, 3) := by decide +kernel
theorem dX12_goesOn_123 : decode cX12_goesOn 123 = .ok (.ifCond .eq 16, 3) := by decide +kernel
theorem dX12_goesOn_126 : decode cX12_goesOn 126 = .ok (.aload_n 0, 1) := by decide +kernel
theorem dX12_goesOn_127 : decode cX12_goesOn 127 = .ok (.dup, 1) := by decide +kernel
theorem dX12_goesOn_128 : decode cX12_goesOn 128 = .ok (.getfield 268, 3) := by decide +kernel
theorem dX12_goesOn_131 : decode cX12_goesOn 131 = .ok (.iconst 1, 1) := by decide +kernel
theorem dX12_goesOn_132 : decode cX12_goesOn 132 = .ok (.iadd, 1) := by decide +kernel
theorem dX12_goesOn_133 : decode cX12_goesOn 133 = .ok (.putfield 268, 3) := by decide +kernel
theorem dX12_goesOn_136 : decode cX12_goesOn 136 = .ok (.goto (-25), 3) := by decide +kernel
theorem dX12_goesOn_139 : decode cX12_goesOn 139 = .ok (.aload_n 0, 1) := by decide +kernel
theorem dX12_goesOn_140 : decode cX12_goesOn 140 = .ok (.getfield 287, 3) := by decide +kernel
theorem dX12_goesOn_143 : decode cX12_goesOn 143 = .ok (.iconst 2, 1) := by decide +kernel
theorem dX12_goesOn_144 : decode cX12_goesOn 144 = .ok (.if_icmp .ne 59, 3) := by decide +kernel
theorem dX12_goesOn_147 : decode cX12_goesOn 147 = .ok (.aload_n 0, 1) := by decide +kernel
theorem dX12_goesOn_148 : decode cX12_goesOn 148 = .ok (.invokevirtual 281, 3) := by decide +kernel
theorem dX12_goesOn_151 : decode cX12_goesOn 151 = .ok (.ifCond .eq 52, 3) := by decide +kernel
theorem dX12_goesOn_154 : decode cX12_goesOn 154 = .ok (.aload_n 0, 1) := by decide +kernel
theorem dX12_goesOn_155 : decode cX12_goesOn 155 = .ok (.aload_n 0, 1) := by decide +kernel
theorem dX12_goesOn_156 : decode cX12_goesOn 156 = .ok (.getfield 290, 3) := by decide +kernel
theorem dX12_goesOn_159 : decode cX12_goesOn 159 = .ok (.sipush 10000, 3) := by decide +kernel
theorem dX12_goesOn_162 : decode cX12_goesOn 162 = .ok (.if_icmp .le 10, 3) := by decide +kernel
theorem dX12_goesOn_165 : decode cX12_goesOn 165 = .ok (.aload_n 0, 1) := by decide +kernel
theorem dX12_goesOn_166 : decode cX12_goesOn 166 = .ok (.getfield 290, 3) := by decide +kernel
theorem dX12_goesOn_169 : decode cX12_goesOn 169 = .ok (.goto 18, 3) := by decide +kernel
theorem dX12_goesOn_172 : decode cX12_goesOn 172 = .ok (.bipush 10, 2) := by decide +kernel
theorem dX12_goesOn_174 : decode cX12_goesOn 174 = .ok (.aload_n 0, 1) := by decide +kernel
theorem dX12_goesOn_175 : decode cX12_goesOn 175 = .ok (.getfield 290, 3) := by decide +kernel
theorem dX12_goesOn_178 : decode cX12_goesOn 178 = .ok (.imul, 1) := by decide +kernel
theorem dX12_goesOn_179 : decode cX12_goesOn 179 = .ok (.aload_n 0, 1) := by decide +kernel
theorem dX12_goesOn_180 : decode cX12_goesOn 180 = .ok (.invokevirtual 271, 3) := by decide +kernel
theorem dX12_goesOn_183 : decode cX12_goesOn 183 = .ok (.iadd, 1) := by decide +kernel
theorem dX12_goesOn_184 : decode cX12_goesOn 184 = .ok (.bipush 48, 2) := by decide +kernel
theorem dX12_goesOn_186 : decode cX12_goesOn 186 = .ok (.isub, 1) := by decide +kernel
theorem dX12_goesOn_187 : decode cX12_goesOn 187 = .ok (.putfield 290, 3) := by decide +kernel
theorem dX12_goesOn_190 : decode cX12_goesOn 190 = .ok (.aload_n 0, 1) := by decide +kernel
theorem dX12_goesOn_191 : decode cX12_goesOn 191 = .ok (.dup, 1) := by decide +kernel
theorem dX12_goesOn_192 : decode cX12_goesOn 192 = .ok (.getfield 268, 3) := by decide +kernel
theorem dX12_goesOn_195 : decode cX12_goesOn 195 = .ok (.iconst 1, 1) := by decide +kernel
theorem dX12_goesOn_196 : decode cX12_goesOn 196 = .ok (.iadd, 1) := by decide +kernel
theorem dX12_goesOn_197 : decode cX12_goesOn 197 = .ok (.putfield 268, 3) := by decide +kernel
theorem dX12_goesOn_200 : decode cX12_goesOn 200 = .ok (.goto (-61), 3) := by decide +kernel
theorem dX12_goesOn_203 : decode cX12_goesOn 203 = .ok (.return_, 1) := by decide +kernel
theorem dX12_must_0 : decode cX12_must 0 = .ok (.iload_n 1, 1) := by decide +kernel
theorem dX12_must_1 : decode cX12_must 1 = .ok (.ifCond .ne 23, 3) := by decide +kernel
theorem dX12_must_4 : decode cX12_must 4 = .ok (.aload_n 0, 1) := by decide +kernel
theorem dX12_must_5 : decode cX12_must 5 = .ok (.getfield 293, 3) := by decide +kernel
theorem dX12_must_8 : decode cX12_must 8 = .ok (.ifCond .ne 16, 3) := by decide +kernel
theorem dX12_must_11 : decode cX12_must 11 = .ok (.aload_n 0, 1) := by decide +kernel
theorem dX12_must_12 : decode cX12_must 12 = .ok (.iload_n 2, 1) := by decide +kernel
theorem dX12_must_13 : decode cX12_must 13 = .ok (.putfield 293, 3) := by decide +kernel
theorem dX12_must_16 : decode cX12_must 16 = .ok (.aload_n 0, 1) := by decide +kernel
theorem dX12_must_17 : decode cX12_must 17 = .ok (.aload_n 0, 1) := by decide +kernel
theorem dX12_must_18 : decode cX12_must 18 = .ok (.getfield 274, 3) := by decide +kernel
theorem dX12_must_21 : decode cX12_must 21 = .ok (.putfield 43, 3) := by decide +kernel
theorem dX12_must_24 : decode cX12_must 24 = .ok (.return_, 1) := by decide +kernel
theorem dX12_wordHere_0 : decode cX12_wordHere 0 = .ok (.iconst 0, 1) := by decide +kernel
theorem dX12_wordHere_1 : decode cX12_wordHere 1 = .ok (.istore_n 1, 1) := by decide +kernel
theorem dX12_wordHere_2 : decode cX12_wordHere 2 = .ok (.iconst 0, 1) := by decide +kernel
theorem dX12_wordHere_3 : decode cX12_wordHere 3 = .ok (.istore_n 2, 1) := by decide +kernel
theorem dX12_wordHere_4 : decode cX12_wordHere 4 = .ok (.aload_n 0, 1) := by decide +kernel
theorem dX12_wordHere_5 : decode cX12_wordHere 5 = .ok (.getfield 287, 3) := by decide +kernel
theorem dX12_wordHere_8 : decode cX12_wordHere 8 = .ok (.iconst 1, 1) := by decide +kernel
theorem dX12_wordHere_9 : decode cX12_wordHere 9 = .ok (.if_icmp .ne 112, 3) := by decide +kernel
theorem dX12_wordHere_12 : decode cX12_wordHere 12 = .ok (.iload_n 2, 1) := by decide +kernel
theorem dX12_wordHere_13 : decode cX12_wordHere 13 = .ok (.bipush 11, 2) := by decide +kernel
theorem dX12_wordHere_15 : decode cX12_wordHere 15 = .ok (.if_icmp .ge 106, 3) := by decide +kernel
theorem dX12_wordHere_18 : decode cX12_wordHere 18 = .ok (.iconst 0, 1) := by decide +kernel
theorem dX12_wordHere_19 : decode cX12_wordHere 19 = .ok (.istore_n 3, 1) := by decide +kernel
theorem dX12_wordHere_20 : decode cX12_wordHere 20 = .ok (.iconst 1, 1) := by decide +kernel
theorem dX12_wordHere_21 : decode cX12_wordHere 21 = .ok (.istore 4, 2) := by decide +kernel
theorem dX12_wordHere_23 : decode cX12_wordHere 23 = .ok (.aload_n 0, 1) := by decide +kernel
theorem dX12_wordHere_24 : decode cX12_wordHere 24 = .ok (.getfield 47, 3) := by decide +kernel
theorem dX12_wordHere_27 : decode cX12_wordHere 27 = .ok (.iload_n 1, 1) := by decide +kernel
theorem dX12_wordHere_28 : decode cX12_wordHere 28 = .ok (.iload_n 3, 1) := by decide +kernel
theorem dX12_wordHere_29 : decode cX12_wordHere 29 = .ok (.iadd, 1) := by decide +kernel
theorem dX12_wordHere_30 : decode cX12_wordHere 30 = .ok (.baload, 1) := by decide +kernel
theorem dX12_wordHere_31 : decode cX12_wordHere 31 = .ok (.bipush 32, 2) := by decide +kernel
theorem dX12_wordHere_33 : decode cX12_wordHere 33 = .ok (.if_icmp .eq 56, 3) := by decide +kernel
theorem dX12_wordHere_36 : decode cX12_wordHere 36 = .ok (.iload 4, 2) := by decide +kernel
theorem dX12_wordHere_38 : decode cX12_wordHere 38 = .ok (.ifCond .eq 42, 3) := by decide +kernel
theorem dX12_wordHere_41 : decode cX12_wordHere 41 = .ok (.aload_n 0, 1) := by decide +kernel
theorem dX12_wordHere_42 : decode cX12_wordHere 42 = .ok (.getfield 274, 3) := by decide +kernel
theorem dX12_wordHere_45 : decode cX12_wordHere 45 = .ok (.iload_n 3, 1) := by decide +kernel
theorem dX12_wordHere_46 : decode cX12_wordHere 46 = .ok (.iadd, 1) := by decide +kernel
theorem dX12_wordHere_47 : decode cX12_wordHere 47 = .ok (.aload_n 0, 1) := by decide +kernel
theorem dX12_wordHere_48 : decode cX12_wordHere 48 = .ok (.getfield 268, 3) := by decide +kernel
theorem dX12_wordHere_51 : decode cX12_wordHere 51 = .ok (.if_icmp .ge 29, 3) := by decide +kernel
theorem dX12_wordHere_54 : decode cX12_wordHere 54 = .ok (.aload_n 0, 1) := by decide +kernel
theorem dX12_wordHere_55 : decode cX12_wordHere 55 = .ok (.getfield 39, 3) := by decide +kernel
theorem dX12_wordHere_58 : decode cX12_wordHere 58 = .ok (.aload_n 0, 1) := by decide +kernel
theorem dX12_wordHere_59 : decode cX12_wordHere 59 = .ok (.getfield 274, 3) := by decide +kernel
theorem dX12_wordHere_62 : decode cX12_wordHere 62 = .ok (.iload_n 3, 1) := by decide +kernel
theorem dX12_wordHere_63 : decode cX12_wordHere 63 = .ok (.iadd, 1) := by decide +kernel
theorem dX12_wordHere_64 : decode cX12_wordHere 64 = .ok (.baload, 1) := by decide +kernel
theorem dX12_wordHere_65 : decode cX12_wordHere 65 = .ok (.aload_n 0, 1) := by decide +kernel
theorem dX12_wordHere_66 : decode cX12_wordHere 66 = .ok (.getfield 47, 3) := by decide +kernel
theorem dX12_wordHere_69 : decode cX12_wordHere 69 = .ok (.iload_n 1, 1) := by decide +kernel
theorem dX12_wordHere_70 : decode cX12_wordHere 70 = .ok (.iload_n 3, 1) := by decide +kernel
theorem dX12_wordHere_71 : decode cX12_wordHere 71 = .ok (.iadd, 1) := by decide +kernel
theorem dX12_wordHere_72 : decode cX12_wordHere 72 = .ok (.baload, 1) := by decide +kernel
theorem dX12_wordHere_73 : decode cX12_wordHere 73 = .ok (.if_icmp .ne 7, 3) := by decide +kernel
theorem dX12_wordHere_76 : decode cX12_wordHere 76 = .ok (.iconst 1, 1) := by decide +kernel
theorem dX12_wordHere_77 : decode cX12_wordHere 77 = .ok (.goto 4, 3) := by decide +kernel
theorem dX12_wordHere_80 : decode cX12_wordHere 80 = .ok (.iconst 0, 1) := by decide +kernel
theorem dX12_wordHere_81 : decode cX12_wordHere 81 = .ok (.istore 4, 2) := by decide +kernel
theorem dX12_wordHere_83 : decode cX12_wordHere 83 = .ok (.iinc 3 1, 3) := by decide +kernel
theorem dX12_wordHere_86 : decode cX12_wordHere 86 = .ok (.goto (-63), 3) := by decide +kernel
theorem dX12_wordHere_89 : decode cX12_wordHere 89 = .ok (.iload 4, 2) := by decide +kernel
theorem dX12_wordHere_91 : decode cX12_wordHere 91 = .ok (.ifCond .eq 18, 3) := by decide +kernel
theorem dX12_wordHere_94 : decode cX12_wordHere 94 = .ok (.aload_n 0, 1) := by decide +kernel
theorem dX12_wordHere_95 : decode cX12_wordHere 95 = .ok (.getfield 268, 3) := by decide +kernel
theorem dX12_wordHere_98 : decode cX12_wordHere 98 = .ok (.aload_n 0, 1) := by decide +kernel
theorem dX12_wordHere_99 : decode cX12_wordHere 99 = .ok (.getfield 274, 3) := by decide +kernel
theorem dX12_wordHere_102 : decode cX12_wordHere 102 = .ok (.isub, 1) := by decide +kernel
theorem dX12_wordHere_103 : decode cX12_wordHere 103 = .ok (.iload_n 3, 1) := by decide +kernel
theorem dX12_wordHere_104 : decode cX12_wordHere 104 = .ok (.if_icmp .ne 5, 3) := by decide +kernel
theorem dX12_wordHere_107 : decode cX12_wordHere 107 = .ok (.iload_n 2, 1) := by decide +kernel
theorem dX12_wordHere_108 : decode cX12_wordHere 108 = .ok (.ireturn, 1) := by decide +kernel
theorem dX12_wordHere_109 : decode cX12_wordHere 109 = .ok (.iload_n 1, 1) := by decide +kernel
theorem dX12_wordHere_110 : decode cX12_wordHere 110 = .ok (.iload_n 3, 1) := by decide +kernel
theorem dX12_wordHere_111 : decode cX12_wordHere 111 = .ok (.iconst 1, 1) := by decide +kernel
theorem dX12_wordHere_112 : decode cX12_wordHere 112 = .ok (.iadd, 1) := by decide +kernel
theorem dX12_wordHere_113 : decode cX12_wordHere 113 = .ok (.iadd, 1) := by decide +kernel
theorem dX12_wordHere_114 : decode cX12_wordHere 114 = .ok (.istore_n 1, 1) := by decide +kernel
theorem dX12_wordHere_115 : decode cX12_wordHere 115 = .ok (.iinc 2 1, 3) := by decide +kernel
theorem dX12_wordHere_118 : decode cX12_wordHere 118 = .ok (.goto (-114), 3) := by decide +kernel
theorem dX12_wordHere_121 : decode cX12_wordHere 121 = .ok (.iconst (-1), 1) := by decide +kernel
theorem dX12_wordHere_122 : decode cX12_wordHere 122 = .ok (.ireturn, 1) := by decide +kernel
theorem dX12_reads2_0 : decode cX12_reads2 0 = .ok (.aload_n 0, 1) := by decide +kernel
theorem dX12_reads2_1 : decode cX12_reads2 1 = .ok (.aload_n 0, 1) := by decide +kernel
theorem dX12_reads2_2 : decode cX12_reads2 2 = .ok (.getfield 287, 3) := by decide +kernel
theorem dX12_reads2_5 : decode cX12_reads2 5 = .ok (.iconst 2, 1) := by decide +kernel
theorem dX12_reads2_6 : decode cX12_reads2 6 = .ok (.if_icmp .ne 7, 3) := by decide +kernel
theorem dX12_reads2_9 : decode cX12_reads2 9 = .ok (.iconst 1, 1) := by decide +kernel
theorem dX12_reads2_10 : decode cX12_reads2 10 = .ok (.goto 4, 3) := by decide +kernel
theorem dX12_reads2_13 : decode cX12_reads2 13 = .ok (.iconst 0, 1) := by decide +kernel
theorem dX12_reads2_14 : decode cX12_reads2 14 = .ok (.iconst 1, 1) := by decide +kernel
theorem dX12_reads2_15 : decode cX12_reads2 15 = .ok (.invokevirtual 296, 3) := by decide +kernel
theorem dX12_reads2_18 : decode cX12_reads2 18 = .ok (.aload_n 0, 1) := by decide +kernel
theorem dX12_reads2_19 : decode cX12_reads2 19 = .ok (.aload_n 0, 1) := by decide +kernel
theorem dX12_reads2_20 : decode cX12_reads2 20 = .ok (.getfield 293, 3) := by decide +kernel
theorem dX12_reads2_23 : decode cX12_reads2 23 = .ok (.ifCond .gt 12, 3) := by decide +kernel
theorem dX12_reads2_26 : decode cX12_reads2 26 = .ok (.iload_n 1, 1) := by decide +kernel
theorem dX12_reads2_27 : decode cX12_reads2 27 = .ok (.iload_n 2, 1) := by decide +kernel
theorem dX12_reads2_28 : decode cX12_reads2 28 = .ok (.iload_n 3, 1) := by decide +kernel
theorem dX12_reads2_29 : decode cX12_reads2 29 = .ok (.invokestatic 66, 3) := by decide +kernel
theorem dX12_reads2_32 : decode cX12_reads2 32 = .ok (.ifCond .eq 7, 3) := by decide +kernel
theorem dX12_reads2_35 : decode cX12_reads2 35 = .ok (.iconst 1, 1) := by decide +kernel
theorem dX12_reads2_36 : decode cX12_reads2 36 = .ok (.goto 4, 3) := by decide +kernel
theorem dX12_reads2_39 : decode cX12_reads2 39 = .ok (.iconst 0, 1) := by decide +kernel
theorem dX12_reads2_40 : decode cX12_reads2 40 = .ok (.iconst 2, 1) := by decide +kernel
theorem dX12_reads2_41 : decode cX12_reads2 41 = .ok (.invokevirtual 296, 3) := by decide +kernel
theorem dX12_reads2_44 : decode cX12_reads2 44 = .ok (.aload_n 0, 1) := by decide +kernel
theorem dX12_reads2_45 : decode cX12_reads2 45 = .ok (.getfield 293, 3) := by decide +kernel
theorem dX12_reads2_48 : decode cX12_reads2 48 = .ok (.ifCond .le 5, 3) := by decide +kernel
theorem dX12_reads2_51 : decode cX12_reads2 51 = .ok (.iload_n 2, 1) := by decide +kernel
theorem dX12_reads2_52 : decode cX12_reads2 52 = .ok (.ireturn, 1) := by decide +kernel
theorem dX12_reads2_53 : decode cX12_reads2 53 = .ok (.aload_n 0, 1) := by decide +kernel
theorem dX12_reads2_54 : decode cX12_reads2 54 = .ok (.invokevirtual 300, 3) := by decide +kernel
theorem dX12_reads2_57 : decode cX12_reads2 57 = .ok (.iload_n 1, 1) := by decide +kernel
theorem dX12_reads2_58 : decode cX12_reads2 58 = .ok (.ireturn, 1) := by decide +kernel
theorem dX12_takes_0 : decode cX12_takes 0 = .ok (.aload_n 0, 1) := by decide +kernel
theorem dX12_takes_1 : decode cX12_takes 1 = .ok (.aload_n 0, 1) := by decide +kernel
theorem dX12_takes_2 : decode cX12_takes 2 = .ok (.getfield 290, 3) := by decide +kernel
theorem dX12_takes_5 : decode cX12_takes 5 = .ok (.iload_n 1, 1) := by decide +kernel
theorem dX12_takes_6 : decode cX12_takes 6 = .ok (.iload_n 2, 1) := by decide +kernel
theorem dX12_takes_7 : decode cX12_takes 7 = .ok (.invokevirtual 303, 3) := by decide +kernel
theorem dX12_takes_10 : decode cX12_takes 10 = .ok (.ireturn, 1) := by decide +kernel
theorem dX12_takesInt_0 : decode cX12_takesInt 0 = .ok (.aload_n 0, 1) := by decide +kernel
theorem dX12_takesInt_1 : decode cX12_takesInt 1 = .ok (.getfield 293, 3) := by decide +kernel
theorem dX12_takesInt_4 : decode cX12_takesInt 4 = .ok (.ifCond .ne 15, 3) := by decide +kernel
theorem dX12_takesInt_7 : decode cX12_takesInt 7 = .ok (.aload_n 0, 1) := by decide +kernel
theorem dX12_takesInt_8 : decode cX12_takesInt 8 = .ok (.getfield 287, 3) := by decide +kernel
theorem dX12_takesInt_11 : decode cX12_takesInt 11 = .ok (.iconst 4, 1) := by decide +kernel
theorem dX12_takesInt_12 : decode cX12_takesInt 12 = .ok (.if_icmp .ne 7, 3) := by decide +kernel
theorem dX12_takesInt_15 : decode cX12_takesInt 15 = .ok (.iconst 1, 1) := by decide +kernel
theorem dX12_takesInt_16 : decode cX12_takesInt 16 = .ok (.goto 4, 3) := by decide +kernel
theorem dX12_takesInt_19 : decode cX12_takesInt 19 = .ok (.iconst 0, 1) := by decide +kernel
theorem dX12_takesInt_20 : decode cX12_takesInt 20 = .ok (.istore_n 1, 1) := by decide +kernel
theorem dX12_takesInt_21 : decode cX12_takesInt 21 = .ok (.iload_n 1, 1) := by decide +kernel
theorem dX12_takesInt_22 : decode cX12_takesInt 22 = .ok (.ifCond .eq 7, 3) := by decide +kernel
theorem dX12_takesInt_25 : decode cX12_takesInt 25 = .ok (.aload_n 0, 1) := by decide +kernel
theorem dX12_takesInt_26 : decode cX12_takesInt 26 = .ok (.invokevirtual 300, 3) := by decide +kernel
theorem dX12_takesInt_29 : decode cX12_takesInt 29 = .ok (.aload_n 0, 1) := by decide +kernel
theorem dX12_takesInt_30 : decode cX12_takesInt 30 = .ok (.iload_n 1, 1) := by decide +kernel
theorem dX12_takesInt_31 : decode cX12_takesInt 31 = .ok (.ifCond .eq 11, 3) := by decide +kernel
theorem dX12_takesInt_34 : decode cX12_takesInt 34 = .ok (.aload_n 0, 1) := by decide +kernel
theorem dX12_takesInt_35 : decode cX12_takesInt 35 = .ok (.getfield 290, 3) := by decide +kernel
theorem dX12_takesInt_38 : decode cX12_takesInt 38 = .ok (.ineg, 1) := by decide +kernel
theorem dX12_takesInt_39 : decode cX12_takesInt 39 = .ok (.goto 7, 3) := by decide +kernel
theorem dX12_takesInt_42 : decode cX12_takesInt 42 = .ok (.aload_n 0, 1) := by decide +kernel
theorem dX12_takesInt_43 : decode cX12_takesInt 43 = .ok (.getfield 290, 3) := by decide +kernel
theorem dX12_takesInt_46 : decode cX12_takesInt 46 = .ok (.bipush (-99), 2) := by decide +kernel
theorem dX12_takesInt_48 : decode cX12_takesInt 48 = .ok (.bipush 99, 2) := by decide +kernel
theorem dX12_takesInt_50 : decode cX12_takesInt 50 = .ok (.invokevirtual 303, 3) := by decide +kernel
theorem dX12_takesInt_53 : decode cX12_takesInt 53 = .ok (.ireturn, 1) := by decide +kernel
theorem dX12_readRest_0 : decode cX12_readRest 0 = .ok (.iload_n 2, 1) := by decide +kernel
theorem dX12_readRest_1 : decode cX12_readRest 1 = .ok (.iconst 2, 1) := by decide +kernel
theorem dX12_readRest_2 : decode cX12_readRest 2 = .ok (.if_icmp .eq 18, 3) := by decide +kernel
theorem dX12_readRest_5 : decode cX12_readRest 5 = .ok (.iload_n 2, 1) := by decide +kernel
theorem dX12_readRest_6 : decode cX12_readRest 6 = .ok (.iconst 3, 1) := by decide +kernel
theorem dX12_readRest_7 : decode cX12_readRest 7 = .ok (.if_icmp .eq 13, 3) := by decide +kernel
theorem dX12_readRest_10 : decode cX12_readRest 10 = .ok (.iload_n 2, 1) := by decide +kernel
theorem dX12_readRest_11 : decode cX12_readRest 11 = .ok (.iconst 4, 1) := by decide +kernel
theorem dX12_readRest_12 : decode cX12_readRest 12 = .ok (.if_icmp .eq 8, 3) := by decide +kernel
theorem dX12_readRest_15 : decode cX12_readRest 15 = .ok (.iload_n 2, 1) := by decide +kernel
theorem dX12_readRest_16 : decode cX12_readRest 16 = .ok (.iconst 5, 1) := by decide +kernel
theorem dX12_readRest_17 : decode cX12_readRest 17 = .ok (.if_icmp .ne 7, 3) := by decide +kernel
theorem dX12_readRest_20 : decode cX12_readRest 20 = .ok (.iconst 1, 1) := by decide +kernel
theorem dX12_readRest_21 : decode cX12_readRest 21 = .ok (.goto 4, 3) := by decide +kernel
theorem dX12_readRest_24 : decode cX12_readRest 24 = .ok (.iconst 0, 1) := by decide +kernel
theorem dX12_readRest_25 : decode cX12_readRest 25 = .ok (.istore_n 3, 1) := by decide +kernel
theorem dX12_readRest_26 : decode cX12_readRest 26 = .ok (.aload_n 0, 1) := by decide +kernel
theorem dX12_readRest_27 : decode cX12_readRest 27 = .ok (.getfield 50, 3) := by decide +kernel
theorem dX12_readRest_30 : decode cX12_readRest 30 = .ok (.iload_n 1, 1) := by decide +kernel
theorem dX12_readRest_31 : decode cX12_readRest 31 = .ok (.iconst 1, 1) := by decide +kernel
theorem dX12_readRest_32 : decode cX12_readRest 32 = .ok (.iadd, 1) := by decide +kernel
theorem dX12_readRest_33 : decode cX12_readRest 33 = .ok (.iload_n 2, 1) := by decide +kernel
theorem dX12_readRest_34 : decode cX12_readRest 34 = .ok (.bipush 9, 2) := by decide +kernel
theorem dX12_readRest_36 : decode cX12_readRest 36 = .ok (.if_icmp .ne 13, 3) := by decide +kernel
theorem dX12_readRest_39 : decode cX12_readRest 39 = .ok (.aload_n 0, 1) := by decide +kernel
theorem dX12_readRest_40 : decode cX12_readRest 40 = .ok (.iconst 1, 1) := by decide +kernel
theorem dX12_readRest_41 : decode cX12_readRest 41 = .ok (.bipush 99, 2) := by decide +kernel
theorem dX12_readRest_43 : decode cX12_readRest 43 = .ok (.invokevirtual 306, 3) := by decide +kernel
theorem dX12_readRest_46 : decode cX12_readRest 46 = .ok (.goto 22, 3) := by decide +kernel
theorem dX12_readRest_49 : decode cX12_readRest 49 = .ok (.iload_n 3, 1) := by decide +kernel
theorem dX12_readRest_50 : decode cX12_readRest 50 = .ok (.ifCond .eq 12, 3) := by decide +kernel
theorem dX12_readRest_53 : decode cX12_readRest 53 = .ok (.aload_n 0, 1) := by decide +kernel
theorem dX12_readRest_54 : decode cX12_readRest 54 = .ok (.iconst 0, 1) := by decide +kernel
theorem dX12_readRest_55 : decode cX12_readRest 55 = .ok (.iconst 5, 1) := by decide +kernel
theorem dX12_readRest_56 : decode cX12_readRest 56 = .ok (.invokevirtual 306, 3) := by decide +kernel
theorem dX12_readRest_59 : decode cX12_readRest 59 = .ok (.goto 9, 3) := by decide +kernel
theorem dX12_readRest_62 : decode cX12_readRest 62 = .ok (.aload_n 0, 1) := by decide +kernel
theorem dX12_readRest_63 : decode cX12_readRest 63 = .ok (.iconst 0, 1) := by decide +kernel
theorem dX12_readRest_64 : decode cX12_readRest 64 = .ok (.iconst 3, 1) := by decide +kernel
theorem dX12_readRest_65 : decode cX12_readRest 65 = .ok (.invokevirtual 306, 3) := by decide +kernel
theorem dX12_readRest_68 : decode cX12_readRest 68 = .ok (.iastore, 1) := by decide +kernel
theorem dX12_readRest_69 : decode cX12_readRest 69 = .ok (.iload_n 2, 1) := by decide +kernel
theorem dX12_readRest_70 : decode cX12_readRest 70 = .ok (.tableswitch 180 0 4 #[34, 79, 127, 145, 163], 34) := by decide +kernel
theorem dX12_readRest_104 : decode cX12_readRest 104 = .ok (.aload_n 0, 1) := by decide +kernel
theorem dX12_readRest_105 : decode cX12_readRest 105 = .ok (.getfield 50, 3) := by decide +kernel
theorem dX12_readRest_108 : decode cX12_readRest 108 = .ok (.iload_n 1, 1) := by decide +kernel
theorem dX12_readRest_109 : decode cX12_readRest 109 = .ok (.iconst 2, 1) := by decide +kernel
theorem dX12_readRest_110 : decode cX12_readRest 110 = .ok (.iadd, 1) := by decide +kernel
theorem dX12_readRest_111 : decode cX12_readRest 111 = .ok (.aload_n 0, 1) := by decide +kernel
theorem dX12_readRest_112 : decode cX12_readRest 112 = .ok (.iconst 0, 1) := by decide +kernel
theorem dX12_readRest_113 : decode cX12_readRest 113 = .ok (.bipush 9, 2) := by decide +kernel
theorem dX12_readRest_115 : decode cX12_readRest 115 = .ok (.invokevirtual 306, 3) := by decide +kernel
theorem dX12_readRest_118 : decode cX12_readRest 118 = .ok (.iastore, 1) := by decide +kernel
theorem dX12_readRest_119 : decode cX12_readRest 119 = .ok (.aload_n 0, 1) := by decide +kernel
theorem dX12_readRest_120 : decode cX12_readRest 120 = .ok (.getfield 50, 3) := by decide +kernel
theorem dX12_readRest_123 : decode cX12_readRest 123 = .ok (.iload_n 1, 1) := by decide +kernel
theorem dX12_readRest_124 : decode cX12_readRest 124 = .ok (.iconst 3, 1) := by decide +kernel
theorem dX12_readRest_125 : decode cX12_readRest 125 = .ok (.iadd, 1) := by decide +kernel
theorem dX12_readRest_126 : decode cX12_readRest 126 = .ok (.aload_n 0, 1) := by decide +kernel
theorem dX12_readRest_127 : decode cX12_readRest 127 = .ok (.iconst 1, 1) := by decide +kernel
theorem dX12_readRest_128 : decode cX12_readRest 128 = .ok (.bipush 9, 2) := by decide +kernel
theorem dX12_readRest_130 : decode cX12_readRest 130 = .ok (.invokevirtual 306, 3) := by decide +kernel
theorem dX12_readRest_133 : decode cX12_readRest 133 = .ok (.iastore, 1) := by decide +kernel
theorem dX12_readRest_134 : decode cX12_readRest 134 = .ok (.aload_n 0, 1) := by decide +kernel
theorem dX12_readRest_135 : decode cX12_readRest 135 = .ok (.getfield 50, 3) := by decide +kernel
theorem dX12_readRest_138 : decode cX12_readRest 138 = .ok (.iload_n 1, 1) := by decide +kernel
theorem dX12_readRest_139 : decode cX12_readRest 139 = .ok (.iconst 4, 1) := by decide +kernel
theorem dX12_readRest_140 : decode cX12_readRest 140 = .ok (.iadd, 1) := by decide +kernel
theorem dX12_readRest_141 : decode cX12_readRest 141 = .ok (.aload_n 0, 1) := by decide +kernel
theorem dX12_readRest_142 : decode cX12_readRest 142 = .ok (.invokevirtual 309, 3) := by decide +kernel
theorem dX12_readRest_145 : decode cX12_readRest 145 = .ok (.iastore, 1) := by decide +kernel
theorem dX12_readRest_146 : decode cX12_readRest 146 = .ok (.goto 104, 3) := by decide +kernel
theorem dX12_readRest_149 : decode cX12_readRest 149 = .ok (.aload_n 0, 1) := by decide +kernel
theorem dX12_readRest_150 : decode cX12_readRest 150 = .ok (.getfield 50, 3) := by decide +kernel
theorem dX12_readRest_153 : decode cX12_readRest 153 = .ok (.iload_n 1, 1) := by decide +kernel
theorem dX12_readRest_154 : decode cX12_readRest 154 = .ok (.iconst 2, 1) := by decide +kernel
theorem dX12_readRest_155 : decode cX12_readRest 155 = .ok (.iadd, 1) := by decide +kernel
theorem dX12_readRest_156 : decode cX12_readRest 156 = .ok (.aload_n 0, 1) := by decide +kernel
theorem dX12_readRest_157 : decode cX12_readRest 157 = .ok (.getfield 293, 3) := by decide +kernel
theorem dX12_readRest_160 : decode cX12_readRest 160 = .ok (.ifCond .ne 16, 3) := by decide +kernel
theorem dX12_readRest_163 : decode cX12_readRest 163 = .ok (.aload_n 0, 1) := by decide +kernel
theorem dX12_readRest_164 : decode cX12_readRest 164 = .ok (.invokevirtual 312, 3) := by decide +kernel
theorem dX12_readRest_167 : decode cX12_readRest 167 = .ok (.bipush 10, 2) := by decide +kernel
theorem dX12_readRest_169 : decode cX12_readRest 169 = .ok (.if_icmp .ne 7, 3) := by decide +kernel
theorem dX12_readRest_172 : decode cX12_readRest 172 = .ok (.iconst 1, 1) := by decide +kernel
theorem dX12_readRest_173 : decode cX12_readRest 173 = .ok (.goto 4, 3) := by decide +kernel
theorem dX12_readRest_176 : decode cX12_readRest 176 = .ok (.iconst 0, 1) := by decide +kernel
theorem dX12_readRest_177 : decode cX12_readRest 177 = .ok (.iastore, 1) := by decide +kernel
theorem dX12_readRest_178 : decode cX12_readRest 178 = .ok (.aload_n 0, 1) := by decide +kernel
theorem dX12_readRest_179 : decode cX12_readRest 179 = .ok (.getfield 50, 3) := by decide +kernel
theorem dX12_readRest_182 : decode cX12_readRest 182 = .ok (.iload_n 1, 1) := by decide +kernel
theorem dX12_readRest_183 : decode cX12_readRest 183 = .ok (.iconst 2, 1) := by decide +kernel
theorem dX12_readRest_184 : decode cX12_readRest 184 = .ok (.iadd, 1) := by decide +kernel
theorem dX12_readRest_185 : decode cX12_readRest 185 = .ok (.iaload, 1) := by decide +kernel
theorem dX12_readRest_186 : decode cX12_readRest 186 = .ok (.iconst 1, 1) := by decide +kernel
theorem dX12_readRest_187 : decode cX12_readRest 187 = .ok (.if_icmp .ne 63, 3) := by decide +kernel
theorem dX12_readRest_190 : decode cX12_readRest 190 = .ok (.aload_n 0, 1) := by decide +kernel
theorem dX12_readRest_191 : decode cX12_readRest 191 = .ok (.invokevirtual 300, 3) := by decide +kernel
theorem dX12_readRest_194 : decode cX12_readRest 194 = .ok (.goto 56, 3) := by decide +kernel
theorem dX12_readRest_197 : decode cX12_readRest 197 = .ok (.aload_n 0, 1) := by decide +kernel
theorem dX12_readRest_198 : decode cX12_readRest 198 = .ok (.getfield 50, 3) := by decide +kernel
theorem dX12_readRest_201 : decode cX12_readRest 201 = .ok (.iload_n 1, 1) := by decide +kernel
theorem dX12_readRest_202 : decode cX12_readRest 202 = .ok (.iconst 2, 1) := by decide +kernel
theorem dX12_readRest_203 : decode cX12_readRest 203 = .ok (.iadd, 1) := by decide +kernel
theorem dX12_readRest_204 : decode cX12_readRest 204 = .ok (.aload_n 0, 1) := by decide +kernel
theorem dX12_readRest_205 : decode cX12_readRest 205 = .ok (.iconst 1, 1) := by decide +kernel
theorem dX12_readRest_206 : decode cX12_readRest 206 = .ok (.bipush 99, 2) := by decide +kernel
theorem dX12_readRest_208 : decode cX12_readRest 208 = .ok (.invokevirtual 306, 3) := by decide +kernel
theorem dX12_readRest_211 : decode cX12_readRest 211 = .ok (.iastore, 1) := by decide +kernel
theorem dX12_readRest_212 : decode cX12_readRest 212 = .ok (.goto 38, 3) := by decide +kernel
theorem dX12_readRest_215 : decode cX12_readRest 215 = .ok (.aload_n 0, 1) := by decide +kernel
theorem dX12_readRest_216 : decode cX12_readRest 216 = .ok (.getfield 50, 3) := by decide +kernel
theorem dX12_readRest_219 : decode cX12_readRest 219 = .ok (.iload_n 1, 1) := by decide +kernel
theorem dX12_readRest_220 : decode cX12_readRest 220 = .ok (.iconst 2, 1) := by decide +kernel
theorem dX12_readRest_221 : decode cX12_readRest 221 = .ok (.iadd, 1) := by decide +kernel
theorem dX12_readRest_222 : decode cX12_readRest 222 = .ok (.aload_n 0, 1) := by decide +kernel
theorem dX12_readRest_223 : decode cX12_readRest 223 = .ok (.iconst 1, 1) := by decide +kernel
theorem dX12_readRest_224 : decode cX12_readRest 224 = .ok (.bipush 60, 2) := by decide +kernel
theorem dX12_readRest_226 : decode cX12_readRest 226 = .ok (.invokevirtual 306, 3) := by decide +kernel
theorem dX12_readRest_229 : decode cX12_readRest 229 = .ok (.iastore, 1) := by decide +kernel
theorem dX12_readRest_230 : decode cX12_readRest 230 = .ok (.goto 20, 3) := by decide +kernel
theorem dX12_readRest_233 : decode cX12_readRest 233 = .ok (.aload_n 0, 1) := by decide +kernel
theorem dX12_readRest_234 : decode cX12_readRest 234 = .ok (.getfield 50, 3) := by decide +kernel
theorem dX12_readRest_237 : decode cX12_readRest 237 = .ok (.iload_n 1, 1) := by decide +kernel
theorem dX12_readRest_238 : decode cX12_readRest 238 = .ok (.iconst 2, 1) := by decide +kernel
theorem dX12_readRest_239 : decode cX12_readRest 239 = .ok (.iadd, 1) := by decide +kernel
theorem dX12_readRest_240 : decode cX12_readRest 240 = .ok (.aload_n 0, 1) := by decide +kernel
theorem dX12_readRest_241 : decode cX12_readRest 241 = .ok (.iconst 0, 1) := by decide +kernel
theorem dX12_readRest_242 : decode cX12_readRest 242 = .ok (.iconst 3, 1) := by decide +kernel
theorem dX12_readRest_243 : decode cX12_readRest 243 = .ok (.invokevirtual 306, 3) := by decide +kernel
theorem dX12_readRest_246 : decode cX12_readRest 246 = .ok (.iastore, 1) := by decide +kernel
theorem dX12_readRest_247 : decode cX12_readRest 247 = .ok (.goto 3, 3) := by decide +kernel
theorem dX12_readRest_250 : decode cX12_readRest 250 = .ok (.return_, 1) := by decide +kernel
theorem dX12_readCommand_0 : decode cX12_readCommand 0 = .ok (.aload_n 0, 1) := by decide +kernel
theorem dX12_readCommand_1 : decode cX12_readCommand 1 = .ok (.invokevirtual 312, 3) := by decide +kernel
theorem dX12_readCommand_4 : decode cX12_readCommand 4 = .ok (.istore_n 1, 1) := by decide +kernel
theorem dX12_readCommand_5 : decode cX12_readCommand 5 = .ok (.aload_n 0, 1) := by decide +kernel
theorem dX12_readCommand_6 : decode cX12_readCommand 6 = .ok (.iload_n 1, 1) := by decide +kernel
theorem dX12_readCommand_7 : decode cX12_readCommand 7 = .ok (.iconst 0, 1) := by decide +kernel
theorem dX12_readCommand_8 : decode cX12_readCommand 8 = .ok (.bipush 9, 2) := by decide +kernel
theorem dX12_readCommand_10 : decode cX12_readCommand 10 = .ok (.invokestatic 66, 3) := by decide +kernel
theorem dX12_readCommand_13 : decode cX12_readCommand 13 = .ok (.iconst 1, 1) := by decide +kernel
theorem dX12_readCommand_14 : decode cX12_readCommand 14 = .ok (.invokevirtual 296, 3) := by decide +kernel
theorem dX12_readCommand_17 : decode cX12_readCommand 17 = .ok (.aload_n 0, 1) := by decide +kernel
theorem dX12_readCommand_18 : decode cX12_readCommand 18 = .ok (.aload_n 0, 1) := by decide +kernel
theorem dX12_readCommand_19 : decode cX12_readCommand 19 = .ok (.getfield 315, 3) := by decide +kernel
theorem dX12_readCommand_22 : decode cX12_readCommand 22 = .ok (.bipush 60, 2) := by decide +kernel
theorem dX12_readCommand_24 : decode cX12_readCommand 24 = .ok (.if_icmp .ge 7, 3) := by decide +kernel
theorem dX12_readCommand_27 : decode cX12_readCommand 27 = .ok (.iconst 1, 1) := by decide +kernel
theorem dX12_readCommand_28 : decode cX12_readCommand 28 = .ok (.goto 4, 3) := by decide +kernel
theorem dX12_readCommand_31 : decode cX12_readCommand 31 = .ok (.iconst 0, 1) := by decide +kernel
theorem dX12_readCommand_32 : decode cX12_readCommand 32 = .ok (.iconst 3, 1) := by decide +kernel
theorem dX12_readCommand_33 : decode cX12_readCommand 33 = .ok (.invokevirtual 296, 3) := by decide +kernel
theorem dX12_readCommand_36 : decode cX12_readCommand 36 = .ok (.aload_n 0, 1) := by decide +kernel
theorem dX12_readCommand_37 : decode cX12_readCommand 37 = .ok (.getfield 293, 3) := by decide +kernel
theorem dX12_readCommand_40 : decode cX12_readCommand 40 = .ok (.ifCond .le 4, 3) := by decide +kernel
theorem dX12_readCommand_43 : decode cX12_readCommand 43 = .ok (.return_, 1) := by decide +kernel
theorem dX12_readCommand_44 : decode cX12_readCommand 44 = .ok (.aload_n 0, 1) := by decide +kernel
theorem dX12_readCommand_45 : decode cX12_readCommand 45 = .ok (.invokevirtual 300, 3) := by decide +kernel
theorem dX12_readCommand_48 : decode cX12_readCommand 48 = .ok (.iconst 5, 1) := by decide +kernel
theorem dX12_readCommand_49 : decode cX12_readCommand 49 = .ok (.aload_n 0, 1) := by decide +kernel
theorem dX12_readCommand_50 : decode cX12_readCommand 50 = .ok (.getfield 315, 3) := by decide +kernel
theorem dX12_readCommand_53 : decode cX12_readCommand 53 = .ok (.imul, 1) := by decide +kernel
theorem dX12_readCommand_54 : decode cX12_readCommand 54 = .ok (.istore_n 2, 1) := by decide +kernel
theorem dX12_readCommand_55 : decode cX12_readCommand 55 = .ok (.aload_n 0, 1) := by decide +kernel
theorem dX12_readCommand_56 : decode cX12_readCommand 56 = .ok (.getfield 50, 3) := by decide +kernel
theorem dX12_readCommand_59 : decode cX12_readCommand 59 = .ok (.iload_n 2, 1) := by decide +kernel
theorem dX12_readCommand_60 : decode cX12_readCommand 60 = .ok (.iload_n 1, 1) := by decide +kernel
theorem dX12_readCommand_61 : decode cX12_readCommand 61 = .ok (.iastore, 1) := by decide +kernel
theorem dX12_readCommand_62 : decode cX12_readCommand 62 = .ok (.aload_n 0, 1) := by decide +kernel
theorem dX12_readCommand_63 : decode cX12_readCommand 63 = .ok (.iload_n 2, 1) := by decide +kernel
theorem dX12_readCommand_64 : decode cX12_readCommand 64 = .ok (.iload_n 1, 1) := by decide +kernel
theorem dX12_readCommand_65 : decode cX12_readCommand 65 = .ok (.invokevirtual 318, 3) := by decide +kernel
theorem dX12_readCommand_68 : decode cX12_readCommand 68 = .ok (.aload_n 0, 1) := by decide +kernel
theorem dX12_readCommand_69 : decode cX12_readCommand 69 = .ok (.aload_n 0, 1) := by decide +kernel
theorem dX12_readCommand_70 : decode cX12_readCommand 70 = .ok (.getfield 287, 3) := by decide +kernel
theorem dX12_readCommand_73 : decode cX12_readCommand 73 = .ok (.iconst 3, 1) := by decide +kernel
theorem dX12_readCommand_74 : decode cX12_readCommand 74 = .ok (.if_icmp .ne 7, 3) := by decide +kernel
theorem dX12_readCommand_77 : decode cX12_readCommand 77 = .ok (.iconst 1, 1) := by decide +kernel
theorem dX12_readCommand_78 : decode cX12_readCommand 78 = .ok (.goto 4, 3) := by decide +kernel
theorem dX12_readCommand_81 : decode cX12_readCommand 81 = .ok (.iconst 0, 1) := by decide +kernel
theorem dX12_readCommand_82 : decode cX12_readCommand 82 = .ok (.iconst 1, 1) := by decide +kernel
theorem dX12_readCommand_83 : decode cX12_readCommand 83 = .ok (.invokevirtual 296, 3) := by decide +kernel
theorem dX12_readCommand_86 : decode cX12_readCommand 86 = .ok (.aload_n 0, 1) := by decide +kernel
theorem dX12_readCommand_87 : decode cX12_readCommand 87 = .ok (.getfield 293, 3) := by decide +kernel
theorem dX12_readCommand_90 : decode cX12_readCommand 90 = .ok (.ifCond .ne 17, 3) := by decide +kernel
theorem dX12_readCommand_93 : decode cX12_readCommand 93 = .ok (.aload_n 0, 1) := by decide +kernel
theorem dX12_readCommand_94 : decode cX12_readCommand 94 = .ok (.invokevirtual 300, 3) := by decide +kernel
theorem dX12_readCommand_97 : decode cX12_readCommand 97 = .ok (.aload_n 0, 1) := by decide +kernel
theorem dX12_readCommand_98 : decode cX12_readCommand 98 = .ok (.dup, 1) := by decide +kernel
theorem dX12_readCommand_99 : decode cX12_readCommand 99 = .ok (.getfield 315, 3) := by decide +kernel
theorem dX12_readCommand_102 : decode cX12_readCommand 102 = .ok (.iconst 1, 1) := by decide +kernel
theorem dX12_readCommand_103 : decode cX12_readCommand 103 = .ok (.iadd, 1) := by decide +kernel
theorem dX12_readCommand_104 : decode cX12_readCommand 104 = .ok (.putfield 315, 3) := by decide +kernel
theorem dX12_readCommand_107 : decode cX12_readCommand 107 = .ok (.return_, 1) := by decide +kernel
theorem dX12_isDone_0 : decode cX12_isDone 0 = .ok (.aload_n 0, 1) := by decide +kernel
theorem dX12_isDone_1 : decode cX12_isDone 1 = .ok (.getfield 50, 3) := by decide +kernel
theorem dX12_isDone_4 : decode cX12_isDone 4 = .ok (.iload_n 1, 1) := by decide +kernel
theorem dX12_isDone_5 : decode cX12_isDone 5 = .ok (.iconst 1, 1) := by decide +kernel
theorem dX12_isDone_6 : decode cX12_isDone 6 = .ok (.iadd, 1) := by decide +kernel
theorem dX12_isDone_7 : decode cX12_isDone 7 = .ok (.iaload, 1) := by decide +kernel
theorem dX12_isDone_8 : decode cX12_isDone 8 = .ok (.istore_n 2, 1) := by decide +kernel
theorem dX12_isDone_9 : decode cX12_isDone 9 = .ok (.aload_n 0, 1) := by decide +kernel
theorem dX12_isDone_10 : decode cX12_isDone 10 = .ok (.getfield 50, 3) := by decide +kernel
theorem dX12_isDone_13 : decode cX12_isDone 13 = .ok (.iload_n 1, 1) := by decide +kernel
theorem dX12_isDone_14 : decode cX12_isDone 14 = .ok (.iconst 2, 1) := by decide +kernel
theorem dX12_isDone_15 : decode cX12_isDone 15 = .ok (.iadd, 1) := by decide +kernel
theorem dX12_isDone_16 : decode cX12_isDone 16 = .ok (.iaload, 1) := by decide +kernel
theorem dX12_isDone_17 : decode cX12_isDone 17 = .ok (.istore_n 3, 1) := by decide +kernel
theorem dX12_isDone_18 : decode cX12_isDone 18 = .ok (.aload_n 0, 1) := by decide +kernel
theorem dX12_isDone_19 : decode cX12_isDone 19 = .ok (.getfield 50, 3) := by decide +kernel
theorem dX12_isDone_22 : decode cX12_isDone 22 = .ok (.iload_n 1, 1) := by decide +kernel
theorem dX12_isDone_23 : decode cX12_isDone 23 = .ok (.iaload, 1) := by decide +kernel
theorem dX12_isDone_24 : decode cX12_isDone 24 = .ok (.tableswitch 298 0 8 #[52, 91, 123, 146, 179, 210, 232, 254, 276], 52) := by decide +kernel
theorem dX12_isDone_76 : decode cX12_isDone 76 = .ok (.aload_n 0, 1) := by decide +kernel
theorem dX12_isDone_77 : decode cX12_isDone 77 = .ok (.iload_n 2, 1) := by decide +kernel
theorem dX12_isDone_78 : decode cX12_isDone 78 = .ok (.invokevirtual 134, 3) := by decide +kernel
theorem dX12_isDone_81 : decode cX12_isDone 81 = .ok (.ifCond .eq 32, 3) := by decide +kernel
theorem dX12_isDone_84 : decode cX12_isDone 84 = .ok (.aload_n 0, 1) := by decide +kernel
theorem dX12_isDone_85 : decode cX12_isDone 85 = .ok (.iload_n 2, 1) := by decide +kernel
theorem dX12_isDone_86 : decode cX12_isDone 86 = .ok (.iload_n 3, 1) := by decide +kernel
theorem dX12_isDone_87 : decode cX12_isDone 87 = .ok (.aload_n 0, 1) := by decide +kernel
theorem dX12_isDone_88 : decode cX12_isDone 88 = .ok (.getfield 50, 3) := by decide +kernel
theorem dX12_isDone_91 : decode cX12_isDone 91 = .ok (.iload_n 1, 1) := by decide +kernel
theorem dX12_isDone_92 : decode cX12_isDone 92 = .ok (.iconst 3, 1) := by decide +kernel
theorem dX12_isDone_93 : decode cX12_isDone 93 = .ok (.iadd, 1) := by decide +kernel
theorem dX12_isDone_94 : decode cX12_isDone 94 = .ok (.iaload, 1) := by decide +kernel
theorem dX12_isDone_95 : decode cX12_isDone 95 = .ok (.aload_n 0, 1) := by decide +kernel
theorem dX12_isDone_96 : decode cX12_isDone 96 = .ok (.getfield 50, 3) := by decide +kernel
theorem dX12_isDone_99 : decode cX12_isDone 99 = .ok (.iload_n 1, 1) := by decide +kernel
theorem dX12_isDone_100 : decode cX12_isDone 100 = .ok (.iconst 4, 1) := by decide +kernel
theorem dX12_isDone_101 : decode cX12_isDone 101 = .ok (.iadd, 1) := by decide +kernel
theorem dX12_isDone_102 : decode cX12_isDone 102 = .ok (.iaload, 1) := by decide +kernel
theorem dX12_isDone_103 : decode cX12_isDone 103 = .ok (.invokevirtual 194, 3) := by decide +kernel
theorem dX12_isDone_106 : decode cX12_isDone 106 = .ok (.ifCond .lt 7, 3) := by decide +kernel
theorem dX12_isDone_109 : decode cX12_isDone 109 = .ok (.iconst 1, 1) := by decide +kernel
theorem dX12_isDone_110 : decode cX12_isDone 110 = .ok (.goto 4, 3) := by decide +kernel
theorem dX12_isDone_113 : decode cX12_isDone 113 = .ok (.iconst 0, 1) := by decide +kernel
theorem dX12_isDone_114 : decode cX12_isDone 114 = .ok (.ireturn, 1) := by decide +kernel
theorem dX12_isDone_115 : decode cX12_isDone 115 = .ok (.aload_n 0, 1) := by decide +kernel
theorem dX12_isDone_116 : decode cX12_isDone 116 = .ok (.iload_n 2, 1) := by decide +kernel
theorem dX12_isDone_117 : decode cX12_isDone 117 = .ok (.invokevirtual 134, 3) := by decide +kernel
theorem dX12_isDone_120 : decode cX12_isDone 120 = .ok (.ifCond .eq 25, 3) := by decide +kernel
theorem dX12_isDone_123 : decode cX12_isDone 123 = .ok (.aload_n 0, 1) := by decide +kernel
theorem dX12_isDone_124 : decode cX12_isDone 124 = .ok (.iload_n 2, 1) := by decide +kernel
theorem dX12_isDone_125 : decode cX12_isDone 125 = .ok (.iload_n 3, 1) := by decide +kernel
theorem dX12_isDone_126 : decode cX12_isDone 126 = .ok (.iconst 1, 1) := by decide +kernel
theorem dX12_isDone_127 : decode cX12_isDone 127 = .ok (.if_icmp .ne 7, 3) := by decide +kernel
theorem dX12_isDone_130 : decode cX12_isDone 130 = .ok (.iconst 1, 1) := by decide +kernel
theorem dX12_isDone_131 : decode cX12_isDone 131 = .ok (.goto 4, 3) := by decide +kernel
theorem dX12_isDone_134 : decode cX12_isDone 134 = .ok (.iconst 0, 1) := by decide +kernel
theorem dX12_isDone_135 : decode cX12_isDone 135 = .ok (.invokevirtual 201, 3) := by decide +kernel
theorem dX12_isDone_138 : decode cX12_isDone 138 = .ok (.ifCond .lt 7, 3) := by decide +kernel
theorem dX12_isDone_141 : decode cX12_isDone 141 = .ok (.iconst 1, 1) := by decide +kernel
theorem dX12_isDone_142 : decode cX12_isDone 142 = .ok (.goto 4, 3) := by decide +kernel
theorem dX12_isDone_145 : decode cX12_isDone 145 = .ok (.iconst 0, 1) := by decide +kernel
theorem dX12_isDone_146 : decode cX12_isDone 146 = .ok (.ireturn, 1) := by decide +kernel
theorem dX12_isDone_147 : decode cX12_isDone 147 = .ok (.aload_n 0, 1) := by decide +kernel
theorem dX12_isDone_148 : decode cX12_isDone 148 = .ok (.iload_n 2, 1) := by decide +kernel
theorem dX12_isDone_149 : decode cX12_isDone 149 = .ok (.invokevirtual 77, 3) := by decide +kernel
theorem dX12_isDone_152 : decode cX12_isDone 152 = .ok (.ifCond .eq 16, 3) := by decide +kernel
theorem dX12_isDone_155 : decode cX12_isDone 155 = .ok (.aload_n 0, 1) := by decide +kernel
theorem dX12_isDone_156 : decode cX12_isDone 156 = .ok (.iload_n 2, 1) := by decide +kernel
theorem dX12_isDone_157 : decode cX12_isDone 157 = .ok (.iload_n 3, 1) := by decide +kernel
theorem dX12_isDone_158 : decode cX12_isDone 158 = .ok (.invokevirtual 217, 3) := by decide +kernel
theorem dX12_isDone_161 : decode cX12_isDone 161 = .ok (.ifCond .lt 7, 3) := by decide +kernel
theorem dX12_isDone_164 : decode cX12_isDone 164 = .ok (.iconst 1, 1) := by decide +kernel
theorem dX12_isDone_165 : decode cX12_isDone 165 = .ok (.goto 4, 3) := by decide +kernel
theorem dX12_isDone_168 : decode cX12_isDone 168 = .ok (.iconst 0, 1) := by decide +kernel
theorem dX12_isDone_169 : decode cX12_isDone 169 = .ok (.ireturn, 1) := by decide +kernel
theorem dX12_isDone_170 : decode cX12_isDone 170 = .ok (.aload_n 0, 1) := by decide +kernel
theorem dX12_isDone_171 : decode cX12_isDone 171 = .ok (.iload_n 2, 1) := by decide +kernel
theorem dX12_isDone_172 : decode cX12_isDone 172 = .ok (.invokevirtual 77, 3) := by decide +kernel
theorem dX12_isDone_175 : decode cX12_isDone 175 = .ok (.ifCond .eq 26, 3) := by decide +kernel
theorem dX12_isDone_178 : decode cX12_isDone 178 = .ok (.iload_n 3, 1) := by decide +kernel
theorem dX12_isDone_179 : decode cX12_isDone 179 = .ok (.aload_n 0, 1) := by decide +kernel
theorem dX12_isDone_180 : decode cX12_isDone 180 = .ok (.getfield 7, 3) := by decide +kernel
theorem dX12_isDone_183 : decode cX12_isDone 183 = .ok (.iconst 5, 1) := by decide +kernel
theorem dX12_isDone_184 : decode cX12_isDone 184 = .ok (.iaload, 1) := by decide +kernel
theorem dX12_isDone_185 : decode cX12_isDone 185 = .ok (.if_icmp .gt 16, 3) := by decide +kernel
theorem dX12_isDone_188 : decode cX12_isDone 188 = .ok (.aload_n 0, 1) := by decide +kernel
theorem dX12_isDone_189 : decode cX12_isDone 189 = .ok (.iload_n 2, 1) := by decide +kernel
theorem dX12_isDone_190 : decode cX12_isDone 190 = .ok (.iload_n 3, 1) := by decide +kernel
theorem dX12_isDone_191 : decode cX12_isDone 191 = .ok (.invokevirtual 220, 3) := by decide +kernel
theorem dX12_isDone_194 : decode cX12_isDone 194 = .ok (.ifCond .lt 7, 3) := by decide +kernel
theorem dX12_isDone_197 : decode cX12_isDone 197 = .ok (.iconst 1, 1) := by decide +kernel
theorem dX12_isDone_198 : decode cX12_isDone 198 = .ok (.goto 4, 3) := by decide +kernel
theorem dX12_isDone_201 : decode cX12_isDone 201 = .ok (.iconst 0, 1) := by decide +kernel
theorem dX12_isDone_202 : decode cX12_isDone 202 = .ok (.ireturn, 1) := by decide +kernel
theorem dX12_isDone_203 : decode cX12_isDone 203 = .ok (.aload_n 0, 1) := by decide +kernel
theorem dX12_isDone_204 : decode cX12_isDone 204 = .ok (.iload_n 2, 1) := by decide +kernel
theorem dX12_isDone_205 : decode cX12_isDone 205 = .ok (.invokevirtual 77, 3) := by decide +kernel
theorem dX12_isDone_208 : decode cX12_isDone 208 = .ok (.ifCond .eq 24, 3) := by decide +kernel
theorem dX12_isDone_211 : decode cX12_isDone 211 = .ok (.aload_n 0, 1) := by decide +kernel
theorem dX12_isDone_212 : decode cX12_isDone 212 = .ok (.iload_n 3, 1) := by decide +kernel
theorem dX12_isDone_213 : decode cX12_isDone 213 = .ok (.invokevirtual 134, 3) := by decide +kernel
theorem dX12_isDone_216 : decode cX12_isDone 216 = .ok (.ifCond .eq 16, 3) := by decide +kernel
theorem dX12_isDone_219 : decode cX12_isDone 219 = .ok (.aload_n 0, 1) := by decide +kernel
theorem dX12_isDone_220 : decode cX12_isDone 220 = .ok (.iload_n 2, 1) := by decide +kernel
theorem dX12_isDone_221 : decode cX12_isDone 221 = .ok (.iload_n 3, 1) := by decide +kernel
theorem dX12_isDone_222 : decode cX12_isDone 222 = .ok (.invokevirtual 229, 3) := by decide +kernel
theorem dX12_isDone_225 : decode cX12_isDone 225 = .ok (.ifCond .lt 7, 3) := by decide +kernel
theorem dX12_isDone_228 : decode cX12_isDone 228 = .ok (.iconst 1, 1) := by decide +kernel
theorem dX12_isDone_229 : decode cX12_isDone 229 = .ok (.goto 4, 3) := by decide +kernel
theorem dX12_isDone_232 : decode cX12_isDone 232 = .ok (.iconst 0, 1) := by decide +kernel
theorem dX12_isDone_233 : decode cX12_isDone 233 = .ok (.ireturn, 1) := by decide +kernel
theorem dX12_isDone_234 : decode cX12_isDone 234 = .ok (.aload_n 0, 1) := by decide +kernel
theorem dX12_isDone_235 : decode cX12_isDone 235 = .ok (.iload_n 2, 1) := by decide +kernel
theorem dX12_isDone_236 : decode cX12_isDone 236 = .ok (.invokevirtual 77, 3) := by decide +kernel
theorem dX12_isDone_239 : decode cX12_isDone 239 = .ok (.ifCond .eq 15, 3) := by decide +kernel
theorem dX12_isDone_242 : decode cX12_isDone 242 = .ok (.aload_n 0, 1) := by decide +kernel
theorem dX12_isDone_243 : decode cX12_isDone 243 = .ok (.iload_n 2, 1) := by decide +kernel
theorem dX12_isDone_244 : decode cX12_isDone 244 = .ok (.invokevirtual 205, 3) := by decide +kernel
theorem dX12_isDone_247 : decode cX12_isDone 247 = .ok (.ifCond .lt 7, 3) := by decide +kernel
theorem dX12_isDone_250 : decode cX12_isDone 250 = .ok (.iconst 1, 1) := by decide +kernel
theorem dX12_isDone_251 : decode cX12_isDone 251 = .ok (.goto 4, 3) := by decide +kernel
theorem dX12_isDone_254 : decode cX12_isDone 254 = .ok (.iconst 0, 1) := by decide +kernel
theorem dX12_isDone_255 : decode cX12_isDone 255 = .ok (.ireturn, 1) := by decide +kernel
theorem dX12_isDone_256 : decode cX12_isDone 256 = .ok (.aload_n 0, 1) := by decide +kernel
theorem dX12_isDone_257 : decode cX12_isDone 257 = .ok (.iload_n 2, 1) := by decide +kernel
theorem dX12_isDone_258 : decode cX12_isDone 258 = .ok (.invokevirtual 134, 3) := by decide +kernel
theorem dX12_isDone_261 : decode cX12_isDone 261 = .ok (.ifCond .eq 15, 3) := by decide +kernel
theorem dX12_isDone_264 : decode cX12_isDone 264 = .ok (.aload_n 0, 1) := by decide +kernel
theorem dX12_isDone_265 : decode cX12_isDone 265 = .ok (.iload_n 2, 1) := by decide +kernel
theorem dX12_isDone_266 : decode cX12_isDone 266 = .ok (.invokevirtual 232, 3) := by decide +kernel
theorem dX12_isDone_269 : decode cX12_isDone 269 = .ok (.ifCond .lt 7, 3) := by decide +kernel
theorem dX12_isDone_272 : decode cX12_isDone 272 = .ok (.iconst 1, 1) := by decide +kernel
theorem dX12_isDone_273 : decode cX12_isDone 273 = .ok (.goto 4, 3) := by decide +kernel
theorem dX12_isDone_276 : decode cX12_isDone 276 = .ok (.iconst 0, 1) := by decide +kernel
theorem dX12_isDone_277 : decode cX12_isDone 277 = .ok (.ireturn, 1) := by decide +kernel
theorem dX12_isDone_278 : decode cX12_isDone 278 = .ok (.aload_n 0, 1) := by decide +kernel
theorem dX12_isDone_279 : decode cX12_isDone 279 = .ok (.iload_n 2, 1) := by decide +kernel
theorem dX12_isDone_280 : decode cX12_isDone 280 = .ok (.invokevirtual 134, 3) := by decide +kernel
theorem dX12_isDone_283 : decode cX12_isDone 283 = .ok (.ifCond .eq 15, 3) := by decide +kernel
theorem dX12_isDone_286 : decode cX12_isDone 286 = .ok (.aload_n 0, 1) := by decide +kernel
theorem dX12_isDone_287 : decode cX12_isDone 287 = .ok (.iload_n 2, 1) := by decide +kernel
theorem dX12_isDone_288 : decode cX12_isDone 288 = .ok (.invokevirtual 241, 3) := by decide +kernel
theorem dX12_isDone_291 : decode cX12_isDone 291 = .ok (.ifCond .lt 7, 3) := by decide +kernel
theorem dX12_isDone_294 : decode cX12_isDone 294 = .ok (.iconst 1, 1) := by decide +kernel
theorem dX12_isDone_295 : decode cX12_isDone 295 = .ok (.goto 4, 3) := by decide +kernel
theorem dX12_isDone_298 : decode cX12_isDone 298 = .ok (.iconst 0, 1) := by decide +kernel
theorem dX12_isDone_299 : decode cX12_isDone 299 = .ok (.ireturn, 1) := by decide +kernel
theorem dX12_isDone_300 : decode cX12_isDone 300 = .ok (.aload_n 0, 1) := by decide +kernel
theorem dX12_isDone_301 : decode cX12_isDone 301 = .ok (.iload_n 2, 1) := by decide +kernel
theorem dX12_isDone_302 : decode cX12_isDone 302 = .ok (.invokevirtual 134, 3) := by decide +kernel
theorem dX12_isDone_305 : decode cX12_isDone 305 = .ok (.ifCond .eq 15, 3) := by decide +kernel
theorem dX12_isDone_308 : decode cX12_isDone 308 = .ok (.aload_n 0, 1) := by decide +kernel
theorem dX12_isDone_309 : decode cX12_isDone 309 = .ok (.iload_n 2, 1) := by decide +kernel
theorem dX12_isDone_310 : decode cX12_isDone 310 = .ok (.invokevirtual 244, 3) := by decide +kernel
theorem dX12_isDone_313 : decode cX12_isDone 313 = .ok (.ifCond .lt 7, 3) := by decide +kernel
theorem dX12_isDone_316 : decode cX12_isDone 316 = .ok (.iconst 1, 1) := by decide +kernel
theorem dX12_isDone_317 : decode cX12_isDone 317 = .ok (.goto 4, 3) := by decide +kernel
theorem dX12_isDone_320 : decode cX12_isDone 320 = .ok (.iconst 0, 1) := by decide +kernel
theorem dX12_isDone_321 : decode cX12_isDone 321 = .ok (.ireturn, 1) := by decide +kernel
theorem dX12_isDone_322 : decode cX12_isDone 322 = .ok (.aload_n 0, 1) := by decide +kernel
theorem dX12_isDone_323 : decode cX12_isDone 323 = .ok (.iload_n 2, 1) := by decide +kernel
theorem dX12_isDone_324 : decode cX12_isDone 324 = .ok (.invokevirtual 253, 3) := by decide +kernel
theorem dX12_isDone_327 : decode cX12_isDone 327 = .ok (.ifCond .lt 7, 3) := by decide +kernel
theorem dX12_isDone_330 : decode cX12_isDone 330 = .ok (.iconst 1, 1) := by decide +kernel
theorem dX12_isDone_331 : decode cX12_isDone 331 = .ok (.goto 4, 3) := by decide +kernel
theorem dX12_isDone_334 : decode cX12_isDone 334 = .ok (.iconst 0, 1) := by decide +kernel
theorem dX12_isDone_335 : decode cX12_isDone 335 = .ok (.ireturn, 1) := by decide +kernel
theorem dX12_runScript_0 : decode cX12_runScript 0 = .ok (.aload_n 0, 1) := by decide +kernel
theorem dX12_runScript_1 : decode cX12_runScript 1 = .ok (.iconst 0, 1) := by decide +kernel
theorem dX12_runScript_2 : decode cX12_runScript 2 = .ok (.putfield 268, 3) := by decide +kernel
theorem dX12_runScript_5 : decode cX12_runScript 5 = .ok (.aload_n 0, 1) := by decide +kernel
theorem dX12_runScript_6 : decode cX12_runScript 6 = .ok (.iconst 0, 1) := by decide +kernel
theorem dX12_runScript_7 : decode cX12_runScript 7 = .ok (.putfield 293, 3) := by decide +kernel
theorem dX12_runScript_10 : decode cX12_runScript 10 = .ok (.aload_n 0, 1) := by decide +kernel
theorem dX12_runScript_11 : decode cX12_runScript 11 = .ok (.iconst (-1), 1) := by decide +kernel
theorem dX12_runScript_12 : decode cX12_runScript 12 = .ok (.putfield 43, 3) := by decide +kernel
theorem dX12_runScript_15 : decode cX12_runScript 15 = .ok (.aload_n 0, 1) := by decide +kernel
theorem dX12_runScript_16 : decode cX12_runScript 16 = .ok (.iconst 0, 1) := by decide +kernel
theorem dX12_runScript_17 : decode cX12_runScript 17 = .ok (.putfield 315, 3) := by decide +kernel
theorem dX12_runScript_20 : decode cX12_runScript 20 = .ok (.aload_n 0, 1) := by decide +kernel
theorem dX12_runScript_21 : decode cX12_runScript 21 = .ok (.invokevirtual 300, 3) := by decide +kernel
theorem dX12_runScript_24 : decode cX12_runScript 24 = .ok (.aload_n 0, 1) := by decide +kernel
theorem dX12_runScript_25 : decode cX12_runScript 25 = .ok (.getfield 293, 3) := by decide +kernel
theorem dX12_runScript_28 : decode cX12_runScript 28 = .ok (.ifCond .ne 17, 3) := by decide +kernel
theorem dX12_runScript_31 : decode cX12_runScript 31 = .ok (.aload_n 0, 1) := by decide +kernel
theorem dX12_runScript_32 : decode cX12_runScript 32 = .ok (.getfield 287, 3) := by decide +kernel
theorem dX12_runScript_35 : decode cX12_runScript 35 = .ok (.ifCond .eq 10, 3) := by decide +kernel
theorem dX12_runScript_38 : decode cX12_runScript 38 = .ok (.aload_n 0, 1) := by decide +kernel
theorem dX12_runScript_39 : decode cX12_runScript 39 = .ok (.invokevirtual 321, 3) := by decide +kernel
theorem dX12_runScript_42 : decode cX12_runScript 42 = .ok (.goto (-18), 3) := by decide +kernel
theorem dX12_runScript_45 : decode cX12_runScript 45 = .ok (.aload_n 0, 1) := by decide +kernel
theorem dX12_runScript_46 : decode cX12_runScript 46 = .ok (.iconst 0, 1) := by decide +kernel
theorem dX12_runScript_47 : decode cX12_runScript 47 = .ok (.putfield 265, 3) := by decide +kernel
theorem dX12_runScript_50 : decode cX12_runScript 50 = .ok (.aload_n 0, 1) := by decide +kernel
theorem dX12_runScript_51 : decode cX12_runScript 51 = .ok (.iconst 0, 1) := by decide +kernel
theorem dX12_runScript_52 : decode cX12_runScript 52 = .ok (.putfield 60, 3) := by decide +kernel
theorem dX12_runScript_55 : decode cX12_runScript 55 = .ok (.aload_n 0, 1) := by decide +kernel
theorem dX12_runScript_56 : decode cX12_runScript 56 = .ok (.getfield 293, 3) := by decide +kernel
theorem dX12_runScript_59 : decode cX12_runScript 59 = .ok (.ifCond .le 5, 3) := by decide +kernel
theorem dX12_runScript_62 : decode cX12_runScript 62 = .ok (.iconst (-1), 1) := by decide +kernel
theorem dX12_runScript_63 : decode cX12_runScript 63 = .ok (.ireturn, 1) := by decide +kernel
theorem dX12_runScript_64 : decode cX12_runScript 64 = .ok (.iconst 0, 1) := by decide +kernel
theorem dX12_runScript_65 : decode cX12_runScript 65 = .ok (.istore_n 1, 1) := by decide +kernel
theorem dX12_runScript_66 : decode cX12_runScript 66 = .ok (.iload_n 1, 1) := by decide +kernel
theorem dX12_runScript_67 : decode cX12_runScript 67 = .ok (.aload_n 0, 1) := by decide +kernel
theorem dX12_runScript_68 : decode cX12_runScript 68 = .ok (.getfield 315, 3) := by decide +kernel
theorem dX12_runScript_71 : decode cX12_runScript 71 = .ok (.if_icmp .ge 19, 3) := by decide +kernel
theorem dX12_runScript_74 : decode cX12_runScript 74 = .ok (.aload_n 0, 1) := by decide +kernel
theorem dX12_runScript_75 : decode cX12_runScript 75 = .ok (.iconst 5, 1) := by decide +kernel
theorem dX12_runScript_76 : decode cX12_runScript 76 = .ok (.iload_n 1, 1) := by decide +kernel
theorem dX12_runScript_77 : decode cX12_runScript 77 = .ok (.imul, 1) := by decide +kernel
theorem dX12_runScript_78 : decode cX12_runScript 78 = .ok (.invokevirtual 324, 3) := by decide +kernel
theorem dX12_runScript_81 : decode cX12_runScript 81 = .ok (.ifCond .eq 9, 3) := by decide +kernel
theorem dX12_runScript_84 : decode cX12_runScript 84 = .ok (.iinc 1 1, 3) := by decide +kernel
theorem dX12_runScript_87 : decode cX12_runScript 87 = .ok (.goto (-21), 3) := by decide +kernel
theorem dX12_runScript_90 : decode cX12_runScript 90 = .ok (.iload_n 1, 1) := by decide +kernel
theorem dX12_runScript_91 : decode cX12_runScript 91 = .ok (.ireturn, 1) := by decide +kernel
theorem dX12_errorCode_0 : decode cX12_errorCode 0 = .ok (.aload_n 0, 1) := by decide +kernel
theorem dX12_errorCode_1 : decode cX12_errorCode 1 = .ok (.iconst 0, 1) := by decide +kernel
theorem dX12_errorCode_2 : decode cX12_errorCode 2 = .ok (.putfield 60, 3) := by decide +kernel
theorem dX12_errorCode_5 : decode cX12_errorCode 5 = .ok (.aload_n 0, 1) := by decide +kernel
theorem dX12_errorCode_6 : decode cX12_errorCode 6 = .ok (.getfield 293, 3) := by decide +kernel
theorem dX12_errorCode_9 : decode cX12_errorCode 9 = .ok (.ireturn, 1) := by decide +kernel
theorem dX12_errorPosition_0 : decode cX12_errorPosition 0 = .ok (.aload_n 0, 1) := by decide +kernel
theorem dX12_errorPosition_1 : decode cX12_errorPosition 1 = .ok (.iconst 0, 1) := by decide +kernel
theorem dX12_errorPosition_2 : decode cX12_errorPosition 2 = .ok (.putfield 60, 3) := by decide +kernel
theorem dX12_errorPosition_5 : decode cX12_errorPosition 5 = .ok (.aload_n 0, 1) := by decide +kernel
theorem dX12_errorPosition_6 : decode cX12_errorPosition 6 = .ok (.getfield 43, 3) := by decide +kernel
theorem dX12_errorPosition_9 : decode cX12_errorPosition 9 = .ok (.ireturn, 1) := by decide +kernel
theorem dX12_prints_0 : decode cX12_prints 0 = .ok (.aload_n 0, 1) := by decide +kernel
theorem dX12_prints_1 : decode cX12_prints 1 = .ok (.getfield 53, 3) := by decide +kernel
theorem dX12_prints_4 : decode cX12_prints 4 = .ok (.aload_n 0, 1) := by decide +kernel
theorem dX12_prints_5 : decode cX12_prints 5 = .ok (.getfield 327, 3) := by decide +kernel
theorem dX12_prints_8 : decode cX12_prints 8 = .ok (.iload_n 1, 1) := by decide +kernel
theorem dX12_prints_9 : decode cX12_prints 9 = .ok (.i2b, 1) := by decide +kernel
theorem dX12_prints_10 : decode cX12_prints 10 = .ok (.bastore, 1) := by decide +kernel
theorem dX12_prints_11 : decode cX12_prints 11 = .ok (.aload_n 0, 1) := by decide +kernel
theorem dX12_prints_12 : decode cX12_prints 12 = .ok (.dup, 1) := by decide +kernel
theorem dX12_prints_13 : decode cX12_prints 13 = .ok (.getfield 327, 3) := by decide +kernel
theorem dX12_prints_16 : decode cX12_prints 16 = .ok (.iconst 1, 1) := by decide +kernel
theorem dX12_prints_17 : decode cX12_prints 17 = .ok (.iadd, 1) := by decide +kernel
theorem dX12_prints_18 : decode cX12_prints 18 = .ok (.putfield 327, 3) := by decide +kernel
theorem dX12_prints_21 : decode cX12_prints 21 = .ok (.return_, 1) := by decide +kernel
theorem dX12_printsNumber_0 : decode cX12_printsNumber 0 = .ok (.iconst 1, 1) := by decide +kernel
theorem dX12_printsNumber_1 : decode cX12_printsNumber 1 = .ok (.istore_n 2, 1) := by decide +kernel
theorem dX12_printsNumber_2 : decode cX12_printsNumber 2 = .ok (.iload_n 1, 1) := by decide +kernel
theorem dX12_printsNumber_3 : decode cX12_printsNumber 3 = .ok (.iload_n 2, 1) := by decide +kernel
theorem dX12_printsNumber_4 : decode cX12_printsNumber 4 = .ok (.idiv, 1) := by decide +kernel
theorem dX12_printsNumber_5 : decode cX12_printsNumber 5 = .ok (.bipush 10, 2) := by decide +kernel
theorem dX12_printsNumber_7 : decode cX12_printsNumber 7 = .ok (.if_icmp .lt 11, 3) := by decide +kernel
theorem dX12_printsNumber_10 : decode cX12_printsNumber 10 = .ok (.iload_n 2, 1) := by decide +kernel
theorem dX12_printsNumber_11 : decode cX12_printsNumber 11 = .ok (.bipush 10, 2) := by decide +kernel
theorem dX12_printsNumber_13 : decode cX12_printsNumber 13 = .ok (.imul, 1) := by decide +kernel
theorem dX12_printsNumber_14 : decode cX12_printsNumber 14 = .ok (.istore_n 2, 1) := by decide +kernel
theorem dX12_printsNumber_15 : decode cX12_printsNumber 15 = .ok (.goto (-13), 3) := by decide +kernel
theorem dX12_printsNumber_18 : decode cX12_printsNumber 18 = .ok (.iload_n 2, 1) := by decide +kernel
theorem dX12_printsNumber_19 : decode cX12_printsNumber 19 = .ok (.ifCond .le 24, 3) := by decide +kernel
theorem dX12_printsNumber_22 : decode cX12_printsNumber 22 = .ok (.aload_n 0, 1) := by decide +kernel
theorem dX12_printsNumber_23 : decode cX12_printsNumber 23 = .ok (.bipush 48, 2) := by decide +kernel
theorem dX12_printsNumber_25 : decode cX12_printsNumber 25 = .ok (.iload_n 1, 1) := by decide +kernel
theorem dX12_printsNumber_26 : decode cX12_printsNumber 26 = .ok (.iload_n 2, 1) := by decide +kernel
theorem dX12_printsNumber_27 : decode cX12_printsNumber 27 = .ok (.idiv, 1) := by decide +kernel
theorem dX12_printsNumber_28 : decode cX12_printsNumber 28 = .ok (.bipush 10, 2) := by decide +kernel
theorem dX12_printsNumber_30 : decode cX12_printsNumber 30 = .ok (.irem, 1) := by decide +kernel
theorem dX12_printsNumber_31 : decode cX12_printsNumber 31 = .ok (.iadd, 1) := by decide +kernel
theorem dX12_printsNumber_32 : decode cX12_printsNumber 32 = .ok (.invokevirtual 330, 3) := by decide +kernel
theorem dX12_printsNumber_35 : decode cX12_printsNumber 35 = .ok (.iload_n 2, 1) := by decide +kernel
theorem dX12_printsNumber_36 : decode cX12_printsNumber 36 = .ok (.bipush 10, 2) := by decide +kernel
theorem dX12_printsNumber_38 : decode cX12_printsNumber 38 = .ok (.idiv, 1) := by decide +kernel
theorem dX12_printsNumber_39 : decode cX12_printsNumber 39 = .ok (.istore_n 2, 1) := by decide +kernel
theorem dX12_printsNumber_40 : decode cX12_printsNumber 40 = .ok (.goto (-22), 3) := by decide +kernel
theorem dX12_printsNumber_43 : decode cX12_printsNumber 43 = .ok (.return_, 1) := by decide +kernel
theorem dX12_printsReader_0 : decode cX12_printsReader 0 = .ok (.aload_n 0, 1) := by decide +kernel
theorem dX12_printsReader_1 : decode cX12_printsReader 1 = .ok (.bipush 32, 2) := by decide +kernel
theorem dX12_printsReader_3 : decode cX12_printsReader 3 = .ok (.invokevirtual 330, 3) := by decide +kernel
theorem dX12_printsReader_6 : decode cX12_printsReader 6 = .ok (.aload_n 0, 1) := by decide +kernel
theorem dX12_printsReader_7 : decode cX12_printsReader 7 = .ok (.bipush 114, 2) := by decide +kernel
theorem dX12_printsReader_9 : decode cX12_printsReader 9 = .ok (.invokevirtual 330, 3) := by decide +kernel
theorem dX12_printsReader_12 : decode cX12_printsReader 12 = .ok (.aload_n 0, 1) := by decide +kernel
theorem dX12_printsReader_13 : decode cX12_printsReader 13 = .ok (.iload_n 1, 1) := by decide +kernel
theorem dX12_printsReader_14 : decode cX12_printsReader 14 = .ok (.invokevirtual 333, 3) := by decide +kernel
theorem dX12_printsReader_17 : decode cX12_printsReader 17 = .ok (.aload_n 0, 1) := by decide +kernel
theorem dX12_printsReader_18 : decode cX12_printsReader 18 = .ok (.bipush 61, 2) := by decide +kernel
theorem dX12_printsReader_20 : decode cX12_printsReader 20 = .ok (.invokevirtual 330, 3) := by decide +kernel
theorem dX12_printsReader_23 : decode cX12_printsReader 23 = .ok (.aload_n 0, 1) := by decide +kernel
theorem dX12_printsReader_24 : decode cX12_printsReader 24 = .ok (.aload_n 0, 1) := by decide +kernel
theorem dX12_printsReader_25 : decode cX12_printsReader 25 = .ok (.iload_n 1, 1) := by decide +kernel
theorem dX12_printsReader_26 : decode cX12_printsReader 26 = .ok (.iconst 2, 1) := by decide +kernel
theorem dX12_printsReader_27 : decode cX12_printsReader 27 = .ok (.invokevirtual 74, 3) := by decide +kernel
theorem dX12_printsReader_30 : decode cX12_printsReader 30 = .ok (.invokevirtual 333, 3) := by decide +kernel
theorem dX12_printsReader_33 : decode cX12_printsReader 33 = .ok (.aload_n 0, 1) := by decide +kernel
theorem dX12_printsReader_34 : decode cX12_printsReader 34 = .ok (.iload_n 1, 1) := by decide +kernel
theorem dX12_printsReader_35 : decode cX12_printsReader 35 = .ok (.invokevirtual 256, 3) := by decide +kernel
theorem dX12_printsReader_38 : decode cX12_printsReader 38 = .ok (.ifCond .eq 19, 3) := by decide +kernel
theorem dX12_printsReader_41 : decode cX12_printsReader 41 = .ok (.aload_n 0, 1) := by decide +kernel
theorem dX12_printsReader_42 : decode cX12_printsReader 42 = .ok (.bipush 112, 2) := by decide +kernel
theorem dX12_printsReader_44 : decode cX12_printsReader 44 = .ok (.invokevirtual 330, 3) := by decide +kernel
theorem dX12_printsReader_47 : decode cX12_printsReader 47 = .ok (.aload_n 0, 1) := by decide +kernel
theorem dX12_printsReader_48 : decode cX12_printsReader 48 = .ok (.aload_n 0, 1) := by decide +kernel
theorem dX12_printsReader_49 : decode cX12_printsReader 49 = .ok (.iload_n 1, 1) := by decide +kernel
theorem dX12_printsReader_50 : decode cX12_printsReader 50 = .ok (.iconst 4, 1) := by decide +kernel
theorem dX12_printsReader_51 : decode cX12_printsReader 51 = .ok (.invokevirtual 74, 3) := by decide +kernel
theorem dX12_printsReader_54 : decode cX12_printsReader 54 = .ok (.invokevirtual 333, 3) := by decide +kernel
theorem dX12_printsReader_57 : decode cX12_printsReader 57 = .ok (.aload_n 0, 1) := by decide +kernel
theorem dX12_printsReader_58 : decode cX12_printsReader 58 = .ok (.iload_n 1, 1) := by decide +kernel
theorem dX12_printsReader_59 : decode cX12_printsReader 59 = .ok (.bipush 9, 2) := by decide +kernel
theorem dX12_printsReader_61 : decode cX12_printsReader 61 = .ok (.invokevirtual 74, 3) := by decide +kernel
theorem dX12_printsReader_64 : decode cX12_printsReader 64 = .ok (.ifCond .le 9, 3) := by decide +kernel
theorem dX12_printsReader_67 : decode cX12_printsReader 67 = .ok (.aload_n 0, 1) := by decide +kernel
theorem dX12_printsReader_68 : decode cX12_printsReader 68 = .ok (.bipush 33, 2) := by decide +kernel
theorem dX12_printsReader_70 : decode cX12_printsReader 70 = .ok (.invokevirtual 330, 3) := by decide +kernel
theorem dX12_printsReader_73 : decode cX12_printsReader 73 = .ok (.return_, 1) := by decide +kernel
theorem dX12_write_0 : decode cX12_write 0 = .ok (.aload_n 0, 1) := by decide +kernel
theorem dX12_write_1 : decode cX12_write 1 = .ok (.aload_n 0, 1) := by decide +kernel
theorem dX12_write_2 : decode cX12_write 2 = .ok (.iload_n 1, 1) := by decide +kernel
theorem dX12_write_3 : decode cX12_write 3 = .ok (.invokevirtual 134, 3) := by decide +kernel
theorem dX12_write_6 : decode cX12_write 6 = .ok (.ifCond .eq 7, 3) := by decide +kernel
theorem dX12_write_9 : decode cX12_write 9 = .ok (.iconst 0, 1) := by decide +kernel
theorem dX12_write_10 : decode cX12_write 10 = .ok (.goto 4, 3) := by decide +kernel
theorem dX12_write_13 : decode cX12_write 13 = .ok (.iconst 1, 1) := by decide +kernel
theorem dX12_write_14 : decode cX12_write 14 = .ok (.putfield 60, 3) := by decide +kernel
theorem dX12_write_17 : decode cX12_write 17 = .ok (.aload_n 0, 1) := by decide +kernel
theorem dX12_write_18 : decode cX12_write 18 = .ok (.getfield 60, 3) := by decide +kernel
theorem dX12_write_21 : decode cX12_write 21 = .ok (.ifCond .le 5, 3) := by decide +kernel
theorem dX12_write_24 : decode cX12_write 24 = .ok (.iconst 0, 1) := by decide +kernel
theorem dX12_write_25 : decode cX12_write 25 = .ok (.ireturn, 1) := by decide +kernel
theorem dX12_write_26 : decode cX12_write 26 = .ok (.aload_n 0, 1) := by decide +kernel
theorem dX12_write_27 : decode cX12_write 27 = .ok (.iconst 0, 1) := by decide +kernel
theorem dX12_write_28 : decode cX12_write 28 = .ok (.putfield 327, 3) := by decide +kernel
theorem dX12_write_31 : decode cX12_write 31 = .ok (.aload_n 0, 1) := by decide +kernel
theorem dX12_write_32 : decode cX12_write 32 = .ok (.iload_n 1, 1) := by decide +kernel
theorem dX12_write_33 : decode cX12_write 33 = .ok (.invokevirtual 333, 3) := by decide +kernel
theorem dX12_write_36 : decode cX12_write 36 = .ok (.aload_n 0, 1) := by decide +kernel
theorem dX12_write_37 : decode cX12_write 37 = .ok (.bipush 58, 2) := by decide +kernel
theorem dX12_write_39 : decode cX12_write 39 = .ok (.invokevirtual 330, 3) := by decide +kernel
theorem dX12_write_42 : decode cX12_write 42 = .ok (.aload_n 0, 1) := by decide +kernel
theorem dX12_write_43 : decode cX12_write 43 = .ok (.aload_n 0, 1) := by decide +kernel
theorem dX12_write_44 : decode cX12_write 44 = .ok (.iload_n 1, 1) := by decide +kernel
theorem dX12_write_45 : decode cX12_write 45 = .ok (.iconst 1, 1) := by decide +kernel
theorem dX12_write_46 : decode cX12_write 46 = .ok (.invokevirtual 70, 3) := by decide +kernel
theorem dX12_write_49 : decode cX12_write 49 = .ok (.invokevirtual 333, 3) := by decide +kernel
theorem dX12_write_52 : decode cX12_write 52 = .ok (.aload_n 0, 1) := by decide +kernel
theorem dX12_write_53 : decode cX12_write 53 = .ok (.bipush 45, 2) := by decide +kernel
theorem dX12_write_55 : decode cX12_write 55 = .ok (.invokevirtual 330, 3) := by decide +kernel
theorem dX12_write_58 : decode cX12_write 58 = .ok (.aload_n 0, 1) := by decide +kernel
theorem dX12_write_59 : decode cX12_write 59 = .ok (.aload_n 0, 1) := by decide +kernel
theorem dX12_write_60 : decode cX12_write 60 = .ok (.iload_n 1, 1) := by decide +kernel
theorem dX12_write_61 : decode cX12_write 61 = .ok (.invokevirtual 163, 3) := by decide +kernel
theorem dX12_write_64 : decode cX12_write 64 = .ok (.invokevirtual 333, 3) := by decide +kernel
theorem dX12_write_67 : decode cX12_write 67 = .ok (.iconst 0, 1) := by decide +kernel
theorem dX12_write_68 : decode cX12_write 68 = .ok (.istore_n 2, 1) := by decide +kernel
theorem dX12_write_69 : decode cX12_write 69 = .ok (.iload_n 2, 1) := by decide +kernel
theorem dX12_write_70 : decode cX12_write 70 = .ok (.bipush 6, 2) := by decide +kernel
theorem dX12_write_72 : decode cX12_write 72 = .ok (.if_icmp .ge 23, 3) := by decide +kernel
theorem dX12_write_75 : decode cX12_write 75 = .ok (.aload_n 0, 1) := by decide +kernel
theorem dX12_write_76 : decode cX12_write 76 = .ok (.iload_n 2, 1) := by decide +kernel
theorem dX12_write_77 : decode cX12_write 77 = .ok (.iload_n 1, 1) := by decide +kernel
theorem dX12_write_78 : decode cX12_write 78 = .ok (.invokevirtual 93, 3) := by decide +kernel
theorem dX12_write_81 : decode cX12_write 81 = .ok (.ifCond .eq 8, 3) := by decide +kernel
theorem dX12_write_84 : decode cX12_write 84 = .ok (.aload_n 0, 1) := by decide +kernel
theorem dX12_write_85 : decode cX12_write 85 = .ok (.iload_n 2, 1) := by decide +kernel
theorem dX12_write_86 : decode cX12_write 86 = .ok (.invokevirtual 336, 3) := by decide +kernel
theorem dX12_write_89 : decode cX12_write 89 = .ok (.iinc 2 1, 3) := by decide +kernel
theorem dX12_write_92 : decode cX12_write 92 = .ok (.goto (-23), 3) := by decide +kernel
theorem dX12_write_95 : decode cX12_write 95 = .ok (.aload_n 0, 1) := by decide +kernel
theorem dX12_write_96 : decode cX12_write 96 = .ok (.getfield 327, 3) := by decide +kernel
theorem dX12_write_99 : decode cX12_write 99 = .ok (.ireturn, 1) := by decide +kernel
theorem dX12_output_0 : decode cX12_output 0 = .ok (.aload_n 0, 1) := by decide +kernel
theorem dX12_output_1 : decode cX12_output 1 = .ok (.iconst 0, 1) := by decide +kernel
theorem dX12_output_2 : decode cX12_output 2 = .ok (.putfield 60, 3) := by decide +kernel
theorem dX12_output_5 : decode cX12_output 5 = .ok (.iload_n 1, 1) := by decide +kernel
theorem dX12_output_6 : decode cX12_output 6 = .ok (.iconst 0, 1) := by decide +kernel
theorem dX12_output_7 : decode cX12_output 7 = .ok (.aload_n 0, 1) := by decide +kernel
theorem dX12_output_8 : decode cX12_output 8 = .ok (.getfield 327, 3) := by decide +kernel
theorem dX12_output_11 : decode cX12_output 11 = .ok (.iconst 1, 1) := by decide +kernel
theorem dX12_output_12 : decode cX12_output 12 = .ok (.isub, 1) := by decide +kernel
theorem dX12_output_13 : decode cX12_output 13 = .ok (.invokestatic 66, 3) := by decide +kernel
theorem dX12_output_16 : decode cX12_output 16 = .ok (.ifCond .eq 12, 3) := by decide +kernel
theorem dX12_output_19 : decode cX12_output 19 = .ok (.aload_n 0, 1) := by decide +kernel
theorem dX12_output_20 : decode cX12_output 20 = .ok (.getfield 53, 3) := by decide +kernel
theorem dX12_output_23 : decode cX12_output 23 = .ok (.iload_n 1, 1) := by decide +kernel
theorem dX12_output_24 : decode cX12_output 24 = .ok (.baload, 1) := by decide +kernel
theorem dX12_output_25 : decode cX12_output 25 = .ok (.goto 4, 3) := by decide +kernel
theorem dX12_output_28 : decode cX12_output 28 = .ok (.iconst (-1), 1) := by decide +kernel
theorem dX12_output_29 : decode cX12_output 29 = .ok (.ireturn, 1) := by decide +kernel
theorem dX12_undo_0 : decode cX12_undo 0 = .ok (.aload_n 0, 1) := by decide +kernel
theorem dX12_undo_1 : decode cX12_undo 1 = .ok (.iconst 0, 1) := by decide +kernel
theorem dX12_undo_2 : decode cX12_undo 2 = .ok (.putfield 60, 3) := by decide +kernel
theorem dX12_undo_5 : decode cX12_undo 5 = .ok (.aload_n 0, 1) := by decide +kernel
theorem dX12_undo_6 : decode cX12_undo 6 = .ok (.getfield 157, 3) := by decide +kernel
theorem dX12_undo_9 : decode cX12_undo 9 = .ok (.ifCond .ne 5, 3) := by decide +kernel
theorem dX12_undo_12 : decode cX12_undo 12 = .ok (.iconst (-1), 1) := by decide +kernel
theorem dX12_undo_13 : decode cX12_undo 13 = .ok (.ireturn, 1) := by decide +kernel
theorem dX12_undo_14 : decode cX12_undo 14 = .ok (.aload_n 0, 1) := by decide +kernel
theorem dX12_undo_15 : decode cX12_undo 15 = .ok (.dup, 1) := by decide +kernel
theorem dX12_undo_16 : decode cX12_undo 16 = .ok (.getfield 157, 3) := by decide +kernel
theorem dX12_undo_19 : decode cX12_undo 19 = .ok (.iconst 1, 1) := by decide +kernel
theorem dX12_undo_20 : decode cX12_undo 20 = .ok (.isub, 1) := by decide +kernel
theorem dX12_undo_21 : decode cX12_undo 21 = .ok (.putfield 157, 3) := by decide +kernel
theorem dX12_undo_24 : decode cX12_undo 24 = .ok (.aload_n 0, 1) := by decide +kernel
theorem dX12_undo_25 : decode cX12_undo 25 = .ok (.getfield 20, 3) := by decide +kernel
theorem dX12_undo_28 : decode cX12_undo 28 = .ok (.sipush 14622, 3) := by decide +kernel
theorem dX12_undo_31 : decode cX12_undo 31 = .ok (.aload_n 0, 1) := by decide +kernel
theorem dX12_undo_32 : decode cX12_undo 32 = .ok (.getfield 157, 3) := by decide +kernel
theorem dX12_undo_35 : decode cX12_undo 35 = .ok (.imul, 1) := by decide +kernel
theorem dX12_undo_36 : decode cX12_undo 36 = .ok (.aload_n 0, 1) := by decide +kernel
theorem dX12_undo_37 : decode cX12_undo 37 = .ok (.getfield 13, 3) := by decide +kernel
theorem dX12_undo_40 : decode cX12_undo 40 = .ok (.iconst 0, 1) := by decide +kernel
theorem dX12_undo_41 : decode cX12_undo 41 = .ok (.invokestatic 176, 3) := by decide +kernel
theorem dX12_undo_44 : decode cX12_undo 44 = .ok (.aload_n 0, 1) := by decide +kernel
theorem dX12_undo_45 : decode cX12_undo 45 = .ok (.getfield 157, 3) := by decide +kernel
theorem dX12_undo_48 : decode cX12_undo 48 = .ok (.ireturn, 1) := by decide +kernel
theorem dX12_save_0 : decode cX12_save 0 = .ok (.aload_n 0, 1) := by decide +kernel
theorem dX12_save_1 : decode cX12_save 1 = .ok (.iload_n 1, 1) := by decide +kernel
theorem dX12_save_2 : decode cX12_save 2 = .ok (.iconst 0, 1) := by decide +kernel
theorem dX12_save_3 : decode cX12_save 3 = .ok (.iconst 1, 1) := by decide +kernel
theorem dX12_save_4 : decode cX12_save 4 = .ok (.invokestatic 66, 3) := by decide +kernel
theorem dX12_save_7 : decode cX12_save 7 = .ok (.ifCond .eq 7, 3) := by decide +kernel
theorem dX12_save_10 : decode cX12_save 10 = .ok (.iconst 0, 1) := by decide +kernel
theorem dX12_save_11 : decode cX12_save 11 = .ok (.goto 4, 3) := by decide +kernel
theorem dX12_save_14 : decode cX12_save 14 = .ok (.iconst 1, 1) := by decide +kernel
theorem dX12_save_15 : decode cX12_save 15 = .ok (.putfield 60, 3) := by decide +kernel
theorem dX12_save_18 : decode cX12_save 18 = .ok (.aload_n 0, 1) := by decide +kernel
theorem dX12_save_19 : decode cX12_save 19 = .ok (.getfield 60, 3) := by decide +kernel
theorem dX12_save_22 : decode cX12_save 22 = .ok (.ifCond .le 4, 3) := by decide +kernel
theorem dX12_save_25 : decode cX12_save 25 = .ok (.return_, 1) := by decide +kernel
theorem dX12_save_26 : decode cX12_save 26 = .ok (.aload_n 0, 1) := by decide +kernel
theorem dX12_save_27 : decode cX12_save 27 = .ok (.getfield 13, 3) := by decide +kernel
theorem dX12_save_30 : decode cX12_save 30 = .ok (.iconst 0, 1) := by decide +kernel
theorem dX12_save_31 : decode cX12_save 31 = .ok (.aload_n 0, 1) := by decide +kernel
theorem dX12_save_32 : decode cX12_save 32 = .ok (.getfield 23, 3) := by decide +kernel
theorem dX12_save_35 : decode cX12_save 35 = .ok (.sipush 14622, 3) := by decide +kernel
theorem dX12_save_38 : decode cX12_save 38 = .ok (.iload_n 1, 1) := by decide +kernel
theorem dX12_save_39 : decode cX12_save 39 = .ok (.imul, 1) := by decide +kernel
theorem dX12_save_40 : decode cX12_save 40 = .ok (.invokestatic 176, 3) := by decide +kernel
theorem dX12_save_43 : decode cX12_save 43 = .ok (.aload_n 0, 1) := by decide +kernel
theorem dX12_save_44 : decode cX12_save 44 = .ok (.getfield 26, 3) := by decide +kernel
theorem dX12_save_47 : decode cX12_save 47 = .ok (.iload_n 1, 1) := by decide +kernel
theorem dX12_save_48 : decode cX12_save 48 = .ok (.iconst 1, 1) := by decide +kernel
theorem dX12_save_49 : decode cX12_save 49 = .ok (.bastore, 1) := by decide +kernel
theorem dX12_save_50 : decode cX12_save 50 = .ok (.return_, 1) := by decide +kernel
theorem dX12_restore_0 : decode cX12_restore 0 = .ok (.aload_n 0, 1) := by decide +kernel
theorem dX12_restore_1 : decode cX12_restore 1 = .ok (.iload_n 1, 1) := by decide +kernel
theorem dX12_restore_2 : decode cX12_restore 2 = .ok (.iconst 0, 1) := by decide +kernel
theorem dX12_restore_3 : decode cX12_restore 3 = .ok (.iconst 1, 1) := by decide +kernel
theorem dX12_restore_4 : decode cX12_restore 4 = .ok (.invokestatic 66, 3) := by decide +kernel
theorem dX12_restore_7 : decode cX12_restore 7 = .ok (.ifCond .ne 7, 3) := by decide +kernel
theorem dX12_restore_10 : decode cX12_restore 10 = .ok (.iconst 1, 1) := by decide +kernel
theorem dX12_restore_11 : decode cX12_restore 11 = .ok (.goto 17, 3) := by decide +kernel
theorem dX12_restore_14 : decode cX12_restore 14 = .ok (.aload_n 0, 1) := by decide +kernel
theorem dX12_restore_15 : decode cX12_restore 15 = .ok (.getfield 26, 3) := by decide +kernel
theorem dX12_restore_18 : decode cX12_restore 18 = .ok (.iload_n 1, 1) := by decide +kernel
theorem dX12_restore_19 : decode cX12_restore 19 = .ok (.baload, 1) := by decide +kernel
theorem dX12_restore_20 : decode cX12_restore 20 = .ok (.ifCond .eq 7, 3) := by decide +kernel
theorem dX12_restore_23 : decode cX12_restore 23 = .ok (.iconst 0, 1) := by decide +kernel
theorem dX12_restore_24 : decode cX12_restore 24 = .ok (.goto 4, 3) := by decide +kernel
theorem dX12_restore_27 : decode cX12_restore 27 = .ok (.iconst 2, 1) := by decide +kernel
theorem dX12_restore_28 : decode cX12_restore 28 = .ok (.putfield 60, 3) := by decide +kernel
theorem dX12_restore_31 : decode cX12_restore 31 = .ok (.aload_n 0, 1) := by decide +kernel
theorem dX12_restore_32 : decode cX12_restore 32 = .ok (.getfield 60, 3) := by decide +kernel
theorem dX12_restore_35 : decode cX12_restore 35 = .ok (.ifCond .le 4, 3) := by decide +kernel
theorem dX12_restore_38 : decode cX12_restore 38 = .ok (.return_, 1) := by decide +kernel
theorem dX12_restore_39 : decode cX12_restore 39 = .ok (.aload_n 0, 1) := by decide +kernel
theorem dX12_restore_40 : decode cX12_restore 40 = .ok (.getfield 23, 3) := by decide +kernel
theorem dX12_restore_43 : decode cX12_restore 43 = .ok (.sipush 14622, 3) := by decide +kernel
theorem dX12_restore_46 : decode cX12_restore 46 = .ok (.iload_n 1, 1) := by decide +kernel
theorem dX12_restore_47 : decode cX12_restore 47 = .ok (.imul, 1) := by decide +kernel
theorem dX12_restore_48 : decode cX12_restore 48 = .ok (.aload_n 0, 1) := by decide +kernel
theorem dX12_restore_49 : decode cX12_restore 49 = .ok (.getfield 13, 3) := by decide +kernel
theorem dX12_restore_52 : decode cX12_restore 52 = .ok (.iconst 0, 1) := by decide +kernel
theorem dX12_restore_53 : decode cX12_restore 53 = .ok (.invokestatic 176, 3) := by decide +kernel
theorem dX12_restore_56 : decode cX12_restore 56 = .ok (.aload_n 0, 1) := by decide +kernel
theorem dX12_restore_57 : decode cX12_restore 57 = .ok (.iconst 0, 1) := by decide +kernel
theorem dX12_restore_58 : decode cX12_restore 58 = .ok (.putfield 157, 3) := by decide +kernel
theorem dX12_restore_61 : decode cX12_restore 61 = .ok (.return_, 1) := by decide +kernel
