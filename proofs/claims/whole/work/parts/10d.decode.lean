theorem dX12_init_0 : decode cX12_init 0 = .ok (.aload_n 0, 1) := by decide +kernel
theorem dX12_init_1 : decode cX12_init 1 = .ok (.invokespecial 1, 3) := by decide +kernel
theorem dX12_init_4 : decode cX12_init 4 = .ok (.aload_n 0, 1) := by decide +kernel
theorem dX12_init_5 : decode cX12_init 5 = .ok (.sipush 700, 3) := by decide +kernel
theorem dX12_init_8 : decode cX12_init 8 = .ok (.newarray .int, 2) := by decide +kernel
theorem dX12_init_10 : decode cX12_init 10 = .ok (.putfield 7, 3) := by decide +kernel
theorem dX12_init_13 : decode cX12_init 13 = .ok (.aload_n 0, 1) := by decide +kernel
theorem dX12_init_14 : decode cX12_init 14 = .ok (.sipush 143, 3) := by decide +kernel
theorem dX12_init_17 : decode cX12_init 17 = .ok (.newarray .int, 2) := by decide +kernel
theorem dX12_init_19 : decode cX12_init 19 = .ok (.dup, 1) := by decide +kernel
theorem dX12_init_20 : decode cX12_init 20 = .ok (.iconst 0, 1) := by decide +kernel
theorem dX12_init_21 : decode cX12_init 21 = .ok (.bipush 108, 2) := by decide +kernel
theorem dX12_init_23 : decode cX12_init 23 = .ok (.iastore, 1) := by decide +kernel
theorem dX12_init_24 : decode cX12_init 24 = .ok (.dup, 1) := by decide +kernel
theorem dX12_init_25 : decode cX12_init 25 = .ok (.iconst 1, 1) := by decide +kernel
theorem dX12_init_26 : decode cX12_init 26 = .ok (.bipush 97, 2) := by decide +kernel
theorem dX12_init_28 : decode cX12_init 28 = .ok (.iastore, 1) := by decide +kernel
theorem dX12_init_29 : decode cX12_init 29 = .ok (.dup, 1) := by decide +kernel
theorem dX12_init_30 : decode cX12_init 30 = .ok (.iconst 2, 1) := by decide +kernel
theorem dX12_init_31 : decode cX12_init 31 = .ok (.bipush 110, 2) := by decide +kernel
theorem dX12_init_33 : decode cX12_init 33 = .ok (.iastore, 1) := by decide +kernel
theorem dX12_init_34 : decode cX12_init 34 = .ok (.dup, 1) := by decide +kernel
theorem dX12_init_35 : decode cX12_init 35 = .ok (.iconst 3, 1) := by decide +kernel
theorem dX12_init_36 : decode cX12_init 36 = .ok (.bipush 101, 2) := by decide +kernel
theorem dX12_init_38 : decode cX12_init 38 = .ok (.iastore, 1) := by decide +kernel
theorem dX12_init_39 : decode cX12_init 39 = .ok (.dup, 1) := by decide +kernel
theorem dX12_init_40 : decode cX12_init 40 = .ok (.iconst 4, 1) := by decide +kernel
theorem dX12_init_41 : decode cX12_init 41 = .ok (.bipush 32, 2) := by decide +kernel
theorem dX12_init_43 : decode cX12_init 43 = .ok (.iastore, 1) := by decide +kernel
theorem dX12_init_44 : decode cX12_init 44 = .ok (.dup, 1) := by decide +kernel
theorem dX12_init_45 : decode cX12_init 45 = .ok (.iconst 5, 1) := by decide +kernel
theorem dX12_init_46 : decode cX12_init 46 = .ok (.bipush 109, 2) := by decide +kernel
theorem dX12_init_48 : decode cX12_init 48 = .ok (.iastore, 1) := by decide +kernel
theorem dX12_init_49 : decode cX12_init 49 = .ok (.dup, 1) := by decide +kernel
theorem dX12_init_50 : decode cX12_init 50 = .ok (.bipush 6, 2) := by decide +kernel
theorem dX12_init_52 : decode cX12_init 52 = .ok (.bipush 97, 2) := by decide +kernel
theorem dX12_init_54 : decode cX12_init 54 = .ok (.iastore, 1) := by decide +kernel
theorem dX12_init_55 : decode cX12_init 55 = .ok (.dup, 1) := by decide +kernel
theorem dX12_init_56 : decode cX12_init 56 = .ok (.bipush 7, 2) := by decide +kernel
theorem dX12_init_58 : decode cX12_init 58 = .ok (.bipush 110, 2) := by decide +kernel
theorem dX12_init_60 : decode cX12_init 60 = .ok (.iastore, 1) := by decide +kernel
theorem dX12_init_61 : decode cX12_init 61 = .ok (.dup, 1) := by decide +kernel
theorem dX12_init_62 : decode cX12_init 62 = .ok (.bipush 8, 2) := by decide +kernel
theorem dX12_init_64 : decode cX12_init 64 = .ok (.bipush 32, 2) := by decide +kernel
theorem dX12_init_66 : decode cX12_init 66 = .ok (.iastore, 1) := by decide +kernel
theorem dX12_init_67 : decode cX12_init 67 = .ok (.dup, 1) := by decide +kernel
theorem dX12_init_68 : decode cX12_init 68 = .ok (.bipush 9, 2) := by decide +kernel
theorem dX12_init_70 : decode cX12_init 70 = .ok (.bipush 104, 2) := by decide +kernel
theorem dX12_init_72 : decode cX12_init 72 = .ok (.iastore, 1) := by decide +kernel
theorem dX12_init_73 : decode cX12_init 73 = .ok (.dup, 1) := by decide +kernel
theorem dX12_init_74 : decode cX12_init 74 = .ok (.bipush 10, 2) := by decide +kernel
theorem dX12_init_76 : decode cX12_init 76 = .ok (.bipush 111, 2) := by decide +kernel
theorem dX12_init_78 : decode cX12_init 78 = .ok (.iastore, 1) := by decide +kernel
theorem dX12_init_79 : decode cX12_init 79 = .ok (.dup, 1) := by decide +kernel
theorem dX12_init_80 : decode cX12_init 80 = .ok (.bipush 11, 2) := by decide +kernel
theorem dX12_init_82 : decode cX12_init 82 = .ok (.bipush 108, 2) := by decide +kernel
theorem dX12_init_84 : decode cX12_init 84 = .ok (.iastore, 1) := by decide +kernel
theorem dX12_init_85 : decode cX12_init 85 = .ok (.dup, 1) := by decide +kernel
theorem dX12_init_86 : decode cX12_init 86 = .ok (.bipush 12, 2) := by decide +kernel
theorem dX12_init_88 : decode cX12_init 88 = .ok (.bipush 100, 2) := by decide +kernel
theorem dX12_init_90 : decode cX12_init 90 = .ok (.iastore, 1) := by decide +kernel
theorem dX12_init_91 : decode cX12_init 91 = .ok (.dup, 1) := by decide +kernel
theorem dX12_init_92 : decode cX12_init 92 = .ok (.bipush 13, 2) := by decide +kernel
theorem dX12_init_94 : decode cX12_init 94 = .ok (.bipush 32, 2) := by decide +kernel
theorem dX12_init_96 : decode cX12_init 96 = .ok (.iastore, 1) := by decide +kernel
theorem dX12_init_97 : decode cX12_init 97 = .ok (.dup, 1) := by decide +kernel
theorem dX12_init_98 : decode cX12_init 98 = .ok (.bipush 14, 2) := by decide +kernel
theorem dX12_init_100 : decode cX12_init 100 = .ok (.bipush 112, 2) := by decide +kernel
theorem dX12_init_102 : decode cX12_init 102 = .ok (.iastore, 1) := by decide +kernel
theorem dX12_init_103 : decode cX12_init 103 = .ok (.dup, 1) := by decide +kernel
theorem dX12_init_104 : decode cX12_init 104 = .ok (.bipush 15, 2) := by decide +kernel
theorem dX12_init_106 : decode cX12_init 106 = .ok (.bipush 108, 2) := by decide +kernel
theorem dX12_init_108 : decode cX12_init 108 = .ok (.iastore, 1) := by decide +kernel
theorem dX12_init_109 : decode cX12_init 109 = .ok (.dup, 1) := by decide +kernel
theorem dX12_init_110 : decode cX12_init 110 = .ok (.bipush 16, 2) := by decide +kernel
theorem dX12_init_112 : decode cX12_init 112 = .ok (.bipush 97, 2) := by decide +kernel
theorem dX12_init_114 : decode cX12_init 114 = .ok (.iastore, 1) := by decide +kernel
theorem dX12_init_115 : decode cX12_init 115 = .ok (.dup, 1) := by decide +kernel
theorem dX12_init_116 : decode cX12_init 116 = .ok (.bipush 17, 2) := by decide +kernel
theorem dX12_init_118 : decode cX12_init 118 = .ok (.bipush 110, 2) := by decide +kernel
theorem dX12_init_120 : decode cX12_init 120 = .ok (.iastore, 1) := by decide +kernel
theorem dX12_init_121 : decode cX12_init 121 = .ok (.dup, 1) := by decide +kernel
theorem dX12_init_122 : decode cX12_init 122 = .ok (.bipush 18, 2) := by decide +kernel
theorem dX12_init_124 : decode cX12_init 124 = .ok (.bipush 32, 2) := by decide +kernel
theorem dX12_init_126 : decode cX12_init 126 = .ok (.iastore, 1) := by decide +kernel
theorem dX12_init_127 : decode cX12_init 127 = .ok (.dup, 1) := by decide +kernel
theorem dX12_init_128 : decode cX12_init 128 = .ok (.bipush 19, 2) := by decide +kernel
theorem dX12_init_130 : decode cX12_init 130 = .ok (.bipush 106, 2) := by decide +kernel
theorem dX12_init_132 : decode cX12_init 132 = .ok (.iastore, 1) := by decide +kernel
theorem dX12_init_133 : decode cX12_init 133 = .ok (.dup, 1) := by decide +kernel
theorem dX12_init_134 : decode cX12_init 134 = .ok (.bipush 20, 2) := by decide +kernel
theorem dX12_init_136 : decode cX12_init 136 = .ok (.bipush 117, 2) := by decide +kernel
theorem dX12_init_138 : decode cX12_init 138 = .ok (.iastore, 1) := by decide +kernel
theorem dX12_init_139 : decode cX12_init 139 = .ok (.dup, 1) := by decide +kernel
theorem dX12_init_140 : decode cX12_init 140 = .ok (.bipush 21, 2) := by decide +kernel
theorem dX12_init_142 : decode cX12_init 142 = .ok (.bipush 100, 2) := by decide +kernel
theorem dX12_init_144 : decode cX12_init 144 = .ok (.iastore, 1) := by decide +kernel
theorem dX12_init_145 : decode cX12_init 145 = .ok (.dup, 1) := by decide +kernel
theorem dX12_init_146 : decode cX12_init 146 = .ok (.bipush 22, 2) := by decide +kernel
theorem dX12_init_148 : decode cX12_init 148 = .ok (.bipush 103, 2) := by decide +kernel
theorem dX12_init_150 : decode cX12_init 150 = .ok (.iastore, 1) := by decide +kernel
theorem dX12_init_151 : decode cX12_init 151 = .ok (.dup, 1) := by decide +kernel
theorem dX12_init_152 : decode cX12_init 152 = .ok (.bipush 23, 2) := by decide +kernel
theorem dX12_init_154 : decode cX12_init 154 = .ok (.bipush 101, 2) := by decide +kernel
theorem dX12_init_156 : decode cX12_init 156 = .ok (.iastore, 1) := by decide +kernel
theorem dX12_init_157 : decode cX12_init 157 = .ok (.dup, 1) := by decide +kernel
theorem dX12_init_158 : decode cX12_init 158 = .ok (.bipush 24, 2) := by decide +kernel
theorem dX12_init_160 : decode cX12_init 160 = .ok (.bipush 32, 2) := by decide +kernel
theorem dX12_init_162 : decode cX12_init 162 = .ok (.iastore, 1) := by decide +kernel
theorem dX12_init_163 : decode cX12_init 163 = .ok (.dup, 1) := by decide +kernel
theorem dX12_init_164 : decode cX12_init 164 = .ok (.bipush 25, 2) := by decide +kernel
theorem dX12_init_166 : decode cX12_init 166 = .ok (.bipush 108, 2) := by decide +kernel
theorem dX12_init_168 : decode cX12_init 168 = .ok (.iastore, 1) := by decide +kernel
theorem dX12_init_169 : decode cX12_init 169 = .ok (.dup, 1) := by decide +kernel
theorem dX12_init_170 : decode cX12_init 170 = .ok (.bipush 26, 2) := by decide +kernel
theorem dX12_init_172 : decode cX12_init 172 = .ok (.bipush 111, 2) := by decide +kernel
theorem dX12_init_174 : decode cX12_init 174 = .ok (.iastore, 1) := by decide +kernel
theorem dX12_init_175 : decode cX12_init 175 = .ok (.dup, 1) := by decide +kernel
theorem dX12_init_176 : decode cX12_init 176 = .ok (.bipush 27, 2) := by decide +kernel
theorem dX12_init_178 : decode cX12_init 178 = .ok (.bipush 97, 2) := by decide +kernel
theorem dX12_init_180 : decode cX12_init 180 = .ok (.iastore, 1) := by decide +kernel
theorem dX12_init_181 : decode cX12_init 181 = .ok (.dup, 1) := by decide +kernel
theorem dX12_init_182 : decode cX12_init 182 = .ok (.bipush 28, 2) := by decide +kernel
theorem dX12_init_184 : decode cX12_init 184 = .ok (.bipush 100, 2) := by decide +kernel
theorem dX12_init_186 : decode cX12_init 186 = .ok (.iastore, 1) := by decide +kernel
theorem dX12_init_187 : decode cX12_init 187 = .ok (.dup, 1) := by decide +kernel
theorem dX12_init_188 : decode cX12_init 188 = .ok (.bipush 29, 2) := by decide +kernel
theorem dX12_init_190 : decode cX12_init 190 = .ok (.bipush 32, 2) := by decide +kernel
theorem dX12_init_192 : decode cX12_init 192 = .ok (.iastore, 1) := by decide +kernel
theorem dX12_init_193 : decode cX12_init 193 = .ok (.dup, 1) := by decide +kernel
theorem dX12_init_194 : decode cX12_init 194 = .ok (.bipush 30, 2) := by decide +kernel
theorem dX12_init_196 : decode cX12_init 196 = .ok (.bipush 115, 2) := by decide +kernel
theorem dX12_init_198 : decode cX12_init 198 = .ok (.iastore, 1) := by decide +kernel
theorem dX12_init_199 : decode cX12_init 199 = .ok (.dup, 1) := by decide +kernel
theorem dX12_init_200 : decode cX12_init 200 = .ok (.bipush 31, 2) := by decide +kernel
theorem dX12_init_202 : decode cX12_init 202 = .ok (.bipush 101, 2) := by decide +kernel
theorem dX12_init_204 : decode cX12_init 204 = .ok (.iastore, 1) := by decide +kernel
theorem dX12_init_205 : decode cX12_init 205 = .ok (.dup, 1) := by decide +kernel
theorem dX12_init_206 : decode cX12_init 206 = .ok (.bipush 32, 2) := by decide +kernel
theorem dX12_init_208 : decode cX12_init 208 = .ok (.bipush 101, 2) := by decide +kernel
theorem dX12_init_210 : decode cX12_init 210 = .ok (.iastore, 1) := by decide +kernel
theorem dX12_init_211 : decode cX12_init 211 = .ok (.dup, 1) := by decide +kernel
theorem dX12_init_212 : decode cX12_init 212 = .ok (.bipush 33, 2) := by decide +kernel
theorem dX12_init_214 : decode cX12_init 214 = .ok (.bipush 100, 2) := by decide +kernel
theorem dX12_init_216 : decode cX12_init 216 = .ok (.iastore, 1) := by decide +kernel
theorem dX12_init_217 : decode cX12_init 217 = .ok (.dup, 1) := by decide +kernel
theorem dX12_init_218 : decode cX12_init 218 = .ok (.bipush 34, 2) := by decide +kernel
theorem dX12_init_220 : decode cX12_init 220 = .ok (.bipush 32, 2) := by decide +kernel
theorem dX12_init_222 : decode cX12_init 222 = .ok (.iastore, 1) := by decide +kernel
theorem dX12_init_223 : decode cX12_init 223 = .ok (.dup, 1) := by decide +kernel
theorem dX12_init_224 : decode cX12_init 224 = .ok (.bipush 35, 2) := by decide +kernel
theorem dX12_init_226 : decode cX12_init 226 = .ok (.bipush 108, 2) := by decide +kernel
theorem dX12_init_228 : decode cX12_init 228 = .ok (.iastore, 1) := by decide +kernel
theorem dX12_init_229 : decode cX12_init 229 = .ok (.dup, 1) := by decide +kernel
theorem dX12_init_230 : decode cX12_init 230 = .ok (.bipush 36, 2) := by decide +kernel
theorem dX12_init_232 : decode cX12_init 232 = .ok (.bipush 97, 2) := by decide +kernel
theorem dX12_init_234 : decode cX12_init 234 = .ok (.iastore, 1) := by decide +kernel
theorem dX12_init_235 : decode cX12_init 235 = .ok (.dup, 1) := by decide +kernel
theorem dX12_init_236 : decode cX12_init 236 = .ok (.bipush 37, 2) := by decide +kernel
theorem dX12_init_238 : decode cX12_init 238 = .ok (.bipush 119, 2) := by decide +kernel
theorem dX12_init_240 : decode cX12_init 240 = .ok (.iastore, 1) := by decide +kernel
theorem dX12_init_241 : decode cX12_init 241 = .ok (.dup, 1) := by decide +kernel
theorem dX12_init_242 : decode cX12_init 242 = .ok (.bipush 38, 2) := by decide +kernel
theorem dX12_init_244 : decode cX12_init 244 = .ok (.bipush 32, 2) := by decide +kernel
theorem dX12_init_246 : decode cX12_init 246 = .ok (.iastore, 1) := by decide +kernel
theorem dX12_init_247 : decode cX12_init 247 = .ok (.dup, 1) := by decide +kernel
theorem dX12_init_248 : decode cX12_init 248 = .ok (.bipush 39, 2) := by decide +kernel
theorem dX12_init_250 : decode cX12_init 250 = .ok (.bipush 98, 2) := by decide +kernel
theorem dX12_init_252 : decode cX12_init 252 = .ok (.iastore, 1) := by decide +kernel
theorem dX12_init_253 : decode cX12_init 253 = .ok (.dup, 1) := by decide +kernel
theorem dX12_init_254 : decode cX12_init 254 = .ok (.bipush 40, 2) := by decide +kernel
theorem dX12_init_256 : decode cX12_init 256 = .ok (.bipush 101, 2) := by decide +kernel
theorem dX12_init_258 : decode cX12_init 258 = .ok (.iastore, 1) := by decide +kernel
theorem dX12_init_259 : decode cX12_init 259 = .ok (.dup, 1) := by decide +kernel
theorem dX12_init_260 : decode cX12_init 260 = .ok (.bipush 41, 2) := by decide +kernel
theorem dX12_init_262 : decode cX12_init 262 = .ok (.bipush 110, 2) := by decide +kernel
theorem dX12_init_264 : decode cX12_init 264 = .ok (.iastore, 1) := by decide +kernel
theorem dX12_init_265 : decode cX12_init 265 = .ok (.dup, 1) := by decide +kernel
theorem dX12_init_266 : decode cX12_init 266 = .ok (.bipush 42, 2) := by decide +kernel
theorem dX12_init_268 : decode cX12_init 268 = .ok (.bipush 100, 2) := by decide +kernel
theorem dX12_init_270 : decode cX12_init 270 = .ok (.iastore, 1) := by decide +kernel
theorem dX12_init_271 : decode cX12_init 271 = .ok (.dup, 1) := by decide +kernel
theorem dX12_init_272 : decode cX12_init 272 = .ok (.bipush 43, 2) := by decide +kernel
theorem dX12_init_274 : decode cX12_init 274 = .ok (.bipush 32, 2) := by decide +kernel
theorem dX12_init_276 : decode cX12_init 276 = .ok (.iastore, 1) := by decide +kernel
theorem dX12_init_277 : decode cX12_init 277 = .ok (.dup, 1) := by decide +kernel
theorem dX12_init_278 : decode cX12_init 278 = .ok (.bipush 44, 2) := by decide +kernel
theorem dX12_init_280 : decode cX12_init 280 = .ok (.bipush 119, 2) := by decide +kernel
theorem dX12_init_282 : decode cX12_init 282 = .ok (.iastore, 1) := by decide +kernel
theorem dX12_init_283 : decode cX12_init 283 = .ok (.dup, 1) := by decide +kernel
theorem dX12_init_284 : decode cX12_init 284 = .ok (.bipush 45, 2) := by decide +kernel
theorem dX12_init_286 : decode cX12_init 286 = .ok (.bipush 101, 2) := by decide +kernel
theorem dX12_init_288 : decode cX12_init 288 = .ok (.iastore, 1) := by decide +kernel
theorem dX12_init_289 : decode cX12_init 289 = .ok (.dup, 1) := by decide +kernel
theorem dX12_init_290 : decode cX12_init 290 = .ok (.bipush 46, 2) := by decide +kernel
theorem dX12_init_292 : decode cX12_init 292 = .ok (.bipush 116, 2) := by decide +kernel
theorem dX12_init_294 : decode cX12_init 294 = .ok (.iastore, 1) := by decide +kernel
theorem dX12_init_295 : decode cX12_init 295 = .ok (.dup, 1) := by decide +kernel
theorem dX12_init_296 : decode cX12_init 296 = .ok (.bipush 47, 2) := by decide +kernel
theorem dX12_init_298 : decode cX12_init 298 = .ok (.bipush 32, 2) := by decide +kernel
theorem dX12_init_300 : decode cX12_init 300 = .ok (.iastore, 1) := by decide +kernel
theorem dX12_init_301 : decode cX12_init 301 = .ok (.dup, 1) := by decide +kernel
theorem dX12_init_302 : decode cX12_init 302 = .ok (.bipush 48, 2) := by decide +kernel
theorem dX12_init_304 : decode cX12_init 304 = .ok (.bipush 116, 2) := by decide +kernel
theorem dX12_init_306 : decode cX12_init 306 = .ok (.iastore, 1) := by decide +kernel
theorem dX12_init_307 : decode cX12_init 307 = .ok (.dup, 1) := by decide +kernel
theorem dX12_init_308 : decode cX12_init 308 = .ok (.bipush 49, 2) := by decide +kernel
theorem dX12_init_310 : decode cX12_init 310 = .ok (.bipush 105, 2) := by decide +kernel
theorem dX12_init_312 : decode cX12_init 312 = .ok (.iastore, 1) := by decide +kernel
theorem dX12_init_313 : decode cX12_init 313 = .ok (.dup, 1) := by decide +kernel
theorem dX12_init_314 : decode cX12_init 314 = .ok (.bipush 50, 2) := by decide +kernel
theorem dX12_init_316 : decode cX12_init 316 = .ok (.bipush 109, 2) := by decide +kernel
theorem dX12_init_318 : decode cX12_init 318 = .ok (.iastore, 1) := by decide +kernel
theorem dX12_init_319 : decode cX12_init 319 = .ok (.dup, 1) := by decide +kernel
theorem dX12_init_320 : decode cX12_init 320 = .ok (.bipush 51, 2) := by decide +kernel
theorem dX12_init_322 : decode cX12_init 322 = .ok (.bipush 101, 2) := by decide +kernel
theorem dX12_init_324 : decode cX12_init 324 = .ok (.iastore, 1) := by decide +kernel
theorem dX12_init_325 : decode cX12_init 325 = .ok (.dup, 1) := by decide +kernel
theorem dX12_init_326 : decode cX12_init 326 = .ok (.bipush 52, 2) := by decide +kernel
theorem dX12_init_328 : decode cX12_init 328 = .ok (.bipush 32, 2) := by decide +kernel
theorem dX12_init_330 : decode cX12_init 330 = .ok (.iastore, 1) := by decide +kernel
theorem dX12_init_331 : decode cX12_init 331 = .ok (.dup, 1) := by decide +kernel
theorem dX12_init_332 : decode cX12_init 332 = .ok (.bipush 53, 2) := by decide +kernel
theorem dX12_init_334 : decode cX12_init 334 = .ok (.bipush 99, 2) := by decide +kernel
theorem dX12_init_336 : decode cX12_init 336 = .ok (.iastore, 1) := by decide +kernel
theorem dX12_init_337 : decode cX12_init 337 = .ok (.dup, 1) := by decide +kernel
theorem dX12_init_338 : decode cX12_init 338 = .ok (.bipush 54, 2) := by decide +kernel
theorem dX12_init_340 : decode cX12_init 340 = .ok (.bipush 111, 2) := by decide +kernel
theorem dX12_init_342 : decode cX12_init 342 = .ok (.iastore, 1) := by decide +kernel
theorem dX12_init_343 : decode cX12_init 343 = .ok (.dup, 1) := by decide +kernel
theorem dX12_init_344 : decode cX12_init 344 = .ok (.bipush 55, 2) := by decide +kernel
theorem dX12_init_346 : decode cX12_init 346 = .ok (.bipush 115, 2) := by decide +kernel
theorem dX12_init_348 : decode cX12_init 348 = .ok (.iastore, 1) := by decide +kernel
theorem dX12_init_349 : decode cX12_init 349 = .ok (.dup, 1) := by decide +kernel
theorem dX12_init_350 : decode cX12_init 350 = .ok (.bipush 56, 2) := by decide +kernel
theorem dX12_init_352 : decode cX12_init 352 = .ok (.bipush 116, 2) := by decide +kernel
theorem dX12_init_354 : decode cX12_init 354 = .ok (.iastore, 1) := by decide +kernel
theorem dX12_init_355 : decode cX12_init 355 = .ok (.dup, 1) := by decide +kernel
theorem dX12_init_356 : decode cX12_init 356 = .ok (.bipush 57, 2) := by decide +kernel
theorem dX12_init_358 : decode cX12_init 358 = .ok (.bipush 32, 2) := by decide +kernel
theorem dX12_init_360 : decode cX12_init 360 = .ok (.iastore, 1) := by decide +kernel
theorem dX12_init_361 : decode cX12_init 361 = .ok (.dup, 1) := by decide +kernel
theorem dX12_init_362 : decode cX12_init 362 = .ok (.bipush 58, 2) := by decide +kernel
theorem dX12_init_364 : decode cX12_init 364 = .ok (.bipush 97, 2) := by decide +kernel
theorem dX12_init_366 : decode cX12_init 366 = .ok (.iastore, 1) := by decide +kernel
theorem dX12_init_367 : decode cX12_init 367 = .ok (.dup, 1) := by decide +kernel
theorem dX12_init_368 : decode cX12_init 368 = .ok (.bipush 59, 2) := by decide +kernel
theorem dX12_init_370 : decode cX12_init 370 = .ok (.bipush 99, 2) := by decide +kernel
theorem dX12_init_372 : decode cX12_init 372 = .ok (.iastore, 1) := by decide +kernel
theorem dX12_init_373 : decode cX12_init 373 = .ok (.dup, 1) := by decide +kernel
theorem dX12_init_374 : decode cX12_init 374 = .ok (.bipush 60, 2) := by decide +kernel
theorem dX12_init_376 : decode cX12_init 376 = .ok (.bipush 104, 2) := by decide +kernel
theorem dX12_init_378 : decode cX12_init 378 = .ok (.iastore, 1) := by decide +kernel
theorem dX12_init_379 : decode cX12_init 379 = .ok (.dup, 1) := by decide +kernel
theorem dX12_init_380 : decode cX12_init 380 = .ok (.bipush 61, 2) := by decide +kernel
theorem dX12_init_382 : decode cX12_init 382 = .ok (.bipush 101, 2) := by decide +kernel
theorem dX12_init_384 : decode cX12_init 384 = .ok (.iastore, 1) := by decide +kernel
theorem dX12_init_385 : decode cX12_init 385 = .ok (.dup, 1) := by decide +kernel
theorem dX12_init_386 : decode cX12_init 386 = .ok (.bipush 62, 2) := by decide +kernel
theorem dX12_init_388 : decode cX12_init 388 = .ok (.bipush 32, 2) := by decide +kernel
theorem dX12_init_390 : decode cX12_init 390 = .ok (.iastore, 1) := by decide +kernel
theorem dX12_init_391 : decode cX12_init 391 = .ok (.dup, 1) := by decide +kernel
theorem dX12_init_392 : decode cX12_init 392 = .ok (.bipush 63, 2) := by decide +kernel
theorem dX12_init_394 : decode cX12_init 394 = .ok (.bipush 103, 2) := by decide +kernel
theorem dX12_init_396 : decode cX12_init 396 = .ok (.iastore, 1) := by decide +kernel
theorem dX12_init_397 : decode cX12_init 397 = .ok (.dup, 1) := by decide +kernel
theorem dX12_init_398 : decode cX12_init 398 = .ok (.bipush 64, 2) := by decide +kernel
theorem dX12_init_400 : decode cX12_init 400 = .ok (.bipush 97, 2) := by decide +kernel
theorem dX12_init_402 : decode cX12_init 402 = .ok (.iastore, 1) := by decide +kernel
theorem dX12_init_403 : decode cX12_init 403 = .ok (.dup, 1) := by decide +kernel
theorem dX12_init_404 : decode cX12_init 404 = .ok (.bipush 65, 2) := by decide +kernel
theorem dX12_init_406 : decode cX12_init 406 = .ok (.bipush 105, 2) := by decide +kernel
theorem dX12_init_408 : decode cX12_init 408 = .ok (.iastore, 1) := by decide +kernel
theorem dX12_init_409 : decode cX12_init 409 = .ok (.dup, 1) := by decide +kernel
theorem dX12_init_410 : decode cX12_init 410 = .ok (.bipush 66, 2) := by decide +kernel
theorem dX12_init_412 : decode cX12_init 412 = .ok (.bipush 110, 2) := by decide +kernel
theorem dX12_init_414 : decode cX12_init 414 = .ok (.iastore, 1) := by decide +kernel
theorem dX12_init_415 : decode cX12_init 415 = .ok (.dup, 1) := by decide +kernel
theorem dX12_init_416 : decode cX12_init 416 = .ok (.bipush 67, 2) := by decide +kernel
theorem dX12_init_418 : decode cX12_init 418 = .ok (.bipush 32, 2) := by decide +kernel
theorem dX12_init_420 : decode cX12_init 420 = .ok (.iastore, 1) := by decide +kernel
theorem dX12_init_421 : decode cX12_init 421 = .ok (.dup, 1) := by decide +kernel
theorem dX12_init_422 : decode cX12_init 422 = .ok (.bipush 68, 2) := by decide +kernel
theorem dX12_init_424 : decode cX12_init 424 = .ok (.bipush 116, 2) := by decide +kernel
theorem dX12_init_426 : decode cX12_init 426 = .ok (.iastore, 1) := by decide +kernel
theorem dX12_init_427 : decode cX12_init 427 = .ok (.dup, 1) := by decide +kernel
theorem dX12_init_428 : decode cX12_init 428 = .ok (.bipush 69, 2) := by decide +kernel
theorem dX12_init_430 : decode cX12_init 430 = .ok (.bipush 105, 2) := by decide +kernel
theorem dX12_init_432 : decode cX12_init 432 = .ok (.iastore, 1) := by decide +kernel
theorem dX12_init_433 : decode cX12_init 433 = .ok (.dup, 1) := by decide +kernel
theorem dX12_init_434 : decode cX12_init 434 = .ok (.bipush 70, 2) := by decide +kernel
theorem dX12_init_436 : decode cX12_init 436 = .ok (.bipush 114, 2) := by decide +kernel
theorem dX12_init_438 : decode cX12_init 438 = .ok (.iastore, 1) := by decide +kernel
theorem dX12_init_439 : decode cX12_init 439 = .ok (.dup, 1) := by decide +kernel
theorem dX12_init_440 : decode cX12_init 440 = .ok (.bipush 71, 2) := by decide +kernel
theorem dX12_init_442 : decode cX12_init 442 = .ok (.bipush 101, 2) := by decide +kernel
theorem dX12_init_444 : decode cX12_init 444 = .ok (.iastore, 1) := by decide +kernel
theorem dX12_init_445 : decode cX12_init 445 = .ok (.dup, 1) := by decide +kernel
theorem dX12_init_446 : decode cX12_init 446 = .ok (.bipush 72, 2) := by decide +kernel
theorem dX12_init_448 : decode cX12_init 448 = .ok (.bipush 32, 2) := by decide +kernel
theorem dX12_init_450 : decode cX12_init 450 = .ok (.iastore, 1) := by decide +kernel
theorem dX12_init_451 : decode cX12_init 451 = .ok (.dup, 1) := by decide +kernel
theorem dX12_init_452 : decode cX12_init 452 = .ok (.bipush 73, 2) := by decide +kernel
theorem dX12_init_454 : decode cX12_init 454 = .ok (.bipush 104, 2) := by decide +kernel
theorem dX12_init_456 : decode cX12_init 456 = .ok (.iastore, 1) := by decide +kernel
theorem dX12_init_457 : decode cX12_init 457 = .ok (.dup, 1) := by decide +kernel
theorem dX12_init_458 : decode cX12_init 458 = .ok (.bipush 74, 2) := by decide +kernel
theorem dX12_init_460 : decode cX12_init 460 = .ok (.bipush 97, 2) := by decide +kernel
theorem dX12_init_462 : decode cX12_init 462 = .ok (.iastore, 1) := by decide +kernel
theorem dX12_init_463 : decode cX12_init 463 = .ok (.dup, 1) := by decide +kernel
theorem dX12_init_464 : decode cX12_init 464 = .ok (.bipush 75, 2) := by decide +kernel
theorem dX12_init_466 : decode cX12_init 466 = .ok (.bipush 114, 2) := by decide +kernel
theorem dX12_init_468 : decode cX12_init 468 = .ok (.iastore, 1) := by decide +kernel
theorem dX12_init_469 : decode cX12_init 469 = .ok (.dup, 1) := by decide +kernel
theorem dX12_init_470 : decode cX12_init 470 = .ok (.bipush 76, 2) := by decide +kernel
theorem dX12_init_472 : decode cX12_init 472 = .ok (.bipush 109, 2) := by decide +kernel
theorem dX12_init_474 : decode cX12_init 474 = .ok (.iastore, 1) := by decide +kernel
theorem dX12_init_475 : decode cX12_init 475 = .ok (.dup, 1) := by decide +kernel
theorem dX12_init_476 : decode cX12_init 476 = .ok (.bipush 77, 2) := by decide +kernel
theorem dX12_init_478 : decode cX12_init 478 = .ok (.bipush 32, 2) := by decide +kernel
theorem dX12_init_480 : decode cX12_init 480 = .ok (.iastore, 1) := by decide +kernel
theorem dX12_init_481 : decode cX12_init 481 = .ok (.dup, 1) := by decide +kernel
theorem dX12_init_482 : decode cX12_init 482 = .ok (.bipush 78, 2) := by decide +kernel
theorem dX12_init_484 : decode cX12_init 484 = .ok (.bipush 106, 2) := by decide +kernel
theorem dX12_init_486 : decode cX12_init 486 = .ok (.iastore, 1) := by decide +kernel
theorem dX12_init_487 : decode cX12_init 487 = .ok (.dup, 1) := by decide +kernel
theorem dX12_init_488 : decode cX12_init 488 = .ok (.bipush 79, 2) := by decide +kernel
theorem dX12_init_490 : decode cX12_init 490 = .ok (.bipush 97, 2) := by decide +kernel
theorem dX12_init_492 : decode cX12_init 492 = .ok (.iastore, 1) := by decide +kernel
theorem dX12_init_493 : decode cX12_init 493 = .ok (.dup, 1) := by decide +kernel
theorem dX12_init_494 : decode cX12_init 494 = .ok (.bipush 80, 2) := by decide +kernel
theorem dX12_init_496 : decode cX12_init 496 = .ok (.bipush 109, 2) := by decide +kernel
theorem dX12_init_498 : decode cX12_init 498 = .ok (.iastore, 1) := by decide +kernel
theorem dX12_init_499 : decode cX12_init 499 = .ok (.dup, 1) := by decide +kernel
theorem dX12_init_500 : decode cX12_init 500 = .ok (.bipush 81, 2) := by decide +kernel
theorem dX12_init_502 : decode cX12_init 502 = .ok (.bipush 32, 2) := by decide +kernel
theorem dX12_init_504 : decode cX12_init 504 = .ok (.iastore, 1) := by decide +kernel
theorem dX12_init_505 : decode cX12_init 505 = .ok (.dup, 1) := by decide +kernel
theorem dX12_init_506 : decode cX12_init 506 = .ok (.bipush 82, 2) := by decide +kernel
theorem dX12_init_508 : decode cX12_init 508 = .ok (.bipush 119, 2) := by decide +kernel
theorem dX12_init_510 : decode cX12_init 510 = .ok (.iastore, 1) := by decide +kernel
theorem dX12_init_511 : decode cX12_init 511 = .ok (.dup, 1) := by decide +kernel
theorem dX12_init_512 : decode cX12_init 512 = .ok (.bipush 83, 2) := by decide +kernel
theorem dX12_init_514 : decode cX12_init 514 = .ok (.bipush 105, 2) := by decide +kernel
theorem dX12_init_516 : decode cX12_init 516 = .ok (.iastore, 1) := by decide +kernel
theorem dX12_init_517 : decode cX12_init 517 = .ok (.dup, 1) := by decide +kernel
theorem dX12_init_518 : decode cX12_init 518 = .ok (.bipush 84, 2) := by decide +kernel
theorem dX12_init_520 : decode cX12_init 520 = .ok (.bipush 100, 2) := by decide +kernel
theorem dX12_init_522 : decode cX12_init 522 = .ok (.iastore, 1) := by decide +kernel
theorem dX12_init_523 : decode cX12_init 523 = .ok (.dup, 1) := by decide +kernel
theorem dX12_init_524 : decode cX12_init 524 = .ok (.bipush 85, 2) := by decide +kernel
theorem dX12_init_526 : decode cX12_init 526 = .ok (.bipush 101, 2) := by decide +kernel
theorem dX12_init_528 : decode cX12_init 528 = .ok (.iastore, 1) := by decide +kernel
theorem dX12_init_529 : decode cX12_init 529 = .ok (.dup, 1) := by decide +kernel
theorem dX12_init_530 : decode cX12_init 530 = .ok (.bipush 86, 2) := by decide +kernel
theorem dX12_init_532 : decode cX12_init 532 = .ok (.bipush 32, 2) := by decide +kernel
theorem dX12_init_534 : decode cX12_init 534 = .ok (.iastore, 1) := by decide +kernel
theorem dX12_init_535 : decode cX12_init 535 = .ok (.dup, 1) := by decide +kernel
theorem dX12_init_536 : decode cX12_init 536 = .ok (.bipush 87, 2) := by decide +kernel
theorem dX12_init_538 : decode cX12_init 538 = .ok (.bipush 97, 2) := by decide +kernel
theorem dX12_init_540 : decode cX12_init 540 = .ok (.iastore, 1) := by decide +kernel
theorem dX12_init_541 : decode cX12_init 541 = .ok (.dup, 1) := by decide +kernel
theorem dX12_init_542 : decode cX12_init 542 = .ok (.bipush 88, 2) := by decide +kernel
theorem dX12_init_544 : decode cX12_init 544 = .ok (.bipush 110, 2) := by decide +kernel
theorem dX12_init_546 : decode cX12_init 546 = .ok (.iastore, 1) := by decide +kernel
theorem dX12_init_547 : decode cX12_init 547 = .ok (.dup, 1) := by decide +kernel
theorem dX12_init_548 : decode cX12_init 548 = .ok (.bipush 89, 2) := by decide +kernel
theorem dX12_init_550 : decode cX12_init 550 = .ok (.bipush 100, 2) := by decide +kernel
theorem dX12_init_552 : decode cX12_init 552 = .ok (.iastore, 1) := by decide +kernel
theorem dX12_init_553 : decode cX12_init 553 = .ok (.dup, 1) := by decide +kernel
theorem dX12_init_554 : decode cX12_init 554 = .ok (.bipush 90, 2) := by decide +kernel
theorem dX12_init_556 : decode cX12_init 556 = .ok (.bipush 32, 2) := by decide +kernel
theorem dX12_init_558 : decode cX12_init 558 = .ok (.iastore, 1) := by decide +kernel
theorem dX12_init_559 : decode cX12_init 559 = .ok (.dup, 1) := by decide +kernel
theorem dX12_init_560 : decode cX12_init 560 = .ok (.bipush 91, 2) := by decide +kernel
theorem dX12_init_562 : decode cX12_init 562 = .ok (.bipush 111, 2) := by decide +kernel
theorem dX12_init_564 : decode cX12_init 564 = .ok (.iastore, 1) := by decide +kernel
theorem dX12_init_565 : decode cX12_init 565 = .ok (.dup, 1) := by decide +kernel
theorem dX12_init_566 : decode cX12_init 566 = .ok (.bipush 92, 2) := by decide +kernel
theorem dX12_init_568 : decode cX12_init 568 = .ok (.bipush 114, 2) := by decide +kernel
theorem dX12_init_570 : decode cX12_init 570 = .ok (.iastore, 1) := by decide +kernel
theorem dX12_init_571 : decode cX12_init 571 = .ok (.dup, 1) := by decide +kernel
theorem dX12_init_572 : decode cX12_init 572 = .ok (.bipush 93, 2) := by decide +kernel
theorem dX12_init_574 : decode cX12_init 574 = .ok (.bipush 32, 2) := by decide +kernel
theorem dX12_init_576 : decode cX12_init 576 = .ok (.iastore, 1) := by decide +kernel
theorem dX12_init_577 : decode cX12_init 577 = .ok (.dup, 1) := by decide +kernel
theorem dX12_init_578 : decode cX12_init 578 = .ok (.bipush 94, 2) := by decide +kernel
theorem dX12_init_580 : decode cX12_init 580 = .ok (.bipush 110, 2) := by decide +kernel
theorem dX12_init_582 : decode cX12_init 582 = .ok (.iastore, 1) := by decide +kernel
theorem dX12_init_583 : decode cX12_init 583 = .ok (.dup, 1) := by decide +kernel
theorem dX12_init_584 : decode cX12_init 584 = .ok (.bipush 95, 2) := by decide +kernel
theorem dX12_init_586 : decode cX12_init 586 = .ok (.bipush 111, 2) := by decide +kernel
theorem dX12_init_588 : decode cX12_init 588 = .ok (.iastore, 1) := by decide +kernel
theorem dX12_init_589 : decode cX12_init 589 = .ok (.dup, 1) := by decide +kernel
theorem dX12_init_590 : decode cX12_init 590 = .ok (.bipush 96, 2) := by decide +kernel
theorem dX12_init_592 : decode cX12_init 592 = .ok (.bipush 116, 2) := by decide +kernel
theorem dX12_init_594 : decode cX12_init 594 = .ok (.iastore, 1) := by decide +kernel
theorem dX12_init_595 : decode cX12_init 595 = .ok (.dup, 1) := by decide +kernel
theorem dX12_init_596 : decode cX12_init 596 = .ok (.bipush 97, 2) := by decide +kernel
theorem dX12_init_598 : decode cX12_init 598 = .ok (.bipush 32, 2) := by decide +kernel
theorem dX12_init_600 : decode cX12_init 600 = .ok (.iastore, 1) := by decide +kernel
theorem dX12_init_601 : decode cX12_init 601 = .ok (.dup, 1) := by decide +kernel
theorem dX12_init_602 : decode cX12_init 602 = .ok (.bipush 98, 2) := by decide +kernel
theorem dX12_init_604 : decode cX12_init 604 = .ok (.bipush 112, 2) := by decide +kernel
theorem dX12_init_606 : decode cX12_init 606 = .ok (.iastore, 1) := by decide +kernel
theorem dX12_init_607 : decode cX12_init 607 = .ok (.dup, 1) := by decide +kernel
theorem dX12_init_608 : decode cX12_init 608 = .ok (.bipush 99, 2) := by decide +kernel
theorem dX12_init_610 : decode cX12_init 610 = .ok (.bipush 97, 2) := by decide +kernel
theorem dX12_init_612 : decode cX12_init 612 = .ok (.iastore, 1) := by decide +kernel
theorem dX12_init_613 : decode cX12_init 613 = .ok (.dup, 1) := by decide +kernel
theorem dX12_init_614 : decode cX12_init 614 = .ok (.bipush 100, 2) := by decide +kernel
theorem dX12_init_616 : decode cX12_init 616 = .ok (.bipush 99, 2) := by decide +kernel
theorem dX12_init_618 : decode cX12_init 618 = .ok (.iastore, 1) := by decide +kernel
theorem dX12_init_619 : decode cX12_init 619 = .ok (.dup, 1) := by decide +kernel
theorem dX12_init_620 : decode cX12_init 620 = .ok (.bipush 101, 2) := by decide +kernel
theorem dX12_init_622 : decode cX12_init 622 = .ok (.bipush 101, 2) := by decide +kernel
theorem dX12_init_624 : decode cX12_init 624 = .ok (.iastore, 1) := by decide +kernel
theorem dX12_init_625 : decode cX12_init 625 = .ok (.dup, 1) := by decide +kernel
theorem dX12_init_626 : decode cX12_init 626 = .ok (.bipush 102, 2) := by decide +kernel
theorem dX12_init_628 : decode cX12_init 628 = .ok (.bipush 32, 2) := by decide +kernel
theorem dX12_init_630 : decode cX12_init 630 = .ok (.iastore, 1) := by decide +kernel
theorem dX12_init_631 : decode cX12_init 631 = .ok (.dup, 1) := by decide +kernel
theorem dX12_init_632 : decode cX12_init 632 = .ok (.bipush 103, 2) := by decide +kernel
theorem dX12_init_634 : decode cX12_init 634 = .ok (.bipush 115, 2) := by decide +kernel
theorem dX12_init_636 : decode cX12_init 636 = .ok (.iastore, 1) := by decide +kernel
theorem dX12_init_637 : decode cX12_init 637 = .ok (.dup, 1) := by decide +kernel
theorem dX12_init_638 : decode cX12_init 638 = .ok (.bipush 104, 2) := by decide +kernel
theorem dX12_init_640 : decode cX12_init 640 = .ok (.bipush 108, 2) := by decide +kernel
theorem dX12_init_642 : decode cX12_init 642 = .ok (.iastore, 1) := by decide +kernel
theorem dX12_init_643 : decode cX12_init 643 = .ok (.dup, 1) := by decide +kernel
theorem dX12_init_644 : decode cX12_init 644 = .ok (.bipush 105, 2) := by decide +kernel
theorem dX12_init_646 : decode cX12_init 646 = .ok (.bipush 111, 2) := by decide +kernel
theorem dX12_init_648 : decode cX12_init 648 = .ok (.iastore, 1) := by decide +kernel
theorem dX12_init_649 : decode cX12_init 649 = .ok (.dup, 1) := by decide +kernel
theorem dX12_init_650 : decode cX12_init 650 = .ok (.bipush 106, 2) := by decide +kernel
theorem dX12_init_652 : decode cX12_init 652 = .ok (.bipush 112, 2) := by decide +kernel
theorem dX12_init_654 : decode cX12_init 654 = .ok (.iastore, 1) := by decide +kernel
theorem dX12_init_655 : decode cX12_init 655 = .ok (.dup, 1) := by decide +kernel
theorem dX12_init_656 : decode cX12_init 656 = .ok (.bipush 107, 2) := by decide +kernel
theorem dX12_init_658 : decode cX12_init 658 = .ok (.bipush 101, 2) := by decide +kernel
theorem dX12_init_660 : decode cX12_init 660 = .ok (.iastore, 1) := by decide +kernel
theorem dX12_init_661 : decode cX12_init 661 = .ok (.dup, 1) := by decide +kernel
theorem dX12_init_662 : decode cX12_init 662 = .ok (.bipush 108, 2) := by decide +kernel
theorem dX12_init_664 : decode cX12_init 664 = .ok (.bipush 32, 2) := by decide +kernel
theorem dX12_init_666 : decode cX12_init 666 = .ok (.iastore, 1) := by decide +kernel
theorem dX12_init_667 : decode cX12_init 667 = .ok (.dup, 1) := by decide +kernel
theorem dX12_init_668 : decode cX12_init 668 = .ok (.bipush 109, 2) := by decide +kernel
theorem dX12_init_670 : decode cX12_init 670 = .ok (.bipush 104, 2) := by decide +kernel
theorem dX12_init_672 : decode cX12_init 672 = .ok (.iastore, 1) := by decide +kernel
theorem dX12_init_673 : decode cX12_init 673 = .ok (.dup, 1) := by decide +kernel
theorem dX12_init_674 : decode cX12_init 674 = .ok (.bipush 110, 2) := by decide +kernel
theorem dX12_init_676 : decode cX12_init 676 = .ok (.bipush 101, 2) := by decide +kernel
theorem dX12_init_678 : decode cX12_init 678 = .ok (.iastore, 1) := by decide +kernel
theorem dX12_init_679 : decode cX12_init 679 = .ok (.dup, 1) := by decide +kernel
theorem dX12_init_680 : decode cX12_init 680 = .ok (.bipush 111, 2) := by decide +kernel
theorem dX12_init_682 : decode cX12_init 682 = .ok (.bipush 97, 2) := by decide +kernel
theorem dX12_init_684 : decode cX12_init 684 = .ok (.iastore, 1) := by decide +kernel
theorem dX12_init_685 : decode cX12_init 685 = .ok (.dup, 1) := by decide +kernel
theorem dX12_init_686 : decode cX12_init 686 = .ok (.bipush 112, 2) := by decide +kernel
theorem dX12_init_688 : decode cX12_init 688 = .ok (.bipush 118, 2) := by decide +kernel
theorem dX12_init_690 : decode cX12_init 690 = .ok (.iastore, 1) := by decide +kernel
theorem dX12_init_691 : decode cX12_init 691 = .ok (.dup, 1) := by decide +kernel
theorem dX12_init_692 : decode cX12_init 692 = .ok (.bipush 113, 2) := by decide +kernel
theorem dX12_init_694 : decode cX12_init 694 = .ok (.bipush 121, 2) := by decide +kernel
theorem dX12_init_696 : decode cX12_init 696 = .ok (.iastore, 1) := by decide +kernel
theorem dX12_init_697 : decode cX12_init 697 = .ok (.dup, 1) := by decide +kernel
theorem dX12_init_698 : decode cX12_init 698 = .ok (.bipush 114, 2) := by decide +kernel
theorem dX12_init_700 : decode cX12_init 700 = .ok (.bipush 32, 2) := by decide +kernel
theorem dX12_init_702 : decode cX12_init 702 = .ok (.iastore, 1) := by decide +kernel
theorem dX12_init_703 : decode cX12_init 703 = .ok (.dup, 1) := by decide +kernel
theorem dX12_init_704 : decode cX12_init 704 = .ok (.bipush 115, 2) := by decide +kernel
theorem dX12_init_706 : decode cX12_init 706 = .ok (.bipush 119, 2) := by decide +kernel
theorem dX12_init_708 : decode cX12_init 708 = .ok (.iastore, 1) := by decide +kernel
theorem dX12_init_709 : decode cX12_init 709 = .ok (.dup, 1) := by decide +kernel
theorem dX12_init_710 : decode cX12_init 710 = .ok (.bipush 116, 2) := by decide +kernel
theorem dX12_init_712 : decode cX12_init 712 = .ok (.bipush 101, 2) := by decide +kernel
theorem dX12_init_714 : decode cX12_init 714 = .ok (.iastore, 1) := by decide +kernel
theorem dX12_init_715 : decode cX12_init 715 = .ok (.dup, 1) := by decide +kernel
theorem dX12_init_716 : decode cX12_init 716 = .ok (.bipush 117, 2) := by decide +kernel
theorem dX12_init_718 : decode cX12_init 718 = .ok (.bipush 105, 2) := by decide +kernel
theorem dX12_init_720 : decode cX12_init 720 = .ok (.iastore, 1) := by decide +kernel
theorem dX12_init_721 : decode cX12_init 721 = .ok (.dup, 1) := by decide +kernel
theorem dX12_init_722 : decode cX12_init 722 = .ok (.bipush 118, 2) := by decide +kernel
theorem dX12_init_724 : decode cX12_init 724 = .ok (.bipush 103, 2) := by decide +kernel
theorem dX12_init_726 : decode cX12_init 726 = .ok (.iastore, 1) := by decide +kernel
theorem dX12_init_727 : decode cX12_init 727 = .ok (.dup, 1) := by decide +kernel
theorem dX12_init_728 : decode cX12_init 728 = .ok (.bipush 119, 2) := by decide +kernel
theorem dX12_init_730 : decode cX12_init 730 = .ok (.bipush 104, 2) := by decide +kernel
theorem dX12_init_732 : decode cX12_init 732 = .ok (.iastore, 1) := by decide +kernel
theorem dX12_init_733 : decode cX12_init 733 = .ok (.dup, 1) := by decide +kernel
theorem dX12_init_734 : decode cX12_init 734 = .ok (.bipush 120, 2) := by decide +kernel
theorem dX12_init_736 : decode cX12_init 736 = .ok (.bipush 116, 2) := by decide +kernel
theorem dX12_init_738 : decode cX12_init 738 = .ok (.iastore, 1) := by decide +kernel
theorem dX12_init_739 : decode cX12_init 739 = .ok (.dup, 1) := by decide +kernel
theorem dX12_init_740 : decode cX12_init 740 = .ok (.bipush 121, 2) := by decide +kernel
theorem dX12_init_742 : decode cX12_init 742 = .ok (.bipush 32, 2) := by decide +kernel
theorem dX12_init_744 : decode cX12_init 744 = .ok (.iastore, 1) := by decide +kernel
theorem dX12_init_745 : decode cX12_init 745 = .ok (.dup, 1) := by decide +kernel
theorem dX12_init_746 : decode cX12_init 746 = .ok (.bipush 122, 2) := by decide +kernel
theorem dX12_init_748 : decode cX12_init 748 = .ok (.bipush 119, 2) := by decide +kernel
theorem dX12_init_750 : decode cX12_init 750 = .ok (.iastore, 1) := by decide +kernel
theorem dX12_init_751 : decode cX12_init 751 = .ok (.dup, 1) := by decide +kernel
theorem dX12_init_752 : decode cX12_init 752 = .ok (.bipush 123, 2) := by decide +kernel
theorem dX12_init_754 : decode cX12_init 754 = .ok (.bipush 105, 2) := by decide +kernel
theorem dX12_init_756 : decode cX12_init 756 = .ok (.iastore, 1) := by decide +kernel
theorem dX12_init_757 : decode cX12_init 757 = .ok (.dup, 1) := by decide +kernel
theorem dX12_init_758 : decode cX12_init 758 = .ok (.bipush 124, 2) := by decide +kernel
theorem dX12_init_760 : decode cX12_init 760 = .ok (.bipush 110, 2) := by decide +kernel
theorem dX12_init_762 : decode cX12_init 762 = .ok (.iastore, 1) := by decide +kernel
theorem dX12_init_763 : decode cX12_init 763 = .ok (.dup, 1) := by decide +kernel
theorem dX12_init_764 : decode cX12_init 764 = .ok (.bipush 125, 2) := by decide +kernel
theorem dX12_init_766 : decode cX12_init 766 = .ok (.bipush 100, 2) := by decide +kernel
theorem dX12_init_768 : decode cX12_init 768 = .ok (.iastore, 1) := by decide +kernel
theorem dX12_init_769 : decode cX12_init 769 = .ok (.dup, 1) := by decide +kernel
theorem dX12_init_770 : decode cX12_init 770 = .ok (.bipush 126, 2) := by decide +kernel
theorem dX12_init_772 : decode cX12_init 772 = .ok (.bipush 32, 2) := by decide +kernel
theorem dX12_init_774 : decode cX12_init 774 = .ok (.iastore, 1) := by decide +kernel
theorem dX12_init_775 : decode cX12_init 775 = .ok (.dup, 1) := by decide +kernel
theorem dX12_init_776 : decode cX12_init 776 = .ok (.bipush 127, 2) := by decide +kernel
theorem dX12_init_778 : decode cX12_init 778 = .ok (.bipush 108, 2) := by decide +kernel
theorem dX12_init_780 : decode cX12_init 780 = .ok (.iastore, 1) := by decide +kernel
theorem dX12_init_781 : decode cX12_init 781 = .ok (.dup, 1) := by decide +kernel
theorem dX12_init_782 : decode cX12_init 782 = .ok (.sipush 128, 3) := by decide +kernel
theorem dX12_init_785 : decode cX12_init 785 = .ok (.bipush 101, 2) := by decide +kernel
theorem dX12_init_787 : decode cX12_init 787 = .ok (.iastore, 1) := by decide +kernel
theorem dX12_init_788 : decode cX12_init 788 = .ok (.dup, 1) := by decide +kernel
theorem dX12_init_789 : decode cX12_init 789 = .ok (.sipush 129, 3) := by decide +kernel
theorem dX12_init_792 : decode cX12_init 792 = .ok (.bipush 103, 2) := by decide +kernel
theorem dX12_init_794 : decode cX12_init 794 = .ok (.iastore, 1) := by decide +kernel
theorem dX12_init_795 : decode cX12_init 795 = .ok (.dup, 1) := by decide +kernel
theorem dX12_init_796 : decode cX12_init 796 = .ok (.sipush 130, 3) := by decide +kernel
theorem dX12_init_799 : decode cX12_init 799 = .ok (.bipush 115, 2) := by decide +kernel
theorem dX12_init_801 : decode cX12_init 801 = .ok (.iastore, 1) := by decide +kernel
theorem dX12_init_802 : decode cX12_init 802 = .ok (.dup, 1) := by decide +kernel
theorem dX12_init_803 : decode cX12_init 803 = .ok (.sipush 131, 3) := by decide +kernel
theorem dX12_init_806 : decode cX12_init 806 = .ok (.bipush 32, 2) := by decide +kernel
theorem dX12_init_808 : decode cX12_init 808 = .ok (.iastore, 1) := by decide +kernel
theorem dX12_init_809 : decode cX12_init 809 = .ok (.dup, 1) := by decide +kernel
theorem dX12_init_810 : decode cX12_init 810 = .ok (.sipush 132, 3) := by decide +kernel
theorem dX12_init_813 : decode cX12_init 813 = .ok (.bipush 100, 2) := by decide +kernel
theorem dX12_init_815 : decode cX12_init 815 = .ok (.iastore, 1) := by decide +kernel
theorem dX12_init_816 : decode cX12_init 816 = .ok (.dup, 1) := by decide +kernel
theorem dX12_init_817 : decode cX12_init 817 = .ok (.sipush 133, 3) := by decide +kernel
theorem dX12_init_820 : decode cX12_init 820 = .ok (.bipush 97, 2) := by decide +kernel
theorem dX12_init_822 : decode cX12_init 822 = .ok (.iastore, 1) := by decide +kernel
theorem dX12_init_823 : decode cX12_init 823 = .ok (.dup, 1) := by decide +kernel
theorem dX12_init_824 : decode cX12_init 824 = .ok (.sipush 134, 3) := by decide +kernel
theorem dX12_init_827 : decode cX12_init 827 = .ok (.bipush 109, 2) := by decide +kernel
theorem dX12_init_829 : decode cX12_init 829 = .ok (.iastore, 1) := by decide +kernel
theorem dX12_init_830 : decode cX12_init 830 = .ok (.dup, 1) := by decide +kernel
theorem dX12_init_831 : decode cX12_init 831 = .ok (.sipush 135, 3) := by decide +kernel
theorem dX12_init_834 : decode cX12_init 834 = .ok (.bipush 112, 2) := by decide +kernel
theorem dX12_init_836 : decode cX12_init 836 = .ok (.iastore, 1) := by decide +kernel
theorem dX12_init_837 : decode cX12_init 837 = .ok (.dup, 1) := by decide +kernel
theorem dX12_init_838 : decode cX12_init 838 = .ok (.sipush 136, 3) := by decide +kernel
theorem dX12_init_841 : decode cX12_init 841 = .ok (.bipush 32, 2) := by decide +kernel
theorem dX12_init_843 : decode cX12_init 843 = .ok (.iastore, 1) := by decide +kernel
theorem dX12_init_844 : decode cX12_init 844 = .ok (.dup, 1) := by decide +kernel
theorem dX12_init_845 : decode cX12_init 845 = .ok (.sipush 137, 3) := by decide +kernel
theorem dX12_init_848 : decode cX12_init 848 = .ok (.bipush 99, 2) := by decide +kernel
theorem dX12_init_850 : decode cX12_init 850 = .ok (.iastore, 1) := by decide +kernel
theorem dX12_init_851 : decode cX12_init 851 = .ok (.dup, 1) := by decide +kernel
theorem dX12_init_852 : decode cX12_init 852 = .ok (.sipush 138, 3) := by decide +kernel
theorem dX12_init_855 : decode cX12_init 855 = .ok (.bipush 117, 2) := by decide +kernel
theorem dX12_init_857 : decode cX12_init 857 = .ok (.iastore, 1) := by decide +kernel
theorem dX12_init_858 : decode cX12_init 858 = .ok (.dup, 1) := by decide +kernel
theorem dX12_init_859 : decode cX12_init 859 = .ok (.sipush 139, 3) := by decide +kernel
theorem dX12_init_862 : decode cX12_init 862 = .ok (.bipush 114, 2) := by decide +kernel
theorem dX12_init_864 : decode cX12_init 864 = .ok (.iastore, 1) := by decide +kernel
theorem dX12_init_865 : decode cX12_init 865 = .ok (.dup, 1) := by decide +kernel
theorem dX12_init_866 : decode cX12_init 866 = .ok (.sipush 140, 3) := by decide +kernel
theorem dX12_init_869 : decode cX12_init 869 = .ok (.bipush 118, 2) := by decide +kernel
theorem dX12_init_871 : decode cX12_init 871 = .ok (.iastore, 1) := by decide +kernel
theorem dX12_init_872 : decode cX12_init 872 = .ok (.dup, 1) := by decide +kernel
theorem dX12_init_873 : decode cX12_init 873 = .ok (.sipush 141, 3) := by decide +kernel
theorem dX12_init_876 : decode cX12_init 876 = .ok (.bipush 101, 2) := by decide +kernel
theorem dX12_init_878 : decode cX12_init 878 = .ok (.iastore, 1) := by decide +kernel
theorem dX12_init_879 : decode cX12_init 879 = .ok (.dup, 1) := by decide +kernel
theorem dX12_init_880 : decode cX12_init 880 = .ok (.sipush 142, 3) := by decide +kernel
theorem dX12_init_883 : decode cX12_init 883 = .ok (.bipush 32, 2) := by decide +kernel
theorem dX12_init_885 : decode cX12_init 885 = .ok (.iastore, 1) := by decide +kernel
theorem dX12_init_886 : decode cX12_init 886 = .ok (.putfield 13, 3) := by decide +kernel
theorem dX12_init_889 : decode cX12_init 889 = .ok (.aload_n 0, 1) := by decide +kernel
theorem dX12_init_890 : decode cX12_init 890 = .ok (.iconst (-1), 1) := by decide +kernel
theorem dX12_init_891 : decode cX12_init 891 = .ok (.putfield 16, 3) := by decide +kernel
theorem dX12_init_894 : decode cX12_init 894 = .ok (.aload_n 0, 1) := by decide +kernel
theorem dX12_init_895 : decode cX12_init 895 = .ok (.bipush 12, 2) := by decide +kernel
theorem dX12_init_897 : decode cX12_init 897 = .ok (.newarray .int, 2) := by decide +kernel
theorem dX12_init_899 : decode cX12_init 899 = .ok (.putfield 20, 3) := by decide +kernel
theorem dX12_init_902 : decode cX12_init 902 = .ok (.aload_n 0, 1) := by decide +kernel
theorem dX12_init_903 : decode cX12_init 903 = .ok (.bipush 12, 2) := by decide +kernel
theorem dX12_init_905 : decode cX12_init 905 = .ok (.newarray .int, 2) := by decide +kernel
theorem dX12_init_907 : decode cX12_init 907 = .ok (.putfield 23, 3) := by decide +kernel
theorem dX12_init_910 : decode cX12_init 910 = .ok (.aload_n 0, 1) := by decide +kernel
theorem dX12_init_911 : decode cX12_init 911 = .ok (.bipush 12, 2) := by decide +kernel
theorem dX12_init_913 : decode cX12_init 913 = .ok (.newarray .int, 2) := by decide +kernel
theorem dX12_init_915 : decode cX12_init 915 = .ok (.putfield 26, 3) := by decide +kernel
theorem dX12_init_918 : decode cX12_init 918 = .ok (.aload_n 0, 1) := by decide +kernel
theorem dX12_init_919 : decode cX12_init 919 = .ok (.bipush 12, 2) := by decide +kernel
theorem dX12_init_921 : decode cX12_init 921 = .ok (.newarray .boolean, 2) := by decide +kernel
theorem dX12_init_923 : decode cX12_init 923 = .ok (.putfield 29, 3) := by decide +kernel
theorem dX12_init_926 : decode cX12_init 926 = .ok (.aload_n 0, 1) := by decide +kernel
theorem dX12_init_927 : decode cX12_init 927 = .ok (.bipush 12, 2) := by decide +kernel
theorem dX12_init_929 : decode cX12_init 929 = .ok (.newarray .boolean, 2) := by decide +kernel
theorem dX12_init_931 : decode cX12_init 931 = .ok (.putfield 33, 3) := by decide +kernel
theorem dX12_init_934 : decode cX12_init 934 = .ok (.aload_n 0, 1) := by decide +kernel
theorem dX12_init_935 : decode cX12_init 935 = .ok (.bipush 10, 2) := by decide +kernel
theorem dX12_init_937 : decode cX12_init 937 = .ok (.newarray .int, 2) := by decide +kernel
theorem dX12_init_939 : decode cX12_init 939 = .ok (.putfield 36, 3) := by decide +kernel
theorem dX12_init_942 : decode cX12_init 942 = .ok (.aload_n 0, 1) := by decide +kernel
theorem dX12_init_943 : decode cX12_init 943 = .ok (.bipush 10, 2) := by decide +kernel
theorem dX12_init_945 : decode cX12_init 945 = .ok (.newarray .int, 2) := by decide +kernel
theorem dX12_init_947 : decode cX12_init 947 = .ok (.putfield 39, 3) := by decide +kernel
theorem dX12_init_950 : decode cX12_init 950 = .ok (.aload_n 0, 1) := by decide +kernel
theorem dX12_init_951 : decode cX12_init 951 = .ok (.bipush 10, 2) := by decide +kernel
theorem dX12_init_953 : decode cX12_init 953 = .ok (.newarray .int, 2) := by decide +kernel
theorem dX12_init_955 : decode cX12_init 955 = .ok (.putfield 42, 3) := by decide +kernel
theorem dX12_init_958 : decode cX12_init 958 = .ok (.aload_n 0, 1) := by decide +kernel
theorem dX12_init_959 : decode cX12_init 959 = .ok (.bipush 10, 2) := by decide +kernel
theorem dX12_init_961 : decode cX12_init 961 = .ok (.newarray .int, 2) := by decide +kernel
theorem dX12_init_963 : decode cX12_init 963 = .ok (.putfield 45, 3) := by decide +kernel
theorem dX12_init_966 : decode cX12_init 966 = .ok (.aload_n 0, 1) := by decide +kernel
theorem dX12_init_967 : decode cX12_init 967 = .ok (.bipush 6, 2) := by decide +kernel
theorem dX12_init_969 : decode cX12_init 969 = .ok (.newarray .int, 2) := by decide +kernel
theorem dX12_init_971 : decode cX12_init 971 = .ok (.putfield 48, 3) := by decide +kernel
theorem dX12_init_974 : decode cX12_init 974 = .ok (.aload_n 0, 1) := by decide +kernel
theorem dX12_init_975 : decode cX12_init 975 = .ok (.bipush 6, 2) := by decide +kernel
theorem dX12_init_977 : decode cX12_init 977 = .ok (.newarray .int, 2) := by decide +kernel
theorem dX12_init_979 : decode cX12_init 979 = .ok (.putfield 51, 3) := by decide +kernel
theorem dX12_init_982 : decode cX12_init 982 = .ok (.aload_n 0, 1) := by decide +kernel
theorem dX12_init_983 : decode cX12_init 983 = .ok (.bipush 6, 2) := by decide +kernel
theorem dX12_init_985 : decode cX12_init 985 = .ok (.newarray .int, 2) := by decide +kernel
theorem dX12_init_987 : decode cX12_init 987 = .ok (.putfield 54, 3) := by decide +kernel
theorem dX12_init_990 : decode cX12_init 990 = .ok (.aload_n 0, 1) := by decide +kernel
theorem dX12_init_991 : decode cX12_init 991 = .ok (.bipush 6, 2) := by decide +kernel
theorem dX12_init_993 : decode cX12_init 993 = .ok (.newarray .int, 2) := by decide +kernel
theorem dX12_init_995 : decode cX12_init 995 = .ok (.putfield 57, 3) := by decide +kernel
theorem dX12_init_998 : decode cX12_init 998 = .ok (.aload_n 0, 1) := by decide +kernel
theorem dX12_init_999 : decode cX12_init 999 = .ok (.bipush 10, 2) := by decide +kernel
theorem dX12_init_1001 : decode cX12_init 1001 = .ok (.newarray .int, 2) := by decide +kernel
theorem dX12_init_1003 : decode cX12_init 1003 = .ok (.putfield 60, 3) := by decide +kernel
theorem dX12_init_1006 : decode cX12_init 1006 = .ok (.aload_n 0, 1) := by decide +kernel
theorem dX12_init_1007 : decode cX12_init 1007 = .ok (.bipush 10, 2) := by decide +kernel
theorem dX12_init_1009 : decode cX12_init 1009 = .ok (.newarray .int, 2) := by decide +kernel
theorem dX12_init_1011 : decode cX12_init 1011 = .ok (.putfield 63, 3) := by decide +kernel
theorem dX12_init_1014 : decode cX12_init 1014 = .ok (.aload_n 0, 1) := by decide +kernel
theorem dX12_init_1015 : decode cX12_init 1015 = .ok (.bipush 10, 2) := by decide +kernel
theorem dX12_init_1017 : decode cX12_init 1017 = .ok (.newarray .int, 2) := by decide +kernel
theorem dX12_init_1019 : decode cX12_init 1019 = .ok (.putfield 66, 3) := by decide +kernel
theorem dX12_init_1022 : decode cX12_init 1022 = .ok (.aload_n 0, 1) := by decide +kernel
theorem dX12_init_1023 : decode cX12_init 1023 = .ok (.bipush 60, 2) := by decide +kernel
theorem dX12_init_1025 : decode cX12_init 1025 = .ok (.newarray .int, 2) := by decide +kernel
theorem dX12_init_1027 : decode cX12_init 1027 = .ok (.putfield 69, 3) := by decide +kernel
theorem dX12_init_1030 : decode cX12_init 1030 = .ok (.aload_n 0, 1) := by decide +kernel
theorem dX12_init_1031 : decode cX12_init 1031 = .ok (.bipush 8, 2) := by decide +kernel
theorem dX12_init_1033 : decode cX12_init 1033 = .ok (.newarray .int, 2) := by decide +kernel
theorem dX12_init_1035 : decode cX12_init 1035 = .ok (.putfield 72, 3) := by decide +kernel
theorem dX12_init_1038 : decode cX12_init 1038 = .ok (.aload_n 0, 1) := by decide +kernel
theorem dX12_init_1039 : decode cX12_init 1039 = .ok (.bipush 8, 2) := by decide +kernel
theorem dX12_init_1041 : decode cX12_init 1041 = .ok (.newarray .int, 2) := by decide +kernel
theorem dX12_init_1043 : decode cX12_init 1043 = .ok (.putfield 75, 3) := by decide +kernel
theorem dX12_init_1046 : decode cX12_init 1046 = .ok (.aload_n 0, 1) := by decide +kernel
theorem dX12_init_1047 : decode cX12_init 1047 = .ok (.bipush 8, 2) := by decide +kernel
theorem dX12_init_1049 : decode cX12_init 1049 = .ok (.newarray .int, 2) := by decide +kernel
theorem dX12_init_1051 : decode cX12_init 1051 = .ok (.putfield 78, 3) := by decide +kernel
theorem dX12_init_1054 : decode cX12_init 1054 = .ok (.aload_n 0, 1) := by decide +kernel
theorem dX12_init_1055 : decode cX12_init 1055 = .ok (.bipush 16, 2) := by decide +kernel
theorem dX12_init_1057 : decode cX12_init 1057 = .ok (.newarray .boolean, 2) := by decide +kernel
theorem dX12_init_1059 : decode cX12_init 1059 = .ok (.putfield 81, 3) := by decide +kernel
theorem dX12_init_1062 : decode cX12_init 1062 = .ok (.aload_n 0, 1) := by decide +kernel
theorem dX12_init_1063 : decode cX12_init 1063 = .ok (.bipush 16, 2) := by decide +kernel
theorem dX12_init_1065 : decode cX12_init 1065 = .ok (.newarray .int, 2) := by decide +kernel
theorem dX12_init_1067 : decode cX12_init 1067 = .ok (.putfield 84, 3) := by decide +kernel
theorem dX12_init_1070 : decode cX12_init 1070 = .ok (.aload_n 0, 1) := by decide +kernel
theorem dX12_init_1071 : decode cX12_init 1071 = .ok (.bipush 16, 2) := by decide +kernel
theorem dX12_init_1073 : decode cX12_init 1073 = .ok (.newarray .int, 2) := by decide +kernel
theorem dX12_init_1075 : decode cX12_init 1075 = .ok (.putfield 87, 3) := by decide +kernel
theorem dX12_init_1078 : decode cX12_init 1078 = .ok (.aload_n 0, 1) := by decide +kernel
theorem dX12_init_1079 : decode cX12_init 1079 = .ok (.sipush 128, 3) := by decide +kernel
theorem dX12_init_1082 : decode cX12_init 1082 = .ok (.newarray .int, 2) := by decide +kernel
theorem dX12_init_1084 : decode cX12_init 1084 = .ok (.putfield 90, 3) := by decide +kernel
theorem dX12_init_1087 : decode cX12_init 1087 = .ok (.aload_n 0, 1) := by decide +kernel
theorem dX12_init_1088 : decode cX12_init 1088 = .ok (.sipush 128, 3) := by decide +kernel
theorem dX12_init_1091 : decode cX12_init 1091 = .ok (.newarray .int, 2) := by decide +kernel
theorem dX12_init_1093 : decode cX12_init 1093 = .ok (.putfield 93, 3) := by decide +kernel
theorem dX12_init_1096 : decode cX12_init 1096 = .ok (.aload_n 0, 1) := by decide +kernel
theorem dX12_init_1097 : decode cX12_init 1097 = .ok (.sipush 128, 3) := by decide +kernel
theorem dX12_init_1100 : decode cX12_init 1100 = .ok (.newarray .int, 2) := by decide +kernel
theorem dX12_init_1102 : decode cX12_init 1102 = .ok (.putfield 96, 3) := by decide +kernel
theorem dX12_init_1105 : decode cX12_init 1105 = .ok (.aload_n 0, 1) := by decide +kernel
theorem dX12_init_1106 : decode cX12_init 1106 = .ok (.bipush 96, 2) := by decide +kernel
theorem dX12_init_1108 : decode cX12_init 1108 = .ok (.newarray .int, 2) := by decide +kernel
theorem dX12_init_1110 : decode cX12_init 1110 = .ok (.putfield 99, 3) := by decide +kernel
theorem dX12_init_1113 : decode cX12_init 1113 = .ok (.aload_n 0, 1) := by decide +kernel
theorem dX12_init_1114 : decode cX12_init 1114 = .ok (.bipush 96, 2) := by decide +kernel
theorem dX12_init_1116 : decode cX12_init 1116 = .ok (.newarray .int, 2) := by decide +kernel
theorem dX12_init_1118 : decode cX12_init 1118 = .ok (.putfield 102, 3) := by decide +kernel
theorem dX12_init_1121 : decode cX12_init 1121 = .ok (.aload_n 0, 1) := by decide +kernel
theorem dX12_init_1122 : decode cX12_init 1122 = .ok (.bipush 8, 2) := by decide +kernel
theorem dX12_init_1124 : decode cX12_init 1124 = .ok (.newarray .long, 2) := by decide +kernel
theorem dX12_init_1126 : decode cX12_init 1126 = .ok (.putfield 105, 3) := by decide +kernel
theorem dX12_init_1129 : decode cX12_init 1129 = .ok (.aload_n 0, 1) := by decide +kernel
theorem dX12_init_1130 : decode cX12_init 1130 = .ok (.bipush 64, 2) := by decide +kernel
theorem dX12_init_1132 : decode cX12_init 1132 = .ok (.newarray .long, 2) := by decide +kernel
theorem dX12_init_1134 : decode cX12_init 1134 = .ok (.putfield 109, 3) := by decide +kernel
theorem dX12_init_1137 : decode cX12_init 1137 = .ok (.aload_n 0, 1) := by decide +kernel
theorem dX12_init_1138 : decode cX12_init 1138 = .ok (.bipush 7, 2) := by decide +kernel
theorem dX12_init_1140 : decode cX12_init 1140 = .ok (.newarray .int, 2) := by decide +kernel
theorem dX12_init_1142 : decode cX12_init 1142 = .ok (.putfield 112, 3) := by decide +kernel
theorem dX12_init_1145 : decode cX12_init 1145 = .ok (.aload_n 0, 1) := by decide +kernel
theorem dX12_init_1146 : decode cX12_init 1146 = .ok (.sipush 160, 3) := by decide +kernel
theorem dX12_init_1149 : decode cX12_init 1149 = .ok (.newarray .int, 2) := by decide +kernel
theorem dX12_init_1151 : decode cX12_init 1151 = .ok (.putfield 115, 3) := by decide +kernel
theorem dX12_init_1154 : decode cX12_init 1154 = .ok (.aload_n 0, 1) := by decide +kernel
theorem dX12_init_1155 : decode cX12_init 1155 = .ok (.sipush 17507, 3) := by decide +kernel
theorem dX12_init_1158 : decode cX12_init 1158 = .ok (.newarray .boolean, 2) := by decide +kernel
theorem dX12_init_1160 : decode cX12_init 1160 = .ok (.putfield 118, 3) := by decide +kernel
theorem dX12_init_1163 : decode cX12_init 1163 = .ok (.aload_n 0, 1) := by decide +kernel
theorem dX12_init_1164 : decode cX12_init 1164 = .ok (.sipush 17507, 3) := by decide +kernel
theorem dX12_init_1167 : decode cX12_init 1167 = .ok (.newarray .int, 2) := by decide +kernel
theorem dX12_init_1169 : decode cX12_init 1169 = .ok (.putfield 121, 3) := by decide +kernel
theorem dX12_init_1172 : decode cX12_init 1172 = .ok (.aload_n 0, 1) := by decide +kernel
theorem dX12_init_1173 : decode cX12_init 1173 = .ok (.sipush 17507, 3) := by decide +kernel
theorem dX12_init_1176 : decode cX12_init 1176 = .ok (.newarray .int, 2) := by decide +kernel
theorem dX12_init_1178 : decode cX12_init 1178 = .ok (.putfield 124, 3) := by decide +kernel
theorem dX12_init_1181 : decode cX12_init 1181 = .ok (.aload_n 0, 1) := by decide +kernel
theorem dX12_init_1182 : decode cX12_init 1182 = .ok (.iconst (-1), 1) := by decide +kernel
theorem dX12_init_1183 : decode cX12_init 1183 = .ok (.putfield 127, 3) := by decide +kernel
theorem dX12_init_1186 : decode cX12_init 1186 = .ok (.aload_n 0, 1) := by decide +kernel
theorem dX12_init_1187 : decode cX12_init 1187 = .ok (.bipush 96, 2) := by decide +kernel
theorem dX12_init_1189 : decode cX12_init 1189 = .ok (.newarray .int, 2) := by decide +kernel
theorem dX12_init_1191 : decode cX12_init 1191 = .ok (.putfield 130, 3) := by decide +kernel
theorem dX12_init_1194 : decode cX12_init 1194 = .ok (.aload_n 0, 1) := by decide +kernel
theorem dX12_init_1195 : decode cX12_init 1195 = .ok (.bipush 24, 2) := by decide +kernel
theorem dX12_init_1197 : decode cX12_init 1197 = .ok (.newarray .boolean, 2) := by decide +kernel
theorem dX12_init_1199 : decode cX12_init 1199 = .ok (.putfield 133, 3) := by decide +kernel
theorem dX12_init_1202 : decode cX12_init 1202 = .ok (.aload_n 0, 1) := by decide +kernel
theorem dX12_init_1203 : decode cX12_init 1203 = .ok (.iconst 5, 1) := by decide +kernel
theorem dX12_init_1204 : decode cX12_init 1204 = .ok (.newarray .int, 2) := by decide +kernel
theorem dX12_init_1206 : decode cX12_init 1206 = .ok (.putfield 136, 3) := by decide +kernel
theorem dX12_init_1209 : decode cX12_init 1209 = .ok (.aload_n 0, 1) := by decide +kernel
theorem dX12_init_1210 : decode cX12_init 1210 = .ok (.iconst 5, 1) := by decide +kernel
theorem dX12_init_1211 : decode cX12_init 1211 = .ok (.newarray .int, 2) := by decide +kernel
theorem dX12_init_1213 : decode cX12_init 1213 = .ok (.putfield 139, 3) := by decide +kernel
theorem dX12_init_1216 : decode cX12_init 1216 = .ok (.aload_n 0, 1) := by decide +kernel
theorem dX12_init_1217 : decode cX12_init 1217 = .ok (.iconst 5, 1) := by decide +kernel
theorem dX12_init_1218 : decode cX12_init 1218 = .ok (.newarray .int, 2) := by decide +kernel
theorem dX12_init_1220 : decode cX12_init 1220 = .ok (.putfield 142, 3) := by decide +kernel
theorem dX12_init_1223 : decode cX12_init 1223 = .ok (.aload_n 0, 1) := by decide +kernel
theorem dX12_init_1224 : decode cX12_init 1224 = .ok (.bipush 7, 2) := by decide +kernel
theorem dX12_init_1226 : decode cX12_init 1226 = .ok (.newarray .int, 2) := by decide +kernel
theorem dX12_init_1228 : decode cX12_init 1228 = .ok (.putfield 145, 3) := by decide +kernel
theorem dX12_init_1231 : decode cX12_init 1231 = .ok (.aload_n 0, 1) := by decide +kernel
theorem dX12_init_1232 : decode cX12_init 1232 = .ok (.invokevirtual 148, 3) := by decide +kernel
theorem dX12_init_1235 : decode cX12_init 1235 = .ok (.aload_n 0, 1) := by decide +kernel
theorem dX12_init_1236 : decode cX12_init 1236 = .ok (.invokevirtual 151, 3) := by decide +kernel
theorem dX12_init_1239 : decode cX12_init 1239 = .ok (.return_, 1) := by decide +kernel
theorem dX12_thrown_0 : decode cX12_thrown 0 = .ok (.aload_n 0, 1) := by decide +kernel
theorem dX12_thrown_1 : decode cX12_thrown 1 = .ok (.getfield 154, 3) := by decide +kernel
theorem dX12_thrown_4 : decode cX12_thrown 4 = .ok (.ireturn, 1) := by decide +kernel
theorem dX12_feed_0 : decode cX12_feed 0 = .ok (.aload_n 0, 1) := by decide +kernel
theorem dX12_feed_1 : decode cX12_feed 1 = .ok (.iconst 0, 1) := by decide +kernel
theorem dX12_feed_2 : decode cX12_feed 2 = .ok (.putfield 154, 3) := by decide +kernel
theorem dX12_feed_5 : decode cX12_feed 5 = .ok (.aload_n 0, 1) := by decide +kernel
theorem dX12_feed_6 : decode cX12_feed 6 = .ok (.getfield 157, 3) := by decide +kernel
theorem dX12_feed_9 : decode cX12_feed 9 = .ok (.bipush 20, 2) := by decide +kernel
theorem dX12_feed_11 : decode cX12_feed 11 = .ok (.iadd, 1) := by decide +kernel
theorem dX12_feed_12 : decode cX12_feed 12 = .ok (.sipush 700, 3) := by decide +kernel
theorem dX12_feed_15 : decode cX12_feed 15 = .ok (.if_icmp .le 5, 3) := by decide +kernel
theorem dX12_feed_18 : decode cX12_feed 18 = .ok (.iconst (-1), 1) := by decide +kernel
theorem dX12_feed_19 : decode cX12_feed 19 = .ok (.ireturn, 1) := by decide +kernel
theorem dX12_feed_20 : decode cX12_feed 20 = .ok (.iconst 0, 1) := by decide +kernel
theorem dX12_feed_21 : decode cX12_feed 21 = .ok (.istore 6, 2) := by decide +kernel
theorem dX12_feed_23 : decode cX12_feed 23 = .ok (.iload 6, 2) := by decide +kernel
theorem dX12_feed_25 : decode cX12_feed 25 = .ok (.bipush 20, 2) := by decide +kernel
theorem dX12_feed_27 : decode cX12_feed 27 = .ok (.if_icmp .ge 86, 3) := by decide +kernel
theorem dX12_feed_30 : decode cX12_feed 30 = .ok (.iload 6, 2) := by decide +kernel
theorem dX12_feed_32 : decode cX12_feed 32 = .ok (.iconst 4, 1) := by decide +kernel
theorem dX12_feed_33 : decode cX12_feed 33 = .ok (.if_icmp .ge 7, 3) := by decide +kernel
theorem dX12_feed_36 : decode cX12_feed 36 = .ok (.iload_n 1, 1) := by decide +kernel
theorem dX12_feed_37 : decode cX12_feed 37 = .ok (.goto 39, 3) := by decide +kernel
theorem dX12_feed_40 : decode cX12_feed 40 = .ok (.iload 6, 2) := by decide +kernel
theorem dX12_feed_42 : decode cX12_feed 42 = .ok (.bipush 8, 2) := by decide +kernel
theorem dX12_feed_44 : decode cX12_feed 44 = .ok (.if_icmp .ge 7, 3) := by decide +kernel
theorem dX12_feed_47 : decode cX12_feed 47 = .ok (.iload_n 2, 1) := by decide +kernel
theorem dX12_feed_48 : decode cX12_feed 48 = .ok (.goto 28, 3) := by decide +kernel
theorem dX12_feed_51 : decode cX12_feed 51 = .ok (.iload 6, 2) := by decide +kernel
theorem dX12_feed_53 : decode cX12_feed 53 = .ok (.bipush 12, 2) := by decide +kernel
theorem dX12_feed_55 : decode cX12_feed 55 = .ok (.if_icmp .ge 7, 3) := by decide +kernel
theorem dX12_feed_58 : decode cX12_feed 58 = .ok (.iload_n 3, 1) := by decide +kernel
theorem dX12_feed_59 : decode cX12_feed 59 = .ok (.goto 17, 3) := by decide +kernel
theorem dX12_feed_62 : decode cX12_feed 62 = .ok (.iload 6, 2) := by decide +kernel
theorem dX12_feed_64 : decode cX12_feed 64 = .ok (.bipush 16, 2) := by decide +kernel
theorem dX12_feed_66 : decode cX12_feed 66 = .ok (.if_icmp .ge 8, 3) := by decide +kernel
theorem dX12_feed_69 : decode cX12_feed 69 = .ok (.iload 4, 2) := by decide +kernel
theorem dX12_feed_71 : decode cX12_feed 71 = .ok (.goto 5, 3) := by decide +kernel
theorem dX12_feed_74 : decode cX12_feed 74 = .ok (.iload 5, 2) := by decide +kernel
theorem dX12_feed_76 : decode cX12_feed 76 = .ok (.istore 7, 2) := by decide +kernel
theorem dX12_feed_78 : decode cX12_feed 78 = .ok (.aload_n 0, 1) := by decide +kernel
theorem dX12_feed_79 : decode cX12_feed 79 = .ok (.getfield 7, 3) := by decide +kernel
theorem dX12_feed_82 : decode cX12_feed 82 = .ok (.aload_n 0, 1) := by decide +kernel
theorem dX12_feed_83 : decode cX12_feed 83 = .ok (.getfield 157, 3) := by decide +kernel
theorem dX12_feed_86 : decode cX12_feed 86 = .ok (.iload 6, 2) := by decide +kernel
theorem dX12_feed_88 : decode cX12_feed 88 = .ok (.iadd, 1) := by decide +kernel
theorem dX12_feed_89 : decode cX12_feed 89 = .ok (.iload 7, 2) := by decide +kernel
theorem dX12_feed_91 : decode cX12_feed 91 = .ok (.bipush 24, 2) := by decide +kernel
theorem dX12_feed_93 : decode cX12_feed 93 = .ok (.bipush 8, 2) := by decide +kernel
theorem dX12_feed_95 : decode cX12_feed 95 = .ok (.iload 6, 2) := by decide +kernel
theorem dX12_feed_97 : decode cX12_feed 97 = .ok (.iconst 4, 1) := by decide +kernel
theorem dX12_feed_98 : decode cX12_feed 98 = .ok (.irem, 1) := by decide +kernel
theorem dX12_feed_99 : decode cX12_feed 99 = .ok (.imul, 1) := by decide +kernel
theorem dX12_feed_100 : decode cX12_feed 100 = .ok (.isub, 1) := by decide +kernel
theorem dX12_feed_101 : decode cX12_feed 101 = .ok (.ishr, 1) := by decide +kernel
theorem dX12_feed_102 : decode cX12_feed 102 = .ok (.sipush 255, 3) := by decide +kernel
theorem dX12_feed_105 : decode cX12_feed 105 = .ok (.iand, 1) := by decide +kernel
theorem dX12_feed_106 : decode cX12_feed 106 = .ok (.iastore, 1) := by decide +kernel
theorem dX12_feed_107 : decode cX12_feed 107 = .ok (.iinc 6 1, 3) := by decide +kernel
theorem dX12_feed_110 : decode cX12_feed 110 = .ok (.goto (-87), 3) := by decide +kernel
theorem dX12_feed_113 : decode cX12_feed 113 = .ok (.aload_n 0, 1) := by decide +kernel
theorem dX12_feed_114 : decode cX12_feed 114 = .ok (.dup, 1) := by decide +kernel
theorem dX12_feed_115 : decode cX12_feed 115 = .ok (.getfield 157, 3) := by decide +kernel
theorem dX12_feed_118 : decode cX12_feed 118 = .ok (.bipush 20, 2) := by decide +kernel
theorem dX12_feed_120 : decode cX12_feed 120 = .ok (.iadd, 1) := by decide +kernel
theorem dX12_feed_121 : decode cX12_feed 121 = .ok (.putfield 157, 3) := by decide +kernel
theorem dX12_feed_124 : decode cX12_feed 124 = .ok (.aload_n 0, 1) := by decide +kernel
theorem dX12_feed_125 : decode cX12_feed 125 = .ok (.getfield 157, 3) := by decide +kernel
theorem dX12_feed_128 : decode cX12_feed 128 = .ok (.ireturn, 1) := by decide +kernel
theorem dX12_isIn_0 : decode cX12_isIn 0 = .ok (.iload_n 0, 1) := by decide +kernel
theorem dX12_isIn_1 : decode cX12_isIn 1 = .ok (.iload_n 1, 1) := by decide +kernel
theorem dX12_isIn_2 : decode cX12_isIn 2 = .ok (.if_icmp .lt 12, 3) := by decide +kernel
theorem dX12_isIn_5 : decode cX12_isIn 5 = .ok (.iload_n 0, 1) := by decide +kernel
theorem dX12_isIn_6 : decode cX12_isIn 6 = .ok (.iload_n 2, 1) := by decide +kernel
theorem dX12_isIn_7 : decode cX12_isIn 7 = .ok (.if_icmp .gt 7, 3) := by decide +kernel
theorem dX12_isIn_10 : decode cX12_isIn 10 = .ok (.iconst 1, 1) := by decide +kernel
theorem dX12_isIn_11 : decode cX12_isIn 11 = .ok (.goto 4, 3) := by decide +kernel
theorem dX12_isIn_14 : decode cX12_isIn 14 = .ok (.iconst 0, 1) := by decide +kernel
theorem dX12_isIn_15 : decode cX12_isIn 15 = .ok (.ireturn, 1) := by decide +kernel
theorem dX12_isOf_0 : decode cX12_isOf 0 = .ok (.iload_n 0, 1) := by decide +kernel
theorem dX12_isOf_1 : decode cX12_isOf 1 = .ok (.iload_n 1, 1) := by decide +kernel
theorem dX12_isOf_2 : decode cX12_isOf 2 = .ok (.ishr, 1) := by decide +kernel
theorem dX12_isOf_3 : decode cX12_isOf 3 = .ok (.iconst 1, 1) := by decide +kernel
theorem dX12_isOf_4 : decode cX12_isOf 4 = .ok (.iand, 1) := by decide +kernel
theorem dX12_isOf_5 : decode cX12_isOf 5 = .ok (.iconst 1, 1) := by decide +kernel
theorem dX12_isOf_6 : decode cX12_isOf 6 = .ok (.if_icmp .ne 7, 3) := by decide +kernel
theorem dX12_isOf_9 : decode cX12_isOf 9 = .ok (.iconst 1, 1) := by decide +kernel
theorem dX12_isOf_10 : decode cX12_isOf 10 = .ok (.goto 4, 3) := by decide +kernel
theorem dX12_isOf_13 : decode cX12_isOf 13 = .ok (.iconst 0, 1) := by decide +kernel
theorem dX12_isOf_14 : decode cX12_isOf 14 = .ok (.ireturn, 1) := by decide +kernel
theorem dX12_wrong_0 : decode cX12_wrong 0 = .ok (.aload_n 0, 1) := by decide +kernel
theorem dX12_wrong_1 : decode cX12_wrong 1 = .ok (.iload_n 1, 1) := by decide +kernel
theorem dX12_wrong_2 : decode cX12_wrong 2 = .ok (.putfield 160, 3) := by decide +kernel
theorem dX12_wrong_5 : decode cX12_wrong 5 = .ok (.aload_n 0, 1) := by decide +kernel
theorem dX12_wrong_6 : decode cX12_wrong 6 = .ok (.aload_n 0, 1) := by decide +kernel
theorem dX12_wrong_7 : decode cX12_wrong 7 = .ok (.getfield 163, 3) := by decide +kernel
theorem dX12_wrong_10 : decode cX12_wrong 10 = .ok (.putfield 16, 3) := by decide +kernel
theorem dX12_wrong_13 : decode cX12_wrong 13 = .ok (.iconst 0, 1) := by decide +kernel
theorem dX12_wrong_14 : decode cX12_wrong 14 = .ok (.ireturn, 1) := by decide +kernel
theorem dX12_wordAt_0 : decode cX12_wordAt 0 = .ok (.iconst 0, 1) := by decide +kernel
theorem dX12_wordAt_1 : decode cX12_wordAt 1 = .ok (.istore_n 3, 1) := by decide +kernel
theorem dX12_wordAt_2 : decode cX12_wordAt 2 = .ok (.iconst 0, 1) := by decide +kernel
theorem dX12_wordAt_3 : decode cX12_wordAt 3 = .ok (.istore 4, 2) := by decide +kernel
theorem dX12_wordAt_5 : decode cX12_wordAt 5 = .ok (.iload 4, 2) := by decide +kernel
theorem dX12_wordAt_7 : decode cX12_wordAt 7 = .ok (.aload_n 0, 1) := by decide +kernel
theorem dX12_wordAt_8 : decode cX12_wordAt 8 = .ok (.getfield 13, 3) := by decide +kernel
theorem dX12_wordAt_11 : decode cX12_wordAt 11 = .ok (.arraylength, 1) := by decide +kernel
theorem dX12_wordAt_12 : decode cX12_wordAt 12 = .ok (.if_icmp .ge 114, 3) := by decide +kernel
theorem dX12_wordAt_15 : decode cX12_wordAt 15 = .ok (.iconst 0, 1) := by decide +kernel
theorem dX12_wordAt_16 : decode cX12_wordAt 16 = .ok (.istore 5, 2) := by decide +kernel
theorem dX12_wordAt_18 : decode cX12_wordAt 18 = .ok (.aload_n 0, 1) := by decide +kernel
theorem dX12_wordAt_19 : decode cX12_wordAt 19 = .ok (.getfield 13, 3) := by decide +kernel
theorem dX12_wordAt_22 : decode cX12_wordAt 22 = .ok (.iload 4, 2) := by decide +kernel
theorem dX12_wordAt_24 : decode cX12_wordAt 24 = .ok (.iload 5, 2) := by decide +kernel
theorem dX12_wordAt_26 : decode cX12_wordAt 26 = .ok (.iadd, 1) := by decide +kernel
theorem dX12_wordAt_27 : decode cX12_wordAt 27 = .ok (.iaload, 1) := by decide +kernel
theorem dX12_wordAt_28 : decode cX12_wordAt 28 = .ok (.bipush 32, 2) := by decide +kernel
theorem dX12_wordAt_30 : decode cX12_wordAt 30 = .ok (.if_icmp .eq 9, 3) := by decide +kernel
theorem dX12_wordAt_33 : decode cX12_wordAt 33 = .ok (.iinc 5 1, 3) := by decide +kernel
theorem dX12_wordAt_36 : decode cX12_wordAt 36 = .ok (.goto (-18), 3) := by decide +kernel
theorem dX12_wordAt_39 : decode cX12_wordAt 39 = .ok (.iload 5, 2) := by decide +kernel
theorem dX12_wordAt_41 : decode cX12_wordAt 41 = .ok (.iload_n 2, 1) := by decide +kernel
theorem dX12_wordAt_42 : decode cX12_wordAt 42 = .ok (.iload_n 1, 1) := by decide +kernel
theorem dX12_wordAt_43 : decode cX12_wordAt 43 = .ok (.isub, 1) := by decide +kernel
theorem dX12_wordAt_44 : decode cX12_wordAt 44 = .ok (.if_icmp .ne 7, 3) := by decide +kernel
theorem dX12_wordAt_47 : decode cX12_wordAt 47 = .ok (.iconst 1, 1) := by decide +kernel
theorem dX12_wordAt_48 : decode cX12_wordAt 48 = .ok (.goto 4, 3) := by decide +kernel
theorem dX12_wordAt_51 : decode cX12_wordAt 51 = .ok (.iconst 0, 1) := by decide +kernel
theorem dX12_wordAt_52 : decode cX12_wordAt 52 = .ok (.istore 6, 2) := by decide +kernel
theorem dX12_wordAt_54 : decode cX12_wordAt 54 = .ok (.iconst 0, 1) := by decide +kernel
theorem dX12_wordAt_55 : decode cX12_wordAt 55 = .ok (.istore 7, 2) := by decide +kernel
theorem dX12_wordAt_57 : decode cX12_wordAt 57 = .ok (.iload 7, 2) := by decide +kernel
theorem dX12_wordAt_59 : decode cX12_wordAt 59 = .ok (.iload 5, 2) := by decide +kernel
theorem dX12_wordAt_61 : decode cX12_wordAt 61 = .ok (.if_icmp .ge 43, 3) := by decide +kernel
theorem dX12_wordAt_64 : decode cX12_wordAt 64 = .ok (.iload 6, 2) := by decide +kernel
theorem dX12_wordAt_66 : decode cX12_wordAt 66 = .ok (.ifCond .eq 38, 3) := by decide +kernel
theorem dX12_wordAt_69 : decode cX12_wordAt 69 = .ok (.aload_n 0, 1) := by decide +kernel
theorem dX12_wordAt_70 : decode cX12_wordAt 70 = .ok (.getfield 13, 3) := by decide +kernel
theorem dX12_wordAt_73 : decode cX12_wordAt 73 = .ok (.iload 4, 2) := by decide +kernel
theorem dX12_wordAt_75 : decode cX12_wordAt 75 = .ok (.iload 7, 2) := by decide +kernel
theorem dX12_wordAt_77 : decode cX12_wordAt 77 = .ok (.iadd, 1) := by decide +kernel
theorem dX12_wordAt_78 : decode cX12_wordAt 78 = .ok (.iaload, 1) := by decide +kernel
theorem dX12_wordAt_79 : decode cX12_wordAt 79 = .ok (.aload_n 0, 1) := by decide +kernel
theorem dX12_wordAt_80 : decode cX12_wordAt 80 = .ok (.getfield 7, 3) := by decide +kernel
theorem dX12_wordAt_83 : decode cX12_wordAt 83 = .ok (.iload_n 1, 1) := by decide +kernel
theorem dX12_wordAt_84 : decode cX12_wordAt 84 = .ok (.iload 7, 2) := by decide +kernel
theorem dX12_wordAt_86 : decode cX12_wordAt 86 = .ok (.iadd, 1) := by decide +kernel
theorem dX12_wordAt_87 : decode cX12_wordAt 87 = .ok (.iaload, 1) := by decide +kernel
theorem dX12_wordAt_88 : decode cX12_wordAt 88 = .ok (.if_icmp .ne 7, 3) := by decide +kernel
theorem dX12_wordAt_91 : decode cX12_wordAt 91 = .ok (.iconst 1, 1) := by decide +kernel
theorem dX12_wordAt_92 : decode cX12_wordAt 92 = .ok (.goto 4, 3) := by decide +kernel
theorem dX12_wordAt_95 : decode cX12_wordAt 95 = .ok (.iconst 0, 1) := by decide +kernel
theorem dX12_wordAt_96 : decode cX12_wordAt 96 = .ok (.istore 6, 2) := by decide +kernel
theorem dX12_wordAt_98 : decode cX12_wordAt 98 = .ok (.iinc 7 1, 3) := by decide +kernel
theorem dX12_wordAt_101 : decode cX12_wordAt 101 = .ok (.goto (-44), 3) := by decide +kernel
theorem dX12_wordAt_104 : decode cX12_wordAt 104 = .ok (.iload 6, 2) := by decide +kernel
theorem dX12_wordAt_106 : decode cX12_wordAt 106 = .ok (.ifCond .eq 5, 3) := by decide +kernel
theorem dX12_wordAt_109 : decode cX12_wordAt 109 = .ok (.iload_n 3, 1) := by decide +kernel
theorem dX12_wordAt_110 : decode cX12_wordAt 110 = .ok (.ireturn, 1) := by decide +kernel
theorem dX12_wordAt_111 : decode cX12_wordAt 111 = .ok (.iload 4, 2) := by decide +kernel
theorem dX12_wordAt_113 : decode cX12_wordAt 113 = .ok (.iload 5, 2) := by decide +kernel
theorem dX12_wordAt_115 : decode cX12_wordAt 115 = .ok (.iconst 1, 1) := by decide +kernel
theorem dX12_wordAt_116 : decode cX12_wordAt 116 = .ok (.iadd, 1) := by decide +kernel
theorem dX12_wordAt_117 : decode cX12_wordAt 117 = .ok (.iadd, 1) := by decide +kernel
theorem dX12_wordAt_118 : decode cX12_wordAt 118 = .ok (.istore 4, 2) := by decide +kernel
theorem dX12_wordAt_120 : decode cX12_wordAt 120 = .ok (.iinc 3 1, 3) := by decide +kernel
theorem dX12_wordAt_123 : decode cX12_wordAt 123 = .ok (.goto (-118), 3) := by decide +kernel
theorem dX12_wordAt_126 : decode cX12_wordAt 126 = .ok (.iconst (-1), 1) := by decide +kernel
theorem dX12_wordAt_127 : decode cX12_wordAt 127 = .ok (.ireturn, 1) := by decide +kernel
theorem dX12_isSmall_0 : decode cX12_isSmall 0 = .ok (.iload_n 1, 1) := by decide +kernel
theorem dX12_isSmall_1 : decode cX12_isSmall 1 = .ok (.aload_n 0, 1) := by decide +kernel
theorem dX12_isSmall_2 : decode cX12_isSmall 2 = .ok (.getfield 166, 3) := by decide +kernel
theorem dX12_isSmall_5 : decode cX12_isSmall 5 = .ok (.if_icmp .ge 29, 3) := by decide +kernel
theorem dX12_isSmall_8 : decode cX12_isSmall 8 = .ok (.aload_n 0, 1) := by decide +kernel
theorem dX12_isSmall_9 : decode cX12_isSmall 9 = .ok (.getfield 7, 3) := by decide +kernel
theorem dX12_isSmall_12 : decode cX12_isSmall 12 = .ok (.iload_n 1, 1) := by decide +kernel
theorem dX12_isSmall_13 : decode cX12_isSmall 13 = .ok (.iaload, 1) := by decide +kernel
theorem dX12_isSmall_14 : decode cX12_isSmall 14 = .ok (.bipush 97, 2) := by decide +kernel
theorem dX12_isSmall_16 : decode cX12_isSmall 16 = .ok (.if_icmp .lt 18, 3) := by decide +kernel
theorem dX12_isSmall_19 : decode cX12_isSmall 19 = .ok (.aload_n 0, 1) := by decide +kernel
theorem dX12_isSmall_20 : decode cX12_isSmall 20 = .ok (.getfield 7, 3) := by decide +kernel
theorem dX12_isSmall_23 : decode cX12_isSmall 23 = .ok (.iload_n 1, 1) := by decide +kernel
theorem dX12_isSmall_24 : decode cX12_isSmall 24 = .ok (.iaload, 1) := by decide +kernel
theorem dX12_isSmall_25 : decode cX12_isSmall 25 = .ok (.bipush 122, 2) := by decide +kernel
theorem dX12_isSmall_27 : decode cX12_isSmall 27 = .ok (.if_icmp .gt 7, 3) := by decide +kernel
theorem dX12_isSmall_30 : decode cX12_isSmall 30 = .ok (.iconst 1, 1) := by decide +kernel
theorem dX12_isSmall_31 : decode cX12_isSmall 31 = .ok (.goto 4, 3) := by decide +kernel
theorem dX12_isSmall_34 : decode cX12_isSmall 34 = .ok (.iconst 0, 1) := by decide +kernel
theorem dX12_isSmall_35 : decode cX12_isSmall 35 = .ok (.ireturn, 1) := by decide +kernel
theorem dX12_isDigit_0 : decode cX12_isDigit 0 = .ok (.iload_n 1, 1) := by decide +kernel
theorem dX12_isDigit_1 : decode cX12_isDigit 1 = .ok (.aload_n 0, 1) := by decide +kernel
theorem dX12_isDigit_2 : decode cX12_isDigit 2 = .ok (.getfield 166, 3) := by decide +kernel
theorem dX12_isDigit_5 : decode cX12_isDigit 5 = .ok (.if_icmp .ge 29, 3) := by decide +kernel
theorem dX12_isDigit_8 : decode cX12_isDigit 8 = .ok (.aload_n 0, 1) := by decide +kernel
theorem dX12_isDigit_9 : decode cX12_isDigit 9 = .ok (.getfield 7, 3) := by decide +kernel
theorem dX12_isDigit_12 : decode cX12_isDigit 12 = .ok (.iload_n 1, 1) := by decide +kernel
theorem dX12_isDigit_13 : decode cX12_isDigit 13 = .ok (.iaload, 1) := by decide +kernel
theorem dX12_isDigit_14 : decode cX12_isDigit 14 = .ok (.bipush 48, 2) := by decide +kernel
theorem dX12_isDigit_16 : decode cX12_isDigit 16 = .ok (.if_icmp .lt 18, 3) := by decide +kernel
theorem dX12_isDigit_19 : decode cX12_isDigit 19 = .ok (.aload_n 0, 1) := by decide +kernel
theorem dX12_isDigit_20 : decode cX12_isDigit 20 = .ok (.getfield 7, 3) := by decide +kernel
theorem dX12_isDigit_23 : decode cX12_isDigit 23 = .ok (.iload_n 1, 1) := by decide +kernel
theorem dX12_isDigit_24 : decode cX12_isDigit 24 = .ok (.iaload, 1) := by decide +kernel
theorem dX12_isDigit_25 : decode cX12_isDigit 25 = .ok (.bipush 57, 2) := by decide +kernel
theorem dX12_isDigit_27 : decode cX12_isDigit 27 = .ok (.if_icmp .gt 7, 3) := by decide +kernel
theorem dX12_isDigit_30 : decode cX12_isDigit 30 = .ok (.iconst 1, 1) := by decide +kernel
theorem dX12_isDigit_31 : decode cX12_isDigit 31 = .ok (.goto 4, 3) := by decide +kernel
theorem dX12_isDigit_34 : decode cX12_isDigit 34 = .ok (.iconst 0, 1) := by decide +kernel
theorem dX12_isDigit_35 : decode cX12_isDigit 35 = .ok (.ireturn, 1) := by decide +kernel
theorem dX12_token_0 : decode cX12_token 0 = .ok (.aload_n 0, 1) := by decide +kernel
theorem dX12_token_1 : decode cX12_token 1 = .ok (.getfield 169, 3) := by decide +kernel
theorem dX12_token_4 : decode cX12_token 4 = .ok (.aload_n 0, 1) := by decide +kernel
theorem dX12_token_5 : decode cX12_token 5 = .ok (.getfield 166, 3) := by decide +kernel
theorem dX12_token_8 : decode cX12_token 8 = .ok (.if_icmp .ge 44, 3) := by decide +kernel
theorem dX12_token_11 : decode cX12_token 11 = .ok (.aload_n 0, 1) := by decide +kernel
theorem dX12_token_12 : decode cX12_token 12 = .ok (.getfield 7, 3) := by decide +kernel
theorem dX12_token_15 : decode cX12_token 15 = .ok (.aload_n 0, 1) := by decide +kernel
theorem dX12_token_16 : decode cX12_token 16 = .ok (.getfield 169, 3) := by decide +kernel
theorem dX12_token_19 : decode cX12_token 19 = .ok (.iaload, 1) := by decide +kernel
theorem dX12_token_20 : decode cX12_token 20 = .ok (.bipush 10, 2) := by decide +kernel
theorem dX12_token_22 : decode cX12_token 22 = .ok (.if_icmp .eq 17, 3) := by decide +kernel
theorem dX12_token_25 : decode cX12_token 25 = .ok (.aload_n 0, 1) := by decide +kernel
theorem dX12_token_26 : decode cX12_token 26 = .ok (.getfield 7, 3) := by decide +kernel
theorem dX12_token_29 : decode cX12_token 29 = .ok (.aload_n 0, 1) := by decide +kernel
theorem dX12_token_30 : decode cX12_token 30 = .ok (.getfield 169, 3) := by decide +kernel
theorem dX12_token_33 : decode cX12_token 33 = .ok (.iaload, 1) := by decide +kernel
theorem dX12_token_34 : decode cX12_token 34 = .ok (.bipush 32, 2) := by decide +kernel
theorem dX12_token_36 : decode cX12_token 36 = .ok (.if_icmp .ne 16, 3) := by decide +kernel
theorem dX12_token_39 : decode cX12_token 39 = .ok (.aload_n 0, 1) := by decide +kernel
theorem dX12_token_40 : decode cX12_token 40 = .ok (.dup, 1) := by decide +kernel
theorem dX12_token_41 : decode cX12_token 41 = .ok (.getfield 169, 3) := by decide +kernel
theorem dX12_token_44 : decode cX12_token 44 = .ok (.iconst 1, 1) := by decide +kernel
theorem dX12_token_45 : decode cX12_token 45 = .ok (.iadd, 1) := by decide +kernel
theorem dX12_token_46 : decode cX12_token 46 = .ok (.putfield 169, 3) := by decide +kernel
theorem dX12_token_49 : decode cX12_token 49 = .ok (.goto (-49), 3) := by decide +kernel
theorem dX12_token_52 : decode cX12_token 52 = .ok (.aload_n 0, 1) := by decide +kernel
theorem dX12_token_53 : decode cX12_token 53 = .ok (.aload_n 0, 1) := by decide +kernel
theorem dX12_token_54 : decode cX12_token 54 = .ok (.getfield 169, 3) := by decide +kernel
theorem dX12_token_57 : decode cX12_token 57 = .ok (.putfield 163, 3) := by decide +kernel
theorem dX12_token_60 : decode cX12_token 60 = .ok (.aload_n 0, 1) := by decide +kernel
theorem dX12_token_61 : decode cX12_token 61 = .ok (.getfield 169, 3) := by decide +kernel
theorem dX12_token_64 : decode cX12_token 64 = .ok (.aload_n 0, 1) := by decide +kernel
theorem dX12_token_65 : decode cX12_token 65 = .ok (.getfield 166, 3) := by decide +kernel
theorem dX12_token_68 : decode cX12_token 68 = .ok (.if_icmp .ne 11, 3) := by decide +kernel
theorem dX12_token_71 : decode cX12_token 71 = .ok (.aload_n 0, 1) := by decide +kernel
theorem dX12_token_72 : decode cX12_token 72 = .ok (.iconst 0, 1) := by decide +kernel
theorem dX12_token_73 : decode cX12_token 73 = .ok (.putfield 172, 3) := by decide +kernel
theorem dX12_token_76 : decode cX12_token 76 = .ok (.goto 205, 3) := by decide +kernel
theorem dX12_token_79 : decode cX12_token 79 = .ok (.aload_n 0, 1) := by decide +kernel
theorem dX12_token_80 : decode cX12_token 80 = .ok (.aload_n 0, 1) := by decide +kernel
theorem dX12_token_81 : decode cX12_token 81 = .ok (.getfield 169, 3) := by decide +kernel
theorem dX12_token_84 : decode cX12_token 84 = .ok (.invokevirtual 175, 3) := by decide +kernel
theorem dX12_token_87 : decode cX12_token 87 = .ok (.ifCond .eq 105, 3) := by decide +kernel
theorem dX12_token_90 : decode cX12_token 90 = .ok (.aload_n 0, 1) := by decide +kernel
theorem dX12_token_91 : decode cX12_token 91 = .ok (.aload_n 0, 1) := by decide +kernel
theorem dX12_token_92 : decode cX12_token 92 = .ok (.getfield 169, 3) := by decide +kernel
theorem dX12_token_95 : decode cX12_token 95 = .ok (.invokevirtual 175, 3) := by decide +kernel
theorem dX12_token_98 : decode cX12_token 98 = .ok (.ifCond .eq 16, 3) := by decide +kernel
theorem dX12_token_101 : decode cX12_token 101 = .ok (.aload_n 0, 1) := by decide +kernel
theorem dX12_token_102 : decode cX12_token 102 = .ok (.dup, 1) := by decide +kernel
theorem dX12_token_103 : decode cX12_token 103 = .ok (.getfield 169, 3) := by decide +kernel
theorem dX12_token_106 : decode cX12_token 106 = .ok (.iconst 1, 1) := by decide +kernel
theorem dX12_token_107 : decode cX12_token 107 = .ok (.iadd, 1) := by decide +kernel
theorem dX12_token_108 : decode cX12_token 108 = .ok (.putfield 169, 3) := by decide +kernel
theorem dX12_token_111 : decode cX12_token 111 = .ok (.goto (-21), 3) := by decide +kernel
theorem dX12_token_114 : decode cX12_token 114 = .ok (.aload_n 0, 1) := by decide +kernel
theorem dX12_token_115 : decode cX12_token 115 = .ok (.aload_n 0, 1) := by decide +kernel
theorem dX12_token_116 : decode cX12_token 116 = .ok (.aload_n 0, 1) := by decide +kernel
theorem dX12_token_117 : decode cX12_token 117 = .ok (.getfield 163, 3) := by decide +kernel
theorem dX12_token_120 : decode cX12_token 120 = .ok (.aload_n 0, 1) := by decide +kernel
theorem dX12_token_121 : decode cX12_token 121 = .ok (.getfield 169, 3) := by decide +kernel
theorem dX12_token_124 : decode cX12_token 124 = .ok (.invokevirtual 179, 3) := by decide +kernel
theorem dX12_token_127 : decode cX12_token 127 = .ok (.putfield 183, 3) := by decide +kernel
theorem dX12_token_130 : decode cX12_token 130 = .ok (.aload_n 0, 1) := by decide +kernel
theorem dX12_token_131 : decode cX12_token 131 = .ok (.aload_n 0, 1) := by decide +kernel
theorem dX12_token_132 : decode cX12_token 132 = .ok (.getfield 183, 3) := by decide +kernel
theorem dX12_token_135 : decode cX12_token 135 = .ok (.ifCond .lt 7, 3) := by decide +kernel
theorem dX12_token_138 : decode cX12_token 138 = .ok (.iconst 1, 1) := by decide +kernel
theorem dX12_token_139 : decode cX12_token 139 = .ok (.goto 23, 3) := by decide +kernel
theorem dX12_token_142 : decode cX12_token 142 = .ok (.aload_n 0, 1) := by decide +kernel
theorem dX12_token_143 : decode cX12_token 143 = .ok (.getfield 169, 3) := by decide +kernel
theorem dX12_token_146 : decode cX12_token 146 = .ok (.aload_n 0, 1) := by decide +kernel
theorem dX12_token_147 : decode cX12_token 147 = .ok (.getfield 163, 3) := by decide +kernel
theorem dX12_token_150 : decode cX12_token 150 = .ok (.isub, 1) := by decide +kernel
theorem dX12_token_151 : decode cX12_token 151 = .ok (.bipush 6, 2) := by decide +kernel
theorem dX12_token_153 : decode cX12_token 153 = .ok (.if_icmp .le 8, 3) := by decide +kernel
theorem dX12_token_156 : decode cX12_token 156 = .ok (.bipush 6, 2) := by decide +kernel
theorem dX12_token_158 : decode cX12_token 158 = .ok (.goto 4, 3) := by decide +kernel
theorem dX12_token_161 : decode cX12_token 161 = .ok (.iconst 2, 1) := by decide +kernel
theorem dX12_token_162 : decode cX12_token 162 = .ok (.putfield 172, 3) := by decide +kernel
theorem dX12_token_165 : decode cX12_token 165 = .ok (.aload_n 0, 1) := by decide +kernel
theorem dX12_token_166 : decode cX12_token 166 = .ok (.getfield 172, 3) := by decide +kernel
theorem dX12_token_169 : decode cX12_token 169 = .ok (.iconst 2, 1) := by decide +kernel
theorem dX12_token_170 : decode cX12_token 170 = .ok (.if_icmp .ne 111, 3) := by decide +kernel
theorem dX12_token_173 : decode cX12_token 173 = .ok (.aload_n 0, 1) := by decide +kernel
theorem dX12_token_174 : decode cX12_token 174 = .ok (.aload_n 0, 1) := by decide +kernel
theorem dX12_token_175 : decode cX12_token 175 = .ok (.aload_n 0, 1) := by decide +kernel
theorem dX12_token_176 : decode cX12_token 176 = .ok (.getfield 163, 3) := by decide +kernel
theorem dX12_token_179 : decode cX12_token 179 = .ok (.aload_n 0, 1) := by decide +kernel
theorem dX12_token_180 : decode cX12_token 180 = .ok (.getfield 169, 3) := by decide +kernel
theorem dX12_token_183 : decode cX12_token 183 = .ok (.invokevirtual 186, 3) := by decide +kernel
theorem dX12_token_186 : decode cX12_token 186 = .ok (.putfield 183, 3) := by decide +kernel
theorem dX12_token_189 : decode cX12_token 189 = .ok (.goto 92, 3) := by decide +kernel
theorem dX12_token_192 : decode cX12_token 192 = .ok (.aload_n 0, 1) := by decide +kernel
theorem dX12_token_193 : decode cX12_token 193 = .ok (.aload_n 0, 1) := by decide +kernel
theorem dX12_token_194 : decode cX12_token 194 = .ok (.getfield 169, 3) := by decide +kernel
theorem dX12_token_197 : decode cX12_token 197 = .ok (.invokevirtual 189, 3) := by decide +kernel
theorem dX12_token_200 : decode cX12_token 200 = .ok (.ifCond .eq 77, 3) := by decide +kernel
theorem dX12_token_203 : decode cX12_token 203 = .ok (.aload_n 0, 1) := by decide +kernel
theorem dX12_token_204 : decode cX12_token 204 = .ok (.iconst 3, 1) := by decide +kernel
theorem dX12_token_205 : decode cX12_token 205 = .ok (.putfield 172, 3) := by decide +kernel
theorem dX12_token_208 : decode cX12_token 208 = .ok (.aload_n 0, 1) := by decide +kernel
theorem dX12_token_209 : decode cX12_token 209 = .ok (.iconst 0, 1) := by decide +kernel
theorem dX12_token_210 : decode cX12_token 210 = .ok (.putfield 183, 3) := by decide +kernel
theorem dX12_token_213 : decode cX12_token 213 = .ok (.aload_n 0, 1) := by decide +kernel
theorem dX12_token_214 : decode cX12_token 214 = .ok (.aload_n 0, 1) := by decide +kernel
theorem dX12_token_215 : decode cX12_token 215 = .ok (.getfield 169, 3) := by decide +kernel
theorem dX12_token_218 : decode cX12_token 218 = .ok (.invokevirtual 189, 3) := by decide +kernel
theorem dX12_token_221 : decode cX12_token 221 = .ok (.ifCond .eq 60, 3) := by decide +kernel
theorem dX12_token_224 : decode cX12_token 224 = .ok (.aload_n 0, 1) := by decide +kernel
theorem dX12_token_225 : decode cX12_token 225 = .ok (.aload_n 0, 1) := by decide +kernel
theorem dX12_token_226 : decode cX12_token 226 = .ok (.getfield 183, 3) := by decide +kernel
theorem dX12_token_229 : decode cX12_token 229 = .ok (.ldc 192, 2) := by decide +kernel
theorem dX12_token_231 : decode cX12_token 231 = .ok (.if_icmp .le 10, 3) := by decide +kernel
theorem dX12_token_234 : decode cX12_token 234 = .ok (.aload_n 0, 1) := by decide +kernel
theorem dX12_token_235 : decode cX12_token 235 = .ok (.getfield 183, 3) := by decide +kernel
theorem dX12_token_238 : decode cX12_token 238 = .ok (.goto 23, 3) := by decide +kernel
theorem dX12_token_241 : decode cX12_token 241 = .ok (.bipush 10, 2) := by decide +kernel
theorem dX12_token_243 : decode cX12_token 243 = .ok (.aload_n 0, 1) := by decide +kernel
theorem dX12_token_244 : decode cX12_token 244 = .ok (.getfield 183, 3) := by decide +kernel
theorem dX12_token_247 : decode cX12_token 247 = .ok (.imul, 1) := by decide +kernel
theorem dX12_token_248 : decode cX12_token 248 = .ok (.aload_n 0, 1) := by decide +kernel
theorem dX12_token_249 : decode cX12_token 249 = .ok (.getfield 7, 3) := by decide +kernel
theorem dX12_token_252 : decode cX12_token 252 = .ok (.aload_n 0, 1) := by decide +kernel
theorem dX12_token_253 : decode cX12_token 253 = .ok (.getfield 169, 3) := by decide +kernel
theorem dX12_token_256 : decode cX12_token 256 = .ok (.iaload, 1) := by decide +kernel
theorem dX12_token_257 : decode cX12_token 257 = .ok (.iadd, 1) := by decide +kernel
theorem dX12_token_258 : decode cX12_token 258 = .ok (.bipush 48, 2) := by decide +kernel
theorem dX12_token_260 : decode cX12_token 260 = .ok (.isub, 1) := by decide +kernel
theorem dX12_token_261 : decode cX12_token 261 = .ok (.putfield 183, 3) := by decide +kernel
theorem dX12_token_264 : decode cX12_token 264 = .ok (.aload_n 0, 1) := by decide +kernel
theorem dX12_token_265 : decode cX12_token 265 = .ok (.dup, 1) := by decide +kernel
theorem dX12_token_266 : decode cX12_token 266 = .ok (.getfield 169, 3) := by decide +kernel
theorem dX12_token_269 : decode cX12_token 269 = .ok (.iconst 1, 1) := by decide +kernel
theorem dX12_token_270 : decode cX12_token 270 = .ok (.iadd, 1) := by decide +kernel
theorem dX12_token_271 : decode cX12_token 271 = .ok (.putfield 169, 3) := by decide +kernel
theorem dX12_token_274 : decode cX12_token 274 = .ok (.goto (-61), 3) := by decide +kernel
theorem dX12_token_277 : decode cX12_token 277 = .ok (.aload_n 0, 1) := by decide +kernel
theorem dX12_token_278 : decode cX12_token 278 = .ok (.invokevirtual 193, 3) := by decide +kernel
theorem dX12_token_281 : decode cX12_token 281 = .ok (.return_, 1) := by decide +kernel
theorem dX12_signToken_0 : decode cX12_signToken 0 = .ok (.aload_n 0, 1) := by decide +kernel
theorem dX12_signToken_1 : decode cX12_signToken 1 = .ok (.aload_n 0, 1) := by decide +kernel
theorem dX12_signToken_2 : decode cX12_signToken 2 = .ok (.getfield 7, 3) := by decide +kernel
theorem dX12_signToken_5 : decode cX12_signToken 5 = .ok (.aload_n 0, 1) := by decide +kernel
theorem dX12_signToken_6 : decode cX12_signToken 6 = .ok (.getfield 169, 3) := by decide +kernel
theorem dX12_signToken_9 : decode cX12_signToken 9 = .ok (.iaload, 1) := by decide +kernel
theorem dX12_signToken_10 : decode cX12_signToken 10 = .ok (.putfield 183, 3) := by decide +kernel
theorem dX12_signToken_13 : decode cX12_signToken 13 = .ok (.aload_n 0, 1) := by decide +kernel
theorem dX12_signToken_14 : decode cX12_signToken 14 = .ok (.dup, 1) := by decide +kernel
theorem dX12_signToken_15 : decode cX12_signToken 15 = .ok (.getfield 169, 3) := by decide +kernel
theorem dX12_signToken_18 : decode cX12_signToken 18 = .ok (.iconst 1, 1) := by decide +kernel
theorem dX12_signToken_19 : decode cX12_signToken 19 = .ok (.iadd, 1) := by decide +kernel
theorem dX12_signToken_20 : decode cX12_signToken 20 = .ok (.putfield 169, 3) := by decide +kernel
theorem dX12_signToken_23 : decode cX12_signToken 23 = .ok (.aload_n 0, 1) := by decide +kernel
theorem dX12_signToken_24 : decode cX12_signToken 24 = .ok (.getfield 183, 3) := by decide +kernel
theorem dX12_signToken_27 : decode cX12_signToken 27 = .ok (.bipush 60, 2) := by decide +kernel
theorem dX12_signToken_29 : decode cX12_signToken 29 = .ok (.if_icmp .eq 21, 3) := by decide +kernel
theorem dX12_signToken_32 : decode cX12_signToken 32 = .ok (.aload_n 0, 1) := by decide +kernel
theorem dX12_signToken_33 : decode cX12_signToken 33 = .ok (.getfield 183, 3) := by decide +kernel
theorem dX12_signToken_36 : decode cX12_signToken 36 = .ok (.bipush 62, 2) := by decide +kernel
theorem dX12_signToken_38 : decode cX12_signToken 38 = .ok (.if_icmp .eq 12, 3) := by decide +kernel
theorem dX12_signToken_41 : decode cX12_signToken 41 = .ok (.aload_n 0, 1) := by decide +kernel
theorem dX12_signToken_42 : decode cX12_signToken 42 = .ok (.getfield 183, 3) := by decide +kernel
theorem dX12_signToken_45 : decode cX12_signToken 45 = .ok (.bipush 61, 2) := by decide +kernel
theorem dX12_signToken_47 : decode cX12_signToken 47 = .ok (.if_icmp .ne 151, 3) := by decide +kernel
theorem dX12_signToken_50 : decode cX12_signToken 50 = .ok (.aload_n 0, 1) := by decide +kernel
theorem dX12_signToken_51 : decode cX12_signToken 51 = .ok (.getfield 169, 3) := by decide +kernel
theorem dX12_signToken_54 : decode cX12_signToken 54 = .ok (.aload_n 0, 1) := by decide +kernel
theorem dX12_signToken_55 : decode cX12_signToken 55 = .ok (.getfield 166, 3) := by decide +kernel
theorem dX12_signToken_58 : decode cX12_signToken 58 = .ok (.if_icmp .ge 15, 3) := by decide +kernel
theorem dX12_signToken_61 : decode cX12_signToken 61 = .ok (.aload_n 0, 1) := by decide +kernel
theorem dX12_signToken_62 : decode cX12_signToken 62 = .ok (.getfield 7, 3) := by decide +kernel
theorem dX12_signToken_65 : decode cX12_signToken 65 = .ok (.aload_n 0, 1) := by decide +kernel
theorem dX12_signToken_66 : decode cX12_signToken 66 = .ok (.getfield 169, 3) := by decide +kernel
theorem dX12_signToken_69 : decode cX12_signToken 69 = .ok (.iaload, 1) := by decide +kernel
theorem dX12_signToken_70 : decode cX12_signToken 70 = .ok (.goto 4, 3) := by decide +kernel
theorem dX12_signToken_73 : decode cX12_signToken 73 = .ok (.iconst 0, 1) := by decide +kernel
theorem dX12_signToken_74 : decode cX12_signToken 74 = .ok (.istore_n 1, 1) := by decide +kernel
theorem dX12_signToken_75 : decode cX12_signToken 75 = .ok (.aload_n 0, 1) := by decide +kernel
theorem dX12_signToken_76 : decode cX12_signToken 76 = .ok (.getfield 183, 3) := by decide +kernel
theorem dX12_signToken_79 : decode cX12_signToken 79 = .ok (.bipush 61, 2) := by decide +kernel
theorem dX12_signToken_81 : decode cX12_signToken 81 = .ok (.if_icmp .eq 13, 3) := by decide +kernel
theorem dX12_signToken_84 : decode cX12_signToken 84 = .ok (.iload_n 1, 1) := by decide +kernel
theorem dX12_signToken_85 : decode cX12_signToken 85 = .ok (.bipush 61, 2) := by decide +kernel
theorem dX12_signToken_87 : decode cX12_signToken 87 = .ok (.if_icmp .ne 7, 3) := by decide +kernel
theorem dX12_signToken_90 : decode cX12_signToken 90 = .ok (.iconst 1, 1) := by decide +kernel
theorem dX12_signToken_91 : decode cX12_signToken 91 = .ok (.goto 4, 3) := by decide +kernel
theorem dX12_signToken_94 : decode cX12_signToken 94 = .ok (.iconst 0, 1) := by decide +kernel
theorem dX12_signToken_95 : decode cX12_signToken 95 = .ok (.istore_n 2, 1) := by decide +kernel
theorem dX12_signToken_96 : decode cX12_signToken 96 = .ok (.aload_n 0, 1) := by decide +kernel
theorem dX12_signToken_97 : decode cX12_signToken 97 = .ok (.getfield 183, 3) := by decide +kernel
theorem dX12_signToken_100 : decode cX12_signToken 100 = .ok (.bipush 60, 2) := by decide +kernel
theorem dX12_signToken_102 : decode cX12_signToken 102 = .ok (.if_icmp .ne 13, 3) := by decide +kernel
theorem dX12_signToken_105 : decode cX12_signToken 105 = .ok (.iload_n 1, 1) := by decide +kernel
theorem dX12_signToken_106 : decode cX12_signToken 106 = .ok (.bipush 62, 2) := by decide +kernel
theorem dX12_signToken_108 : decode cX12_signToken 108 = .ok (.if_icmp .ne 7, 3) := by decide +kernel
theorem dX12_signToken_111 : decode cX12_signToken 111 = .ok (.iconst 1, 1) := by decide +kernel
theorem dX12_signToken_112 : decode cX12_signToken 112 = .ok (.goto 4, 3) := by decide +kernel
theorem dX12_signToken_115 : decode cX12_signToken 115 = .ok (.iconst 0, 1) := by decide +kernel
theorem dX12_signToken_116 : decode cX12_signToken 116 = .ok (.istore_n 3, 1) := by decide +kernel
theorem dX12_signToken_117 : decode cX12_signToken 117 = .ok (.iload_n 2, 1) := by decide +kernel
theorem dX12_signToken_118 : decode cX12_signToken 118 = .ok (.ifCond .ne 7, 3) := by decide +kernel
theorem dX12_signToken_121 : decode cX12_signToken 121 = .ok (.iload_n 3, 1) := by decide +kernel
theorem dX12_signToken_122 : decode cX12_signToken 122 = .ok (.ifCond .eq 13, 3) := by decide +kernel
theorem dX12_signToken_125 : decode cX12_signToken 125 = .ok (.aload_n 0, 1) := by decide +kernel
theorem dX12_signToken_126 : decode cX12_signToken 126 = .ok (.dup, 1) := by decide +kernel
theorem dX12_signToken_127 : decode cX12_signToken 127 = .ok (.getfield 169, 3) := by decide +kernel
theorem dX12_signToken_130 : decode cX12_signToken 130 = .ok (.iconst 1, 1) := by decide +kernel
theorem dX12_signToken_131 : decode cX12_signToken 131 = .ok (.iadd, 1) := by decide +kernel
theorem dX12_signToken_132 : decode cX12_signToken 132 = .ok (.putfield 169, 3) := by decide +kernel
theorem dX12_signToken_135 : decode cX12_signToken 135 = .ok (.aload_n 0, 1) := by decide +kernel
theorem dX12_signToken_136 : decode cX12_signToken 136 = .ok (.iconst 5, 1) := by decide +kernel
theorem dX12_signToken_137 : decode cX12_signToken 137 = .ok (.putfield 172, 3) := by decide +kernel
theorem dX12_signToken_140 : decode cX12_signToken 140 = .ok (.aload_n 0, 1) := by decide +kernel
theorem dX12_signToken_141 : decode cX12_signToken 141 = .ok (.aload_n 0, 1) := by decide +kernel
theorem dX12_signToken_142 : decode cX12_signToken 142 = .ok (.getfield 183, 3) := by decide +kernel
theorem dX12_signToken_145 : decode cX12_signToken 145 = .ok (.bipush 61, 2) := by decide +kernel
theorem dX12_signToken_147 : decode cX12_signToken 147 = .ok (.if_icmp .ne 7, 3) := by decide +kernel
theorem dX12_signToken_150 : decode cX12_signToken 150 = .ok (.iconst 2, 1) := by decide +kernel
theorem dX12_signToken_151 : decode cX12_signToken 151 = .ok (.goto 41, 3) := by decide +kernel
theorem dX12_signToken_154 : decode cX12_signToken 154 = .ok (.aload_n 0, 1) := by decide +kernel
theorem dX12_signToken_155 : decode cX12_signToken 155 = .ok (.getfield 183, 3) := by decide +kernel
theorem dX12_signToken_158 : decode cX12_signToken 158 = .ok (.bipush 60, 2) := by decide +kernel
theorem dX12_signToken_160 : decode cX12_signToken 160 = .ok (.if_icmp .ne 23, 3) := by decide +kernel
theorem dX12_signToken_163 : decode cX12_signToken 163 = .ok (.iload_n 2, 1) := by decide +kernel
theorem dX12_signToken_164 : decode cX12_signToken 164 = .ok (.ifCond .eq 7, 3) := by decide +kernel
theorem dX12_signToken_167 : decode cX12_signToken 167 = .ok (.iconst 1, 1) := by decide +kernel
theorem dX12_signToken_168 : decode cX12_signToken 168 = .ok (.goto 24, 3) := by decide +kernel
theorem dX12_signToken_171 : decode cX12_signToken 171 = .ok (.iload_n 3, 1) := by decide +kernel
theorem dX12_signToken_172 : decode cX12_signToken 172 = .ok (.ifCond .eq 7, 3) := by decide +kernel
theorem dX12_signToken_175 : decode cX12_signToken 175 = .ok (.iconst 3, 1) := by decide +kernel
theorem dX12_signToken_176 : decode cX12_signToken 176 = .ok (.goto 16, 3) := by decide +kernel
theorem dX12_signToken_179 : decode cX12_signToken 179 = .ok (.iconst 0, 1) := by decide +kernel
theorem dX12_signToken_180 : decode cX12_signToken 180 = .ok (.goto 12, 3) := by decide +kernel
theorem dX12_signToken_183 : decode cX12_signToken 183 = .ok (.iload_n 2, 1) := by decide +kernel
theorem dX12_signToken_184 : decode cX12_signToken 184 = .ok (.ifCond .eq 7, 3) := by decide +kernel
theorem dX12_signToken_187 : decode cX12_signToken 187 = .ok (.iconst 4, 1) := by decide +kernel
theorem dX12_signToken_188 : decode cX12_signToken 188 = .ok (.goto 4, 3) := by decide +kernel
theorem dX12_signToken_191 : decode cX12_signToken 191 = .ok (.iconst 5, 1) := by decide +kernel
theorem dX12_signToken_192 : decode cX12_signToken 192 = .ok (.putfield 183, 3) := by decide +kernel
theorem dX12_signToken_195 : decode cX12_signToken 195 = .ok (.goto 95, 3) := by decide +kernel
theorem dX12_signToken_198 : decode cX12_signToken 198 = .ok (.aload_n 0, 1) := by decide +kernel
theorem dX12_signToken_199 : decode cX12_signToken 199 = .ok (.getfield 183, 3) := by decide +kernel
theorem dX12_signToken_202 : decode cX12_signToken 202 = .ok (.bipush 59, 2) := by decide +kernel
theorem dX12_signToken_204 : decode cX12_signToken 204 = .ok (.if_icmp .eq 66, 3) := by decide +kernel
theorem dX12_signToken_207 : decode cX12_signToken 207 = .ok (.aload_n 0, 1) := by decide +kernel
theorem dX12_signToken_208 : decode cX12_signToken 208 = .ok (.getfield 183, 3) := by decide +kernel
theorem dX12_signToken_211 : decode cX12_signToken 211 = .ok (.bipush 40, 2) := by decide +kernel
theorem dX12_signToken_213 : decode cX12_signToken 213 = .ok (.if_icmp .eq 57, 3) := by decide +kernel
theorem dX12_signToken_216 : decode cX12_signToken 216 = .ok (.aload_n 0, 1) := by decide +kernel
theorem dX12_signToken_217 : decode cX12_signToken 217 = .ok (.getfield 183, 3) := by decide +kernel
theorem dX12_signToken_220 : decode cX12_signToken 220 = .ok (.bipush 41, 2) := by decide +kernel
theorem dX12_signToken_222 : decode cX12_signToken 222 = .ok (.if_icmp .eq 48, 3) := by decide +kernel
theorem dX12_signToken_225 : decode cX12_signToken 225 = .ok (.aload_n 0, 1) := by decide +kernel
theorem dX12_signToken_226 : decode cX12_signToken 226 = .ok (.getfield 183, 3) := by decide +kernel
theorem dX12_signToken_229 : decode cX12_signToken 229 = .ok (.bipush 43, 2) := by decide +kernel
theorem dX12_signToken_231 : decode cX12_signToken 231 = .ok (.if_icmp .eq 39, 3) := by decide +kernel
theorem dX12_signToken_234 : decode cX12_signToken 234 = .ok (.aload_n 0, 1) := by decide +kernel
theorem dX12_signToken_235 : decode cX12_signToken 235 = .ok (.getfield 183, 3) := by decide +kernel
theorem dX12_signToken_238 : decode cX12_signToken 238 = .ok (.bipush 45, 2) := by decide +kernel
theorem dX12_signToken_240 : decode cX12_signToken 240 = .ok (.if_icmp .eq 30, 3) := by decide +kernel
theorem dX12_signToken_243 : decode cX12_signToken 243 = .ok (.aload_n 0, 1) := by decide +kernel
theorem dX12_signToken_244 : decode cX12_signToken 244 = .ok (.getfield 183, 3) := by decide +kernel
theorem dX12_signToken_247 : decode cX12_signToken 247 = .ok (.bipush 42, 2) := by decide +kernel
theorem dX12_signToken_249 : decode cX12_signToken 249 = .ok (.if_icmp .eq 21, 3) := by decide +kernel
theorem dX12_signToken_252 : decode cX12_signToken 252 = .ok (.aload_n 0, 1) := by decide +kernel
theorem dX12_signToken_253 : decode cX12_signToken 253 = .ok (.getfield 183, 3) := by decide +kernel
theorem dX12_signToken_256 : decode cX12_signToken 256 = .ok (.bipush 47, 2) := by decide +kernel
theorem dX12_signToken_258 : decode cX12_signToken 258 = .ok (.if_icmp .eq 12, 3) := by decide +kernel
theorem dX12_signToken_261 : decode cX12_signToken 261 = .ok (.aload_n 0, 1) := by decide +kernel
theorem dX12_signToken_262 : decode cX12_signToken 262 = .ok (.getfield 183, 3) := by decide +kernel
theorem dX12_signToken_265 : decode cX12_signToken 265 = .ok (.bipush 37, 2) := by decide +kernel
theorem dX12_signToken_267 : decode cX12_signToken 267 = .ok (.if_icmp .ne 7, 3) := by decide +kernel
theorem dX12_signToken_270 : decode cX12_signToken 270 = .ok (.iconst 1, 1) := by decide +kernel
theorem dX12_signToken_271 : decode cX12_signToken 271 = .ok (.goto 4, 3) := by decide +kernel
theorem dX12_signToken_274 : decode cX12_signToken 274 = .ok (.iconst 0, 1) := by decide +kernel
theorem dX12_signToken_275 : decode cX12_signToken 275 = .ok (.istore_n 1, 1) := by decide +kernel
theorem dX12_signToken_276 : decode cX12_signToken 276 = .ok (.aload_n 0, 1) := by decide +kernel
theorem dX12_signToken_277 : decode cX12_signToken 277 = .ok (.iload_n 1, 1) := by decide +kernel
theorem dX12_signToken_278 : decode cX12_signToken 278 = .ok (.ifCond .eq 7, 3) := by decide +kernel
theorem dX12_signToken_281 : decode cX12_signToken 281 = .ok (.iconst 4, 1) := by decide +kernel
theorem dX12_signToken_282 : decode cX12_signToken 282 = .ok (.goto 5, 3) := by decide +kernel
theorem dX12_signToken_285 : decode cX12_signToken 285 = .ok (.bipush 6, 2) := by decide +kernel
theorem dX12_signToken_287 : decode cX12_signToken 287 = .ok (.putfield 172, 3) := by decide +kernel
theorem dX12_signToken_290 : decode cX12_signToken 290 = .ok (.return_, 1) := by decide +kernel
theorem dX12_packed_0 : decode cX12_packed 0 = .ok (.iconst 0, 1) := by decide +kernel
theorem dX12_packed_1 : decode cX12_packed 1 = .ok (.istore_n 3, 1) := by decide +kernel
theorem dX12_packed_2 : decode cX12_packed 2 = .ok (.iload_n 1, 1) := by decide +kernel
theorem dX12_packed_3 : decode cX12_packed 3 = .ok (.istore 4, 2) := by decide +kernel
theorem dX12_packed_5 : decode cX12_packed 5 = .ok (.iload 4, 2) := by decide +kernel
theorem dX12_packed_7 : decode cX12_packed 7 = .ok (.iload_n 1, 1) := by decide +kernel
theorem dX12_packed_8 : decode cX12_packed 8 = .ok (.bipush 6, 2) := by decide +kernel
theorem dX12_packed_10 : decode cX12_packed 10 = .ok (.iadd, 1) := by decide +kernel
theorem dX12_packed_11 : decode cX12_packed 11 = .ok (.if_icmp .ge 34, 3) := by decide +kernel
theorem dX12_packed_14 : decode cX12_packed 14 = .ok (.iload_n 3, 1) := by decide +kernel
theorem dX12_packed_15 : decode cX12_packed 15 = .ok (.iconst 5, 1) := by decide +kernel
theorem dX12_packed_16 : decode cX12_packed 16 = .ok (.ishl, 1) := by decide +kernel
theorem dX12_packed_17 : decode cX12_packed 17 = .ok (.iload 4, 2) := by decide +kernel
theorem dX12_packed_19 : decode cX12_packed 19 = .ok (.iload_n 2, 1) := by decide +kernel
theorem dX12_packed_20 : decode cX12_packed 20 = .ok (.if_icmp .ge 16, 3) := by decide +kernel
theorem dX12_packed_23 : decode cX12_packed 23 = .ok (.aload_n 0, 1) := by decide +kernel
theorem dX12_packed_24 : decode cX12_packed 24 = .ok (.getfield 7, 3) := by decide +kernel
theorem dX12_packed_27 : decode cX12_packed 27 = .ok (.iload 4, 2) := by decide +kernel
theorem dX12_packed_29 : decode cX12_packed 29 = .ok (.iaload, 1) := by decide +kernel
theorem dX12_packed_30 : decode cX12_packed 30 = .ok (.bipush 96, 2) := by decide +kernel
theorem dX12_packed_32 : decode cX12_packed 32 = .ok (.isub, 1) := by decide +kernel
theorem dX12_packed_33 : decode cX12_packed 33 = .ok (.goto 4, 3) := by decide +kernel
theorem dX12_packed_36 : decode cX12_packed 36 = .ok (.iconst 0, 1) := by decide +kernel
theorem dX12_packed_37 : decode cX12_packed 37 = .ok (.ior, 1) := by decide +kernel
theorem dX12_packed_38 : decode cX12_packed 38 = .ok (.istore_n 3, 1) := by decide +kernel
theorem dX12_packed_39 : decode cX12_packed 39 = .ok (.iinc 4 1, 3) := by decide +kernel
theorem dX12_packed_42 : decode cX12_packed 42 = .ok (.goto (-37), 3) := by decide +kernel
theorem dX12_packed_45 : decode cX12_packed 45 = .ok (.iload_n 3, 1) := by decide +kernel
theorem dX12_packed_46 : decode cX12_packed 46 = .ok (.ireturn, 1) := by decide +kernel
theorem dX12_isKey_0 : decode cX12_isKey 0 = .ok (.aload_n 0, 1) := by decide +kernel
theorem dX12_isKey_1 : decode cX12_isKey 1 = .ok (.getfield 172, 3) := by decide +kernel
theorem dX12_isKey_4 : decode cX12_isKey 4 = .ok (.iconst 1, 1) := by decide +kernel
theorem dX12_isKey_5 : decode cX12_isKey 5 = .ok (.if_icmp .ne 15, 3) := by decide +kernel
theorem dX12_isKey_8 : decode cX12_isKey 8 = .ok (.aload_n 0, 1) := by decide +kernel
theorem dX12_isKey_9 : decode cX12_isKey 9 = .ok (.getfield 183, 3) := by decide +kernel
theorem dX12_isKey_12 : decode cX12_isKey 12 = .ok (.iload_n 1, 1) := by decide +kernel
theorem dX12_isKey_13 : decode cX12_isKey 13 = .ok (.if_icmp .ne 7, 3) := by decide +kernel
theorem dX12_isKey_16 : decode cX12_isKey 16 = .ok (.iconst 1, 1) := by decide +kernel
theorem dX12_isKey_17 : decode cX12_isKey 17 = .ok (.goto 4, 3) := by decide +kernel
theorem dX12_isKey_20 : decode cX12_isKey 20 = .ok (.iconst 0, 1) := by decide +kernel
theorem dX12_isKey_21 : decode cX12_isKey 21 = .ok (.ireturn, 1) := by decide +kernel
theorem dX12_isSign_0 : decode cX12_isSign 0 = .ok (.aload_n 0, 1) := by decide +kernel
theorem dX12_isSign_1 : decode cX12_isSign 1 = .ok (.getfield 172, 3) := by decide +kernel
theorem dX12_isSign_4 : decode cX12_isSign 4 = .ok (.iconst 4, 1) := by decide +kernel
theorem dX12_isSign_5 : decode cX12_isSign 5 = .ok (.if_icmp .ne 15, 3) := by decide +kernel
theorem dX12_isSign_8 : decode cX12_isSign 8 = .ok (.aload_n 0, 1) := by decide +kernel
theorem dX12_isSign_9 : decode cX12_isSign 9 = .ok (.getfield 183, 3) := by decide +kernel
theorem dX12_isSign_12 : decode cX12_isSign 12 = .ok (.iload_n 1, 1) := by decide +kernel
theorem dX12_isSign_13 : decode cX12_isSign 13 = .ok (.if_icmp .ne 7, 3) := by decide +kernel
theorem dX12_isSign_16 : decode cX12_isSign 16 = .ok (.iconst 1, 1) := by decide +kernel
theorem dX12_isSign_17 : decode cX12_isSign 17 = .ok (.goto 4, 3) := by decide +kernel
theorem dX12_isSign_20 : decode cX12_isSign 20 = .ok (.iconst 0, 1) := by decide +kernel
theorem dX12_isSign_21 : decode cX12_isSign 21 = .ok (.ireturn, 1) := by decide +kernel
theorem dX12_number_0 : decode cX12_number 0 = .ok (.aload_n 0, 1) := by decide +kernel
theorem dX12_number_1 : decode cX12_number 1 = .ok (.getfield 172, 3) := by decide +kernel
theorem dX12_number_4 : decode cX12_number 4 = .ok (.iconst 3, 1) := by decide +kernel
theorem dX12_number_5 : decode cX12_number 5 = .ok (.if_icmp .eq 9, 3) := by decide +kernel
theorem dX12_number_8 : decode cX12_number 8 = .ok (.aload_n 0, 1) := by decide +kernel
theorem dX12_number_9 : decode cX12_number 9 = .ok (.iconst 1, 1) := by decide +kernel
theorem dX12_number_10 : decode cX12_number 10 = .ok (.invokevirtual 196, 3) := by decide +kernel
theorem dX12_number_13 : decode cX12_number 13 = .ok (.ireturn, 1) := by decide +kernel
theorem dX12_number_14 : decode cX12_number 14 = .ok (.aload_n 0, 1) := by decide +kernel
theorem dX12_number_15 : decode cX12_number 15 = .ok (.getfield 183, 3) := by decide +kernel
theorem dX12_number_18 : decode cX12_number 18 = .ok (.iload_n 1, 1) := by decide +kernel
theorem dX12_number_19 : decode cX12_number 19 = .ok (.iload_n 2, 1) := by decide +kernel
theorem dX12_number_20 : decode cX12_number 20 = .ok (.invokestatic 199, 3) := by decide +kernel
theorem dX12_number_23 : decode cX12_number 23 = .ok (.ifCond .ne 9, 3) := by decide +kernel
theorem dX12_number_26 : decode cX12_number 26 = .ok (.aload_n 0, 1) := by decide +kernel
theorem dX12_number_27 : decode cX12_number 27 = .ok (.iconst 2, 1) := by decide +kernel
theorem dX12_number_28 : decode cX12_number 28 = .ok (.invokevirtual 196, 3) := by decide +kernel
theorem dX12_number_31 : decode cX12_number 31 = .ok (.ireturn, 1) := by decide +kernel
theorem dX12_number_32 : decode cX12_number 32 = .ok (.aload_n 0, 1) := by decide +kernel
theorem dX12_number_33 : decode cX12_number 33 = .ok (.aload_n 0, 1) := by decide +kernel
theorem dX12_number_34 : decode cX12_number 34 = .ok (.getfield 183, 3) := by decide +kernel
theorem dX12_number_37 : decode cX12_number 37 = .ok (.putfield 203, 3) := by decide +kernel
theorem dX12_number_40 : decode cX12_number 40 = .ok (.aload_n 0, 1) := by decide +kernel
theorem dX12_number_41 : decode cX12_number 41 = .ok (.invokevirtual 206, 3) := by decide +kernel
theorem dX12_number_44 : decode cX12_number 44 = .ok (.iconst 1, 1) := by decide +kernel
theorem dX12_number_45 : decode cX12_number 45 = .ok (.ireturn, 1) := by decide +kernel
theorem dX12_plain_0 : decode cX12_plain 0 = .ok (.aload_n 0, 1) := by decide +kernel
theorem dX12_plain_1 : decode cX12_plain 1 = .ok (.iconst 0, 1) := by decide +kernel
theorem dX12_plain_2 : decode cX12_plain 2 = .ok (.putfield 216, 3) := by decide +kernel
theorem dX12_plain_5 : decode cX12_plain 5 = .ok (.aload_n 0, 1) := by decide +kernel
theorem dX12_plain_6 : decode cX12_plain 6 = .ok (.iconst 0, 1) := by decide +kernel
theorem dX12_plain_7 : decode cX12_plain 7 = .ok (.putfield 219, 3) := by decide +kernel
theorem dX12_plain_10 : decode cX12_plain 10 = .ok (.aload_n 0, 1) := by decide +kernel
theorem dX12_plain_11 : decode cX12_plain 11 = .ok (.iconst 0, 1) := by decide +kernel
theorem dX12_plain_12 : decode cX12_plain 12 = .ok (.putfield 222, 3) := by decide +kernel
theorem dX12_plain_15 : decode cX12_plain 15 = .ok (.aload_n 0, 1) := by decide +kernel
theorem dX12_plain_16 : decode cX12_plain 16 = .ok (.iconst 0, 1) := by decide +kernel
theorem dX12_plain_17 : decode cX12_plain 17 = .ok (.putfield 225, 3) := by decide +kernel
theorem dX12_plain_20 : decode cX12_plain 20 = .ok (.aload_n 0, 1) := by decide +kernel
theorem dX12_plain_21 : decode cX12_plain 21 = .ok (.iconst 0, 1) := by decide +kernel
theorem dX12_plain_22 : decode cX12_plain 22 = .ok (.putfield 228, 3) := by decide +kernel
theorem dX12_plain_25 : decode cX12_plain 25 = .ok (.aload_n 0, 1) := by decide +kernel
theorem dX12_plain_26 : decode cX12_plain 26 = .ok (.iconst 0, 1) := by decide +kernel
theorem dX12_plain_27 : decode cX12_plain 27 = .ok (.putfield 231, 3) := by decide +kernel
theorem dX12_plain_30 : decode cX12_plain 30 = .ok (.aload_n 0, 1) := by decide +kernel
theorem dX12_plain_31 : decode cX12_plain 31 = .ok (.iconst 0, 1) := by decide +kernel
theorem dX12_plain_32 : decode cX12_plain 32 = .ok (.putfield 234, 3) := by decide +kernel
theorem dX12_plain_35 : decode cX12_plain 35 = .ok (.aload_n 0, 1) := by decide +kernel
theorem dX12_plain_36 : decode cX12_plain 36 = .ok (.bipush 8, 2) := by decide +kernel
theorem dX12_plain_38 : decode cX12_plain 38 = .ok (.putfield 237, 3) := by decide +kernel
theorem dX12_plain_41 : decode cX12_plain 41 = .ok (.aload_n 0, 1) := by decide +kernel
theorem dX12_plain_42 : decode cX12_plain 42 = .ok (.iconst 0, 1) := by decide +kernel
theorem dX12_plain_43 : decode cX12_plain 43 = .ok (.putfield 240, 3) := by decide +kernel
theorem dX12_plain_46 : decode cX12_plain 46 = .ok (.aload_n 0, 1) := by decide +kernel
theorem dX12_plain_47 : decode cX12_plain 47 = .ok (.iconst 0, 1) := by decide +kernel
theorem dX12_plain_48 : decode cX12_plain 48 = .ok (.putfield 243, 3) := by decide +kernel
theorem dX12_plain_51 : decode cX12_plain 51 = .ok (.aload_n 0, 1) := by decide +kernel
theorem dX12_plain_52 : decode cX12_plain 52 = .ok (.iconst 0, 1) := by decide +kernel
theorem dX12_plain_53 : decode cX12_plain 53 = .ok (.putfield 247, 3) := by decide +kernel
theorem dX12_plain_56 : decode cX12_plain 56 = .ok (.bipush 8, 2) := by decide +kernel
theorem dX12_plain_58 : decode cX12_plain 58 = .ok (.istore_n 1, 1) := by decide +kernel
theorem dX12_plain_59 : decode cX12_plain 59 = .ok (.iload_n 1, 1) := by decide +kernel
theorem dX12_plain_60 : decode cX12_plain 60 = .ok (.bipush 16, 2) := by decide +kernel
theorem dX12_plain_62 : decode cX12_plain 62 = .ok (.if_icmp .ge 16, 3) := by decide +kernel
theorem dX12_plain_65 : decode cX12_plain 65 = .ok (.aload_n 0, 1) := by decide +kernel
theorem dX12_plain_66 : decode cX12_plain 66 = .ok (.getfield 81, 3) := by decide +kernel
theorem dX12_plain_69 : decode cX12_plain 69 = .ok (.iload_n 1, 1) := by decide +kernel
theorem dX12_plain_70 : decode cX12_plain 70 = .ok (.iconst 0, 1) := by decide +kernel
theorem dX12_plain_71 : decode cX12_plain 71 = .ok (.bastore, 1) := by decide +kernel
theorem dX12_plain_72 : decode cX12_plain 72 = .ok (.iinc 1 1, 3) := by decide +kernel
theorem dX12_plain_75 : decode cX12_plain 75 = .ok (.goto (-16), 3) := by decide +kernel
theorem dX12_plain_78 : decode cX12_plain 78 = .ok (.return_, 1) := by decide +kernel
theorem dX12_copies_0 : decode cX12_copies 0 = .ok (.iconst 0, 1) := by decide +kernel
theorem dX12_copies_1 : decode cX12_copies 1 = .ok (.istore_n 2, 1) := by decide +kernel
theorem dX12_copies_2 : decode cX12_copies 2 = .ok (.iload_n 2, 1) := by decide +kernel
theorem dX12_copies_3 : decode cX12_copies 3 = .ok (.iload_n 1, 1) := by decide +kernel
theorem dX12_copies_4 : decode cX12_copies 4 = .ok (.if_icmp .ge 17, 3) := by decide +kernel
theorem dX12_copies_7 : decode cX12_copies 7 = .ok (.aload_n 0, 1) := by decide +kernel
theorem dX12_copies_8 : decode cX12_copies 8 = .ok (.iload_n 2, 1) := by decide +kernel
theorem dX12_copies_9 : decode cX12_copies 9 = .ok (.aload_n 0, 1) := by decide +kernel
theorem dX12_copies_10 : decode cX12_copies 10 = .ok (.iload_n 1, 1) := by decide +kernel
theorem dX12_copies_11 : decode cX12_copies 11 = .ok (.iload_n 2, 1) := by decide +kernel
theorem dX12_copies_12 : decode cX12_copies 12 = .ok (.iadd, 1) := by decide +kernel
theorem dX12_copies_13 : decode cX12_copies 13 = .ok (.iaload, 1) := by decide +kernel
theorem dX12_copies_14 : decode cX12_copies 14 = .ok (.iastore, 1) := by decide +kernel
theorem dX12_copies_15 : decode cX12_copies 15 = .ok (.iinc 2 1, 3) := by decide +kernel
theorem dX12_copies_18 : decode cX12_copies 18 = .ok (.goto (-16), 3) := by decide +kernel
theorem dX12_copies_21 : decode cX12_copies 21 = .ok (.return_, 1) := by decide +kernel
theorem dX12_copiesOf_0 : decode cX12_copiesOf 0 = .ok (.iconst 0, 1) := by decide +kernel
theorem dX12_copiesOf_1 : decode cX12_copiesOf 1 = .ok (.istore_n 2, 1) := by decide +kernel
theorem dX12_copiesOf_2 : decode cX12_copiesOf 2 = .ok (.iload_n 2, 1) := by decide +kernel
theorem dX12_copiesOf_3 : decode cX12_copiesOf 3 = .ok (.iload_n 1, 1) := by decide +kernel
theorem dX12_copiesOf_4 : decode cX12_copiesOf 4 = .ok (.if_icmp .ge 17, 3) := by decide +kernel
theorem dX12_copiesOf_7 : decode cX12_copiesOf 7 = .ok (.aload_n 0, 1) := by decide +kernel
theorem dX12_copiesOf_8 : decode cX12_copiesOf 8 = .ok (.iload_n 2, 1) := by decide +kernel
theorem dX12_copiesOf_9 : decode cX12_copiesOf 9 = .ok (.aload_n 0, 1) := by decide +kernel
theorem dX12_copiesOf_10 : decode cX12_copiesOf 10 = .ok (.iload_n 1, 1) := by decide +kernel
theorem dX12_copiesOf_11 : decode cX12_copiesOf 11 = .ok (.iload_n 2, 1) := by decide +kernel
theorem dX12_copiesOf_12 : decode cX12_copiesOf 12 = .ok (.iadd, 1) := by decide +kernel
theorem dX12_copiesOf_13 : decode cX12_copiesOf 13 = .ok (.baload, 1) := by decide +kernel
theorem dX12_copiesOf_14 : decode cX12_copiesOf 14 = .ok (.bastore, 1) := by decide +kernel
theorem dX12_copiesOf_15 : decode cX12_copiesOf 15 = .ok (.iinc 2 1, 3) := by decide +kernel
theorem dX12_copiesOf_18 : decode cX12_copiesOf 18 = .ok (.goto (-16), 3) := by decide +kernel
theorem dX12_copiesOf_21 : decode cX12_copiesOf 21 = .ok (.return_, 1) := by decide +kernel
theorem dX12_keepText_0 : decode cX12_keepText 0 = .ok (.aload_n 0, 1) := by decide +kernel
theorem dX12_keepText_1 : decode cX12_keepText 1 = .ok (.aload_n 0, 1) := by decide +kernel
theorem dX12_keepText_2 : decode cX12_keepText 2 = .ok (.getfield 216, 3) := by decide +kernel
theorem dX12_keepText_5 : decode cX12_keepText 5 = .ok (.putfield 250, 3) := by decide +kernel
theorem dX12_keepText_8 : decode cX12_keepText 8 = .ok (.aload_n 0, 1) := by decide +kernel
theorem dX12_keepText_9 : decode cX12_keepText 9 = .ok (.aload_n 0, 1) := by decide +kernel
theorem dX12_keepText_10 : decode cX12_keepText 10 = .ok (.getfield 219, 3) := by decide +kernel
theorem dX12_keepText_13 : decode cX12_keepText 13 = .ok (.putfield 253, 3) := by decide +kernel
theorem dX12_keepText_16 : decode cX12_keepText 16 = .ok (.aload_n 0, 1) := by decide +kernel
theorem dX12_keepText_17 : decode cX12_keepText 17 = .ok (.aload_n 0, 1) := by decide +kernel
theorem dX12_keepText_18 : decode cX12_keepText 18 = .ok (.getfield 222, 3) := by decide +kernel
theorem dX12_keepText_21 : decode cX12_keepText 21 = .ok (.putfield 256, 3) := by decide +kernel
theorem dX12_keepText_24 : decode cX12_keepText 24 = .ok (.aload_n 0, 1) := by decide +kernel
theorem dX12_keepText_25 : decode cX12_keepText 25 = .ok (.aload_n 0, 1) := by decide +kernel
theorem dX12_keepText_26 : decode cX12_keepText 26 = .ok (.getfield 225, 3) := by decide +kernel
theorem dX12_keepText_29 : decode cX12_keepText 29 = .ok (.putfield 259, 3) := by decide +kernel
theorem dX12_keepText_32 : decode cX12_keepText 32 = .ok (.aload_n 0, 1) := by decide +kernel
theorem dX12_keepText_33 : decode cX12_keepText 33 = .ok (.aload_n 0, 1) := by decide +kernel
theorem dX12_keepText_34 : decode cX12_keepText 34 = .ok (.getfield 228, 3) := by decide +kernel
theorem dX12_keepText_37 : decode cX12_keepText 37 = .ok (.putfield 262, 3) := by decide +kernel
theorem dX12_keepText_40 : decode cX12_keepText 40 = .ok (.aload_n 0, 1) := by decide +kernel
theorem dX12_keepText_41 : decode cX12_keepText 41 = .ok (.aload_n 0, 1) := by decide +kernel
theorem dX12_keepText_42 : decode cX12_keepText 42 = .ok (.getfield 231, 3) := by decide +kernel
theorem dX12_keepText_45 : decode cX12_keepText 45 = .ok (.putfield 265, 3) := by decide +kernel
theorem dX12_keepText_48 : decode cX12_keepText 48 = .ok (.aload_n 0, 1) := by decide +kernel
theorem dX12_keepText_49 : decode cX12_keepText 49 = .ok (.aload_n 0, 1) := by decide +kernel
theorem dX12_keepText_50 : decode cX12_keepText 50 = .ok (.getfield 237, 3) := by decide +kernel
theorem dX12_keepText_53 : decode cX12_keepText 53 = .ok (.putfield 268, 3) := by decide +kernel
theorem dX12_keepText_56 : decode cX12_keepText 56 = .ok (.aload_n 0, 1) := by decide +kernel
theorem dX12_keepText_57 : decode cX12_keepText 57 = .ok (.aload_n 0, 1) := by decide +kernel
theorem dX12_keepText_58 : decode cX12_keepText 58 = .ok (.getfield 240, 3) := by decide +kernel
theorem dX12_keepText_61 : decode cX12_keepText 61 = .ok (.putfield 271, 3) := by decide +kernel
theorem dX12_keepText_64 : decode cX12_keepText 64 = .ok (.aload_n 0, 1) := by decide +kernel
theorem dX12_keepText_65 : decode cX12_keepText 65 = .ok (.getfield 20, 3) := by decide +kernel
theorem dX12_keepText_68 : decode cX12_keepText 68 = .ok (.bipush 6, 2) := by decide +kernel
theorem dX12_keepText_70 : decode cX12_keepText 70 = .ok (.invokestatic 274, 3) := by decide +kernel
theorem dX12_keepText_73 : decode cX12_keepText 73 = .ok (.aload_n 0, 1) := by decide +kernel
theorem dX12_keepText_74 : decode cX12_keepText 74 = .ok (.getfield 23, 3) := by decide +kernel
theorem dX12_keepText_77 : decode cX12_keepText 77 = .ok (.bipush 6, 2) := by decide +kernel
theorem dX12_keepText_79 : decode cX12_keepText 79 = .ok (.invokestatic 274, 3) := by decide +kernel
theorem dX12_keepText_82 : decode cX12_keepText 82 = .ok (.aload_n 0, 1) := by decide +kernel
theorem dX12_keepText_83 : decode cX12_keepText 83 = .ok (.getfield 26, 3) := by decide +kernel
theorem dX12_keepText_86 : decode cX12_keepText 86 = .ok (.bipush 6, 2) := by decide +kernel
theorem dX12_keepText_88 : decode cX12_keepText 88 = .ok (.invokestatic 274, 3) := by decide +kernel
theorem dX12_keepText_91 : decode cX12_keepText 91 = .ok (.aload_n 0, 1) := by decide +kernel
theorem dX12_keepText_92 : decode cX12_keepText 92 = .ok (.getfield 29, 3) := by decide +kernel
theorem dX12_keepText_95 : decode cX12_keepText 95 = .ok (.bipush 6, 2) := by decide +kernel
theorem dX12_keepText_97 : decode cX12_keepText 97 = .ok (.invokestatic 278, 3) := by decide +kernel
theorem dX12_keepText_100 : decode cX12_keepText 100 = .ok (.aload_n 0, 1) := by decide +kernel
theorem dX12_keepText_101 : decode cX12_keepText 101 = .ok (.getfield 33, 3) := by decide +kernel
theorem dX12_keepText_104 : decode cX12_keepText 104 = .ok (.bipush 6, 2) := by decide +kernel
theorem dX12_keepText_106 : decode cX12_keepText 106 = .ok (.invokestatic 278, 3) := by decide +kernel
theorem dX12_keepText_109 : decode cX12_keepText 109 = .ok (.aload_n 0, 1) := by decide +kernel
theorem dX12_keepText_110 : decode cX12_keepText 110 = .ok (.getfield 36, 3) := by decide +kernel
theorem dX12_keepText_113 : decode cX12_keepText 113 = .ok (.iconst 5, 1) := by decide +kernel
theorem dX12_keepText_114 : decode cX12_keepText 114 = .ok (.invokestatic 274, 3) := by decide +kernel
theorem dX12_keepText_117 : decode cX12_keepText 117 = .ok (.aload_n 0, 1) := by decide +kernel
theorem dX12_keepText_118 : decode cX12_keepText 118 = .ok (.getfield 39, 3) := by decide +kernel
theorem dX12_keepText_121 : decode cX12_keepText 121 = .ok (.iconst 5, 1) := by decide +kernel
theorem dX12_keepText_122 : decode cX12_keepText 122 = .ok (.invokestatic 274, 3) := by decide +kernel
theorem dX12_keepText_125 : decode cX12_keepText 125 = .ok (.aload_n 0, 1) := by decide +kernel
theorem dX12_keepText_126 : decode cX12_keepText 126 = .ok (.getfield 42, 3) := by decide +kernel
theorem dX12_keepText_129 : decode cX12_keepText 129 = .ok (.iconst 5, 1) := by decide +kernel
theorem dX12_keepText_130 : decode cX12_keepText 130 = .ok (.invokestatic 274, 3) := by decide +kernel
theorem dX12_keepText_133 : decode cX12_keepText 133 = .ok (.aload_n 0, 1) := by decide +kernel
theorem dX12_keepText_134 : decode cX12_keepText 134 = .ok (.getfield 45, 3) := by decide +kernel
theorem dX12_keepText_137 : decode cX12_keepText 137 = .ok (.iconst 5, 1) := by decide +kernel
theorem dX12_keepText_138 : decode cX12_keepText 138 = .ok (.invokestatic 274, 3) := by decide +kernel
theorem dX12_keepText_141 : decode cX12_keepText 141 = .ok (.aload_n 0, 1) := by decide +kernel
theorem dX12_keepText_142 : decode cX12_keepText 142 = .ok (.getfield 48, 3) := by decide +kernel
theorem dX12_keepText_145 : decode cX12_keepText 145 = .ok (.iconst 3, 1) := by decide +kernel
theorem dX12_keepText_146 : decode cX12_keepText 146 = .ok (.invokestatic 274, 3) := by decide +kernel
theorem dX12_keepText_149 : decode cX12_keepText 149 = .ok (.aload_n 0, 1) := by decide +kernel
theorem dX12_keepText_150 : decode cX12_keepText 150 = .ok (.getfield 51, 3) := by decide +kernel
theorem dX12_keepText_153 : decode cX12_keepText 153 = .ok (.iconst 3, 1) := by decide +kernel
theorem dX12_keepText_154 : decode cX12_keepText 154 = .ok (.invokestatic 274, 3) := by decide +kernel
theorem dX12_keepText_157 : decode cX12_keepText 157 = .ok (.aload_n 0, 1) := by decide +kernel
theorem dX12_keepText_158 : decode cX12_keepText 158 = .ok (.getfield 54, 3) := by decide +kernel
theorem dX12_keepText_161 : decode cX12_keepText 161 = .ok (.iconst 3, 1) := by decide +kernel
theorem dX12_keepText_162 : decode cX12_keepText 162 = .ok (.invokestatic 274, 3) := by decide +kernel
theorem dX12_keepText_165 : decode cX12_keepText 165 = .ok (.aload_n 0, 1) := by decide +kernel
theorem dX12_keepText_166 : decode cX12_keepText 166 = .ok (.getfield 57, 3) := by decide +kernel
theorem dX12_keepText_169 : decode cX12_keepText 169 = .ok (.iconst 3, 1) := by decide +kernel
theorem dX12_keepText_170 : decode cX12_keepText 170 = .ok (.invokestatic 274, 3) := by decide +kernel
theorem dX12_keepText_173 : decode cX12_keepText 173 = .ok (.aload_n 0, 1) := by decide +kernel
theorem dX12_keepText_174 : decode cX12_keepText 174 = .ok (.getfield 60, 3) := by decide +kernel
theorem dX12_keepText_177 : decode cX12_keepText 177 = .ok (.iconst 5, 1) := by decide +kernel
theorem dX12_keepText_178 : decode cX12_keepText 178 = .ok (.invokestatic 274, 3) := by decide +kernel
theorem dX12_keepText_181 : decode cX12_keepText 181 = .ok (.aload_n 0, 1) := by decide +kernel
theorem dX12_keepText_182 : decode cX12_keepText 182 = .ok (.getfield 63, 3) := by decide +kernel
theorem dX12_keepText_185 : decode cX12_keepText 185 = .ok (.iconst 5, 1) := by decide +kernel
theorem dX12_keepText_186 : decode cX12_keepText 186 = .ok (.invokestatic 274, 3) := by decide +kernel
theorem dX12_keepText_189 : decode cX12_keepText 189 = .ok (.aload_n 0, 1) := by decide +kernel
theorem dX12_keepText_190 : decode cX12_keepText 190 = .ok (.getfield 66, 3) := by decide +kernel
theorem dX12_keepText_193 : decode cX12_keepText 193 = .ok (.iconst 5, 1) := by decide +kernel
theorem dX12_keepText_194 : decode cX12_keepText 194 = .ok (.invokestatic 274, 3) := by decide +kernel
theorem dX12_keepText_197 : decode cX12_keepText 197 = .ok (.aload_n 0, 1) := by decide +kernel
theorem dX12_keepText_198 : decode cX12_keepText 198 = .ok (.getfield 69, 3) := by decide +kernel
theorem dX12_keepText_201 : decode cX12_keepText 201 = .ok (.bipush 30, 2) := by decide +kernel
theorem dX12_keepText_203 : decode cX12_keepText 203 = .ok (.invokestatic 274, 3) := by decide +kernel
theorem dX12_keepText_206 : decode cX12_keepText 206 = .ok (.aload_n 0, 1) := by decide +kernel
theorem dX12_keepText_207 : decode cX12_keepText 207 = .ok (.getfield 72, 3) := by decide +kernel
theorem dX12_keepText_210 : decode cX12_keepText 210 = .ok (.iconst 4, 1) := by decide +kernel
theorem dX12_keepText_211 : decode cX12_keepText 211 = .ok (.invokestatic 274, 3) := by decide +kernel
theorem dX12_keepText_214 : decode cX12_keepText 214 = .ok (.aload_n 0, 1) := by decide +kernel
theorem dX12_keepText_215 : decode cX12_keepText 215 = .ok (.getfield 75, 3) := by decide +kernel
theorem dX12_keepText_218 : decode cX12_keepText 218 = .ok (.iconst 4, 1) := by decide +kernel
theorem dX12_keepText_219 : decode cX12_keepText 219 = .ok (.invokestatic 274, 3) := by decide +kernel
theorem dX12_keepText_222 : decode cX12_keepText 222 = .ok (.aload_n 0, 1) := by decide +kernel
theorem dX12_keepText_223 : decode cX12_keepText 223 = .ok (.getfield 78, 3) := by decide +kernel
theorem dX12_keepText_226 : decode cX12_keepText 226 = .ok (.iconst 4, 1) := by decide +kernel
theorem dX12_keepText_227 : decode cX12_keepText 227 = .ok (.invokestatic 274, 3) := by decide +kernel
theorem dX12_keepText_230 : decode cX12_keepText 230 = .ok (.aload_n 0, 1) := by decide +kernel
theorem dX12_keepText_231 : decode cX12_keepText 231 = .ok (.getfield 81, 3) := by decide +kernel
theorem dX12_keepText_234 : decode cX12_keepText 234 = .ok (.bipush 8, 2) := by decide +kernel
theorem dX12_keepText_236 : decode cX12_keepText 236 = .ok (.invokestatic 278, 3) := by decide +kernel
theorem dX12_keepText_239 : decode cX12_keepText 239 = .ok (.aload_n 0, 1) := by decide +kernel
theorem dX12_keepText_240 : decode cX12_keepText 240 = .ok (.getfield 84, 3) := by decide +kernel
theorem dX12_keepText_243 : decode cX12_keepText 243 = .ok (.bipush 8, 2) := by decide +kernel
theorem dX12_keepText_245 : decode cX12_keepText 245 = .ok (.invokestatic 274, 3) := by decide +kernel
theorem dX12_keepText_248 : decode cX12_keepText 248 = .ok (.aload_n 0, 1) := by decide +kernel
theorem dX12_keepText_249 : decode cX12_keepText 249 = .ok (.getfield 87, 3) := by decide +kernel
theorem dX12_keepText_252 : decode cX12_keepText 252 = .ok (.bipush 8, 2) := by decide +kernel
theorem dX12_keepText_254 : decode cX12_keepText 254 = .ok (.invokestatic 274, 3) := by decide +kernel
theorem dX12_keepText_257 : decode cX12_keepText 257 = .ok (.aload_n 0, 1) := by decide +kernel
theorem dX12_keepText_258 : decode cX12_keepText 258 = .ok (.getfield 90, 3) := by decide +kernel
theorem dX12_keepText_261 : decode cX12_keepText 261 = .ok (.bipush 64, 2) := by decide +kernel
theorem dX12_keepText_263 : decode cX12_keepText 263 = .ok (.invokestatic 274, 3) := by decide +kernel
theorem dX12_keepText_266 : decode cX12_keepText 266 = .ok (.aload_n 0, 1) := by decide +kernel
theorem dX12_keepText_267 : decode cX12_keepText 267 = .ok (.getfield 93, 3) := by decide +kernel
theorem dX12_keepText_270 : decode cX12_keepText 270 = .ok (.bipush 64, 2) := by decide +kernel
theorem dX12_keepText_272 : decode cX12_keepText 272 = .ok (.invokestatic 274, 3) := by decide +kernel
theorem dX12_keepText_275 : decode cX12_keepText 275 = .ok (.aload_n 0, 1) := by decide +kernel
theorem dX12_keepText_276 : decode cX12_keepText 276 = .ok (.getfield 96, 3) := by decide +kernel
theorem dX12_keepText_279 : decode cX12_keepText 279 = .ok (.bipush 64, 2) := by decide +kernel
theorem dX12_keepText_281 : decode cX12_keepText 281 = .ok (.invokestatic 274, 3) := by decide +kernel
theorem dX12_keepText_284 : decode cX12_keepText 284 = .ok (.aload_n 0, 1) := by decide +kernel
theorem dX12_keepText_285 : decode cX12_keepText 285 = .ok (.aload_n 0, 1) := by decide +kernel
theorem dX12_keepText_286 : decode cX12_keepText 286 = .ok (.getfield 268, 3) := by decide +kernel
theorem dX12_keepText_289 : decode cX12_keepText 289 = .ok (.putfield 282, 3) := by decide +kernel
theorem dX12_keepText_292 : decode cX12_keepText 292 = .ok (.aload_n 0, 1) := by decide +kernel
theorem dX12_keepText_293 : decode cX12_keepText 293 = .ok (.iconst 0, 1) := by decide +kernel
theorem dX12_keepText_294 : decode cX12_keepText 294 = .ok (.putfield 285, 3) := by decide +kernel
theorem dX12_keepText_297 : decode cX12_keepText 297 = .ok (.aload_n 0, 1) := by decide +kernel
theorem dX12_keepText_298 : decode cX12_keepText 298 = .ok (.aload_n 0, 1) := by decide +kernel
theorem dX12_keepText_299 : decode cX12_keepText 299 = .ok (.getfield 271, 3) := by decide +kernel
theorem dX12_keepText_302 : decode cX12_keepText 302 = .ok (.i2l, 1) := by decide +kernel
theorem dX12_keepText_303 : decode cX12_keepText 303 = .ok (.putfield 288, 3) := by decide +kernel
theorem dX12_keepText_306 : decode cX12_keepText 306 = .ok (.aload_n 0, 1) := by decide +kernel
theorem dX12_keepText_307 : decode cX12_keepText 307 = .ok (.iconst 0, 1) := by decide +kernel
theorem dX12_keepText_308 : decode cX12_keepText 308 = .ok (.putfield 292, 3) := by decide +kernel
theorem dX12_keepText_311 : decode cX12_keepText 311 = .ok (.aload_n 0, 1) := by decide +kernel
theorem dX12_keepText_312 : decode cX12_keepText 312 = .ok (.iconst 0, 1) := by decide +kernel
theorem dX12_keepText_313 : decode cX12_keepText 313 = .ok (.putfield 295, 3) := by decide +kernel
theorem dX12_keepText_316 : decode cX12_keepText 316 = .ok (.aload_n 0, 1) := by decide +kernel
theorem dX12_keepText_317 : decode cX12_keepText 317 = .ok (.iconst 0, 1) := by decide +kernel
theorem dX12_keepText_318 : decode cX12_keepText 318 = .ok (.putfield 298, 3) := by decide +kernel
theorem dX12_keepText_321 : decode cX12_keepText 321 = .ok (.aload_n 0, 1) := by decide +kernel
theorem dX12_keepText_322 : decode cX12_keepText 322 = .ok (.iconst (-1), 1) := by decide +kernel
theorem dX12_keepText_323 : decode cX12_keepText 323 = .ok (.putfield 127, 3) := by decide +kernel
theorem dX12_keepText_326 : decode cX12_keepText 326 = .ok (.aload_n 0, 1) := by decide +kernel
theorem dX12_keepText_327 : decode cX12_keepText 327 = .ok (.iconst 0, 1) := by decide +kernel
theorem dX12_keepText_328 : decode cX12_keepText 328 = .ok (.putfield 301, 3) := by decide +kernel
theorem dX12_keepText_331 : decode cX12_keepText 331 = .ok (.return_, 1) := by decide +kernel
theorem dX12_find_0 : decode cX12_find 0 = .ok (.iconst 0, 1) := by decide +kernel
theorem dX12_find_1 : decode cX12_find 1 = .ok (.istore 4, 2) := by decide +kernel
theorem dX12_find_3 : decode cX12_find 3 = .ok (.iload 4, 2) := by decide +kernel
theorem dX12_find_5 : decode cX12_find 5 = .ok (.iload_n 2, 1) := by decide +kernel
theorem dX12_find_6 : decode cX12_find 6 = .ok (.if_icmp .ge 22, 3) := by decide +kernel
theorem dX12_find_9 : decode cX12_find 9 = .ok (.aload_n 0, 1) := by decide +kernel
theorem dX12_find_10 : decode cX12_find 10 = .ok (.iload_n 1, 1) := by decide +kernel
theorem dX12_find_11 : decode cX12_find 11 = .ok (.iload 4, 2) := by decide +kernel
theorem dX12_find_13 : decode cX12_find 13 = .ok (.iadd, 1) := by decide +kernel
theorem dX12_find_14 : decode cX12_find 14 = .ok (.iaload, 1) := by decide +kernel
theorem dX12_find_15 : decode cX12_find 15 = .ok (.iload_n 3, 1) := by decide +kernel
theorem dX12_find_16 : decode cX12_find 16 = .ok (.if_icmp .ne 6, 3) := by decide +kernel
theorem dX12_find_19 : decode cX12_find 19 = .ok (.iload 4, 2) := by decide +kernel
theorem dX12_find_21 : decode cX12_find 21 = .ok (.ireturn, 1) := by decide +kernel
theorem dX12_find_22 : decode cX12_find 22 = .ok (.iinc 4 1, 3) := by decide +kernel
theorem dX12_find_25 : decode cX12_find 25 = .ok (.goto (-22), 3) := by decide +kernel
theorem dX12_find_28 : decode cX12_find 28 = .ok (.iconst (-1), 1) := by decide +kernel
theorem dX12_find_29 : decode cX12_find 29 = .ok (.ireturn, 1) := by decide +kernel
theorem dX12_newName_0 : decode cX12_newName 0 = .ok (.aload_n 0, 1) := by decide +kernel
theorem dX12_newName_1 : decode cX12_newName 1 = .ok (.getfield 172, 3) := by decide +kernel
theorem dX12_newName_4 : decode cX12_newName 4 = .ok (.iconst 2, 1) := by decide +kernel
theorem dX12_newName_5 : decode cX12_newName 5 = .ok (.if_icmp .eq 9, 3) := by decide +kernel
theorem dX12_newName_8 : decode cX12_newName 8 = .ok (.aload_n 0, 1) := by decide +kernel
theorem dX12_newName_9 : decode cX12_newName 9 = .ok (.iconst 1, 1) := by decide +kernel
theorem dX12_newName_10 : decode cX12_newName 10 = .ok (.invokevirtual 196, 3) := by decide +kernel
theorem dX12_newName_13 : decode cX12_newName 13 = .ok (.ireturn, 1) := by decide +kernel
theorem dX12_newName_14 : decode cX12_newName 14 = .ok (.aload_n 1, 1) := by decide +kernel
theorem dX12_newName_15 : decode cX12_newName 15 = .ok (.iload_n 2, 1) := by decide +kernel
theorem dX12_newName_16 : decode cX12_newName 16 = .ok (.iload_n 3, 1) := by decide +kernel
theorem dX12_newName_17 : decode cX12_newName 17 = .ok (.aload_n 0, 1) := by decide +kernel
theorem dX12_newName_18 : decode cX12_newName 18 = .ok (.getfield 183, 3) := by decide +kernel
theorem dX12_newName_21 : decode cX12_newName 21 = .ok (.invokestatic 304, 3) := by decide +kernel
theorem dX12_newName_24 : decode cX12_newName 24 = .ok (.ifCond .lt 9, 3) := by decide +kernel
theorem dX12_newName_27 : decode cX12_newName 27 = .ok (.aload_n 0, 1) := by decide +kernel
theorem dX12_newName_28 : decode cX12_newName 28 = .ok (.iconst 3, 1) := by decide +kernel
theorem dX12_newName_29 : decode cX12_newName 29 = .ok (.invokevirtual 196, 3) := by decide +kernel
theorem dX12_newName_32 : decode cX12_newName 32 = .ok (.ireturn, 1) := by decide +kernel
theorem dX12_newName_33 : decode cX12_newName 33 = .ok (.aload_n 1, 1) := by decide +kernel
theorem dX12_newName_34 : decode cX12_newName 34 = .ok (.iload_n 2, 1) := by decide +kernel
theorem dX12_newName_35 : decode cX12_newName 35 = .ok (.iload_n 3, 1) := by decide +kernel
theorem dX12_newName_36 : decode cX12_newName 36 = .ok (.iadd, 1) := by decide +kernel
theorem dX12_newName_37 : decode cX12_newName 37 = .ok (.aload_n 0, 1) := by decide +kernel
theorem dX12_newName_38 : decode cX12_newName 38 = .ok (.getfield 183, 3) := by decide +kernel
theorem dX12_newName_41 : decode cX12_newName 41 = .ok (.iastore, 1) := by decide +kernel
theorem dX12_newName_42 : decode cX12_newName 42 = .ok (.aload_n 0, 1) := by decide +kernel
theorem dX12_newName_43 : decode cX12_newName 43 = .ok (.invokevirtual 206, 3) := by decide +kernel
theorem dX12_newName_46 : decode cX12_newName 46 = .ok (.iconst 1, 1) := by decide +kernel
theorem dX12_newName_47 : decode cX12_newName 47 = .ok (.ireturn, 1) := by decide +kernel
theorem dX12_laneLine_0 : decode cX12_laneLine 0 = .ok (.aload_n 0, 1) := by decide +kernel
theorem dX12_laneLine_1 : decode cX12_laneLine 1 = .ok (.getfield 216, 3) := by decide +kernel
theorem dX12_laneLine_4 : decode cX12_laneLine 4 = .ok (.bipush 6, 2) := by decide +kernel
theorem dX12_laneLine_6 : decode cX12_laneLine 6 = .ok (.if_icmp .ne 9, 3) := by decide +kernel
theorem dX12_laneLine_9 : decode cX12_laneLine 9 = .ok (.aload_n 0, 1) := by decide +kernel
theorem dX12_laneLine_10 : decode cX12_laneLine 10 = .ok (.iconst 2, 1) := by decide +kernel
theorem dX12_laneLine_11 : decode cX12_laneLine 11 = .ok (.invokevirtual 196, 3) := by decide +kernel
theorem dX12_laneLine_14 : decode cX12_laneLine 14 = .ok (.ireturn, 1) := by decide +kernel
theorem dX12_laneLine_15 : decode cX12_laneLine 15 = .ok (.aload_n 0, 1) := by decide +kernel
theorem dX12_laneLine_16 : decode cX12_laneLine 16 = .ok (.invokevirtual 206, 3) := by decide +kernel
theorem dX12_laneLine_19 : decode cX12_laneLine 19 = .ok (.bipush 6, 2) := by decide +kernel
theorem dX12_laneLine_21 : decode cX12_laneLine 21 = .ok (.aload_n 0, 1) := by decide +kernel
theorem dX12_laneLine_22 : decode cX12_laneLine 22 = .ok (.getfield 216, 3) := by decide +kernel
theorem dX12_laneLine_25 : decode cX12_laneLine 25 = .ok (.iadd, 1) := by decide +kernel
theorem dX12_laneLine_26 : decode cX12_laneLine 26 = .ok (.istore_n 1, 1) := by decide +kernel
theorem dX12_laneLine_27 : decode cX12_laneLine 27 = .ok (.aload_n 0, 1) := by decide +kernel
theorem dX12_laneLine_28 : decode cX12_laneLine 28 = .ok (.aload_n 0, 1) := by decide +kernel
theorem dX12_laneLine_29 : decode cX12_laneLine 29 = .ok (.getfield 20, 3) := by decide +kernel
theorem dX12_laneLine_32 : decode cX12_laneLine 32 = .ok (.bipush 6, 2) := by decide +kernel
theorem dX12_laneLine_34 : decode cX12_laneLine 34 = .ok (.aload_n 0, 1) := by decide +kernel
theorem dX12_laneLine_35 : decode cX12_laneLine 35 = .ok (.getfield 216, 3) := by decide +kernel
theorem dX12_laneLine_38 : decode cX12_laneLine 38 = .ok (.invokevirtual 308, 3) := by decide +kernel
theorem dX12_laneLine_41 : decode cX12_laneLine 41 = .ok (.ifCond .eq 13, 3) := by decide +kernel
theorem dX12_laneLine_44 : decode cX12_laneLine 44 = .ok (.aload_n 0, 1) := by decide +kernel
theorem dX12_laneLine_45 : decode cX12_laneLine 45 = .ok (.iconst 1, 1) := by decide +kernel
theorem dX12_laneLine_46 : decode cX12_laneLine 46 = .ok (.bipush 20, 2) := by decide +kernel
theorem dX12_laneLine_48 : decode cX12_laneLine 48 = .ok (.invokevirtual 212, 3) := by decide +kernel
theorem dX12_laneLine_51 : decode cX12_laneLine 51 = .ok (.ifCond .ne 5, 3) := by decide +kernel
theorem dX12_laneLine_54 : decode cX12_laneLine 54 = .ok (.iconst 0, 1) := by decide +kernel
theorem dX12_laneLine_55 : decode cX12_laneLine 55 = .ok (.ireturn, 1) := by decide +kernel
theorem dX12_laneLine_56 : decode cX12_laneLine 56 = .ok (.aload_n 0, 1) := by decide +kernel
theorem dX12_laneLine_57 : decode cX12_laneLine 57 = .ok (.getfield 23, 3) := by decide +kernel
theorem dX12_laneLine_60 : decode cX12_laneLine 60 = .ok (.iload_n 1, 1) := by decide +kernel
theorem dX12_laneLine_61 : decode cX12_laneLine 61 = .ok (.aload_n 0, 1) := by decide +kernel
theorem dX12_laneLine_62 : decode cX12_laneLine 62 = .ok (.getfield 203, 3) := by decide +kernel
theorem dX12_laneLine_65 : decode cX12_laneLine 65 = .ok (.iastore, 1) := by decide +kernel
theorem dX12_laneLine_66 : decode cX12_laneLine 66 = .ok (.aload_n 0, 1) := by decide +kernel
theorem dX12_laneLine_67 : decode cX12_laneLine 67 = .ok (.iconst 0, 1) := by decide +kernel
theorem dX12_laneLine_68 : decode cX12_laneLine 68 = .ok (.bipush 9, 2) := by decide +kernel
theorem dX12_laneLine_70 : decode cX12_laneLine 70 = .ok (.invokevirtual 212, 3) := by decide +kernel
theorem dX12_laneLine_73 : decode cX12_laneLine 73 = .ok (.ifCond .ne 5, 3) := by decide +kernel
theorem dX12_laneLine_76 : decode cX12_laneLine 76 = .ok (.iconst 0, 1) := by decide +kernel
theorem dX12_laneLine_77 : decode cX12_laneLine 77 = .ok (.ireturn, 1) := by decide +kernel
theorem dX12_laneLine_78 : decode cX12_laneLine 78 = .ok (.aload_n 0, 1) := by decide +kernel
theorem dX12_laneLine_79 : decode cX12_laneLine 79 = .ok (.getfield 26, 3) := by decide +kernel
theorem dX12_laneLine_82 : decode cX12_laneLine 82 = .ok (.iload_n 1, 1) := by decide +kernel
theorem dX12_laneLine_83 : decode cX12_laneLine 83 = .ok (.aload_n 0, 1) := by decide +kernel
theorem dX12_laneLine_84 : decode cX12_laneLine 84 = .ok (.getfield 203, 3) := by decide +kernel
theorem dX12_laneLine_87 : decode cX12_laneLine 87 = .ok (.iastore, 1) := by decide +kernel
theorem dX12_laneLine_88 : decode cX12_laneLine 88 = .ok (.aload_n 0, 1) := by decide +kernel
theorem dX12_laneLine_89 : decode cX12_laneLine 89 = .ok (.getfield 29, 3) := by decide +kernel
theorem dX12_laneLine_92 : decode cX12_laneLine 92 = .ok (.iload_n 1, 1) := by decide +kernel
theorem dX12_laneLine_93 : decode cX12_laneLine 93 = .ok (.aload_n 0, 1) := by decide +kernel
theorem dX12_laneLine_94 : decode cX12_laneLine 94 = .ok (.bipush 8, 2) := by decide +kernel
theorem dX12_laneLine_96 : decode cX12_laneLine 96 = .ok (.invokevirtual 312, 3) := by decide +kernel
theorem dX12_laneLine_99 : decode cX12_laneLine 99 = .ok (.bastore, 1) := by decide +kernel
theorem dX12_laneLine_100 : decode cX12_laneLine 100 = .ok (.aload_n 0, 1) := by decide +kernel
theorem dX12_laneLine_101 : decode cX12_laneLine 101 = .ok (.getfield 29, 3) := by decide +kernel
theorem dX12_laneLine_104 : decode cX12_laneLine 104 = .ok (.iload_n 1, 1) := by decide +kernel
theorem dX12_laneLine_105 : decode cX12_laneLine 105 = .ok (.baload, 1) := by decide +kernel
theorem dX12_laneLine_106 : decode cX12_laneLine 106 = .ok (.ifCond .eq 7, 3) := by decide +kernel
theorem dX12_laneLine_109 : decode cX12_laneLine 109 = .ok (.aload_n 0, 1) := by decide +kernel
theorem dX12_laneLine_110 : decode cX12_laneLine 110 = .ok (.invokevirtual 206, 3) := by decide +kernel
theorem dX12_laneLine_113 : decode cX12_laneLine 113 = .ok (.aload_n 0, 1) := by decide +kernel
theorem dX12_laneLine_114 : decode cX12_laneLine 114 = .ok (.getfield 33, 3) := by decide +kernel
theorem dX12_laneLine_117 : decode cX12_laneLine 117 = .ok (.iload_n 1, 1) := by decide +kernel
theorem dX12_laneLine_118 : decode cX12_laneLine 118 = .ok (.aload_n 0, 1) := by decide +kernel
theorem dX12_laneLine_119 : decode cX12_laneLine 119 = .ok (.bipush 9, 2) := by decide +kernel
theorem dX12_laneLine_121 : decode cX12_laneLine 121 = .ok (.invokevirtual 312, 3) := by decide +kernel
theorem dX12_laneLine_124 : decode cX12_laneLine 124 = .ok (.bastore, 1) := by decide +kernel
theorem dX12_laneLine_125 : decode cX12_laneLine 125 = .ok (.aload_n 0, 1) := by decide +kernel
theorem dX12_laneLine_126 : decode cX12_laneLine 126 = .ok (.getfield 33, 3) := by decide +kernel
theorem dX12_laneLine_129 : decode cX12_laneLine 129 = .ok (.iload_n 1, 1) := by decide +kernel
theorem dX12_laneLine_130 : decode cX12_laneLine 130 = .ok (.baload, 1) := by decide +kernel
theorem dX12_laneLine_131 : decode cX12_laneLine 131 = .ok (.ifCond .eq 7, 3) := by decide +kernel
theorem dX12_laneLine_134 : decode cX12_laneLine 134 = .ok (.aload_n 0, 1) := by decide +kernel
theorem dX12_laneLine_135 : decode cX12_laneLine 135 = .ok (.invokevirtual 206, 3) := by decide +kernel
theorem dX12_laneLine_138 : decode cX12_laneLine 138 = .ok (.aload_n 0, 1) := by decide +kernel
theorem dX12_laneLine_139 : decode cX12_laneLine 139 = .ok (.dup, 1) := by decide +kernel
theorem dX12_laneLine_140 : decode cX12_laneLine 140 = .ok (.getfield 216, 3) := by decide +kernel
theorem dX12_laneLine_143 : decode cX12_laneLine 143 = .ok (.iconst 1, 1) := by decide +kernel
theorem dX12_laneLine_144 : decode cX12_laneLine 144 = .ok (.iadd, 1) := by decide +kernel
theorem dX12_laneLine_145 : decode cX12_laneLine 145 = .ok (.putfield 216, 3) := by decide +kernel
theorem dX12_laneLine_148 : decode cX12_laneLine 148 = .ok (.iconst 1, 1) := by decide +kernel
theorem dX12_laneLine_149 : decode cX12_laneLine 149 = .ok (.ireturn, 1) := by decide +kernel
theorem dX12_manLine_0 : decode cX12_manLine 0 = .ok (.aload_n 0, 1) := by decide +kernel
theorem dX12_manLine_1 : decode cX12_manLine 1 = .ok (.getfield 219, 3) := by decide +kernel
theorem dX12_manLine_4 : decode cX12_manLine 4 = .ok (.iconst 5, 1) := by decide +kernel
theorem dX12_manLine_5 : decode cX12_manLine 5 = .ok (.if_icmp .ne 9, 3) := by decide +kernel
theorem dX12_manLine_8 : decode cX12_manLine 8 = .ok (.aload_n 0, 1) := by decide +kernel
theorem dX12_manLine_9 : decode cX12_manLine 9 = .ok (.iconst 2, 1) := by decide +kernel
theorem dX12_manLine_10 : decode cX12_manLine 10 = .ok (.invokevirtual 196, 3) := by decide +kernel
theorem dX12_manLine_13 : decode cX12_manLine 13 = .ok (.ireturn, 1) := by decide +kernel
theorem dX12_manLine_14 : decode cX12_manLine 14 = .ok (.aload_n 0, 1) := by decide +kernel
theorem dX12_manLine_15 : decode cX12_manLine 15 = .ok (.invokevirtual 206, 3) := by decide +kernel
theorem dX12_manLine_18 : decode cX12_manLine 18 = .ok (.iconst 5, 1) := by decide +kernel
theorem dX12_manLine_19 : decode cX12_manLine 19 = .ok (.aload_n 0, 1) := by decide +kernel
theorem dX12_manLine_20 : decode cX12_manLine 20 = .ok (.getfield 219, 3) := by decide +kernel
theorem dX12_manLine_23 : decode cX12_manLine 23 = .ok (.iadd, 1) := by decide +kernel
theorem dX12_manLine_24 : decode cX12_manLine 24 = .ok (.istore_n 1, 1) := by decide +kernel
theorem dX12_manLine_25 : decode cX12_manLine 25 = .ok (.aload_n 0, 1) := by decide +kernel
theorem dX12_manLine_26 : decode cX12_manLine 26 = .ok (.aload_n 0, 1) := by decide +kernel
theorem dX12_manLine_27 : decode cX12_manLine 27 = .ok (.getfield 36, 3) := by decide +kernel
theorem dX12_manLine_30 : decode cX12_manLine 30 = .ok (.iconst 5, 1) := by decide +kernel
theorem dX12_manLine_31 : decode cX12_manLine 31 = .ok (.aload_n 0, 1) := by decide +kernel
theorem dX12_manLine_32 : decode cX12_manLine 32 = .ok (.getfield 219, 3) := by decide +kernel
theorem dX12_manLine_35 : decode cX12_manLine 35 = .ok (.invokevirtual 308, 3) := by decide +kernel
theorem dX12_manLine_38 : decode cX12_manLine 38 = .ok (.ifCond .eq 13, 3) := by decide +kernel
theorem dX12_manLine_41 : decode cX12_manLine 41 = .ok (.aload_n 0, 1) := by decide +kernel
theorem dX12_manLine_42 : decode cX12_manLine 42 = .ok (.iconst 1, 1) := by decide +kernel
theorem dX12_manLine_43 : decode cX12_manLine 43 = .ok (.bipush 60, 2) := by decide +kernel
theorem dX12_manLine_45 : decode cX12_manLine 45 = .ok (.invokevirtual 212, 3) := by decide +kernel
theorem dX12_manLine_48 : decode cX12_manLine 48 = .ok (.ifCond .ne 5, 3) := by decide +kernel
theorem dX12_manLine_51 : decode cX12_manLine 51 = .ok (.iconst 0, 1) := by decide +kernel
theorem dX12_manLine_52 : decode cX12_manLine 52 = .ok (.ireturn, 1) := by decide +kernel
theorem dX12_manLine_53 : decode cX12_manLine 53 = .ok (.aload_n 0, 1) := by decide +kernel
theorem dX12_manLine_54 : decode cX12_manLine 54 = .ok (.getfield 39, 3) := by decide +kernel
theorem dX12_manLine_57 : decode cX12_manLine 57 = .ok (.iload_n 1, 1) := by decide +kernel
theorem dX12_manLine_58 : decode cX12_manLine 58 = .ok (.aload_n 0, 1) := by decide +kernel
theorem dX12_manLine_59 : decode cX12_manLine 59 = .ok (.getfield 203, 3) := by decide +kernel
theorem dX12_manLine_62 : decode cX12_manLine 62 = .ok (.iastore, 1) := by decide +kernel
theorem dX12_manLine_63 : decode cX12_manLine 63 = .ok (.aload_n 0, 1) := by decide +kernel
theorem dX12_manLine_64 : decode cX12_manLine 64 = .ok (.iconst 1, 1) := by decide +kernel
theorem dX12_manLine_65 : decode cX12_manLine 65 = .ok (.bipush 40, 2) := by decide +kernel
theorem dX12_manLine_67 : decode cX12_manLine 67 = .ok (.invokevirtual 212, 3) := by decide +kernel
theorem dX12_manLine_70 : decode cX12_manLine 70 = .ok (.ifCond .ne 5, 3) := by decide +kernel
theorem dX12_manLine_73 : decode cX12_manLine 73 = .ok (.iconst 0, 1) := by decide +kernel
theorem dX12_manLine_74 : decode cX12_manLine 74 = .ok (.ireturn, 1) := by decide +kernel
theorem dX12_manLine_75 : decode cX12_manLine 75 = .ok (.aload_n 0, 1) := by decide +kernel
theorem dX12_manLine_76 : decode cX12_manLine 76 = .ok (.getfield 42, 3) := by decide +kernel
theorem dX12_manLine_79 : decode cX12_manLine 79 = .ok (.iload_n 1, 1) := by decide +kernel
theorem dX12_manLine_80 : decode cX12_manLine 80 = .ok (.aload_n 0, 1) := by decide +kernel
theorem dX12_manLine_81 : decode cX12_manLine 81 = .ok (.getfield 203, 3) := by decide +kernel
theorem dX12_manLine_84 : decode cX12_manLine 84 = .ok (.iastore, 1) := by decide +kernel
theorem dX12_manLine_85 : decode cX12_manLine 85 = .ok (.aload_n 0, 1) := by decide +kernel
theorem dX12_manLine_86 : decode cX12_manLine 86 = .ok (.iconst 1, 1) := by decide +kernel
theorem dX12_manLine_87 : decode cX12_manLine 87 = .ok (.bipush 30, 2) := by decide +kernel
theorem dX12_manLine_89 : decode cX12_manLine 89 = .ok (.invokevirtual 212, 3) := by decide +kernel
theorem dX12_manLine_92 : decode cX12_manLine 92 = .ok (.ifCond .ne 5, 3) := by decide +kernel
theorem dX12_manLine_95 : decode cX12_manLine 95 = .ok (.iconst 0, 1) := by decide +kernel
theorem dX12_manLine_96 : decode cX12_manLine 96 = .ok (.ireturn, 1) := by decide +kernel
theorem dX12_manLine_97 : decode cX12_manLine 97 = .ok (.aload_n 0, 1) := by decide +kernel
theorem dX12_manLine_98 : decode cX12_manLine 98 = .ok (.getfield 45, 3) := by decide +kernel
theorem dX12_manLine_101 : decode cX12_manLine 101 = .ok (.iload_n 1, 1) := by decide +kernel
theorem dX12_manLine_102 : decode cX12_manLine 102 = .ok (.aload_n 0, 1) := by decide +kernel
theorem dX12_manLine_103 : decode cX12_manLine 103 = .ok (.getfield 203, 3) := by decide +kernel
theorem dX12_manLine_106 : decode cX12_manLine 106 = .ok (.iastore, 1) := by decide +kernel
theorem dX12_manLine_107 : decode cX12_manLine 107 = .ok (.aload_n 0, 1) := by decide +kernel
theorem dX12_manLine_108 : decode cX12_manLine 108 = .ok (.dup, 1) := by decide +kernel
theorem dX12_manLine_109 : decode cX12_manLine 109 = .ok (.getfield 219, 3) := by decide +kernel
theorem dX12_manLine_112 : decode cX12_manLine 112 = .ok (.iconst 1, 1) := by decide +kernel
theorem dX12_manLine_113 : decode cX12_manLine 113 = .ok (.iadd, 1) := by decide +kernel
theorem dX12_manLine_114 : decode cX12_manLine 114 = .ok (.putfield 219, 3) := by decide +kernel
theorem dX12_manLine_117 : decode cX12_manLine 117 = .ok (.iconst 1, 1) := by decide +kernel
theorem dX12_manLine_118 : decode cX12_manLine 118 = .ok (.ireturn, 1) := by decide +kernel
theorem dX12_holdLine_0 : decode cX12_holdLine 0 = .ok (.aload_n 0, 1) := by decide +kernel
theorem dX12_holdLine_1 : decode cX12_holdLine 1 = .ok (.getfield 222, 3) := by decide +kernel
theorem dX12_holdLine_4 : decode cX12_holdLine 4 = .ok (.iconst 3, 1) := by decide +kernel
theorem dX12_holdLine_5 : decode cX12_holdLine 5 = .ok (.if_icmp .ne 9, 3) := by decide +kernel
theorem dX12_holdLine_8 : decode cX12_holdLine 8 = .ok (.aload_n 0, 1) := by decide +kernel
theorem dX12_holdLine_9 : decode cX12_holdLine 9 = .ok (.iconst 2, 1) := by decide +kernel
theorem dX12_holdLine_10 : decode cX12_holdLine 10 = .ok (.invokevirtual 196, 3) := by decide +kernel
theorem dX12_holdLine_13 : decode cX12_holdLine 13 = .ok (.ireturn, 1) := by decide +kernel
theorem dX12_holdLine_14 : decode cX12_holdLine 14 = .ok (.aload_n 0, 1) := by decide +kernel
theorem dX12_holdLine_15 : decode cX12_holdLine 15 = .ok (.invokevirtual 206, 3) := by decide +kernel
theorem dX12_holdLine_18 : decode cX12_holdLine 18 = .ok (.iconst 3, 1) := by decide +kernel
theorem dX12_holdLine_19 : decode cX12_holdLine 19 = .ok (.aload_n 0, 1) := by decide +kernel
theorem dX12_holdLine_20 : decode cX12_holdLine 20 = .ok (.getfield 222, 3) := by decide +kernel
theorem dX12_holdLine_23 : decode cX12_holdLine 23 = .ok (.iadd, 1) := by decide +kernel
theorem dX12_holdLine_24 : decode cX12_holdLine 24 = .ok (.istore_n 1, 1) := by decide +kernel
theorem dX12_holdLine_25 : decode cX12_holdLine 25 = .ok (.aload_n 0, 1) := by decide +kernel
theorem dX12_holdLine_26 : decode cX12_holdLine 26 = .ok (.aload_n 0, 1) := by decide +kernel
theorem dX12_holdLine_27 : decode cX12_holdLine 27 = .ok (.getfield 48, 3) := by decide +kernel
theorem dX12_holdLine_30 : decode cX12_holdLine 30 = .ok (.iconst 3, 1) := by decide +kernel
theorem dX12_holdLine_31 : decode cX12_holdLine 31 = .ok (.aload_n 0, 1) := by decide +kernel
theorem dX12_holdLine_32 : decode cX12_holdLine 32 = .ok (.getfield 222, 3) := by decide +kernel
theorem dX12_holdLine_35 : decode cX12_holdLine 35 = .ok (.invokevirtual 308, 3) := by decide +kernel
theorem dX12_holdLine_38 : decode cX12_holdLine 38 = .ok (.ifCond .eq 13, 3) := by decide +kernel
theorem dX12_holdLine_41 : decode cX12_holdLine 41 = .ok (.aload_n 0, 1) := by decide +kernel
theorem dX12_holdLine_42 : decode cX12_holdLine 42 = .ok (.iconst 0, 1) := by decide +kernel
theorem dX12_holdLine_43 : decode cX12_holdLine 43 = .ok (.bipush 9, 2) := by decide +kernel
theorem dX12_holdLine_45 : decode cX12_holdLine 45 = .ok (.invokevirtual 212, 3) := by decide +kernel
theorem dX12_holdLine_48 : decode cX12_holdLine 48 = .ok (.ifCond .ne 5, 3) := by decide +kernel
theorem dX12_holdLine_51 : decode cX12_holdLine 51 = .ok (.iconst 0, 1) := by decide +kernel
theorem dX12_holdLine_52 : decode cX12_holdLine 52 = .ok (.ireturn, 1) := by decide +kernel
theorem dX12_holdLine_53 : decode cX12_holdLine 53 = .ok (.aload_n 0, 1) := by decide +kernel
theorem dX12_holdLine_54 : decode cX12_holdLine 54 = .ok (.getfield 51, 3) := by decide +kernel
theorem dX12_holdLine_57 : decode cX12_holdLine 57 = .ok (.iload_n 1, 1) := by decide +kernel
theorem dX12_holdLine_58 : decode cX12_holdLine 58 = .ok (.aload_n 0, 1) := by decide +kernel
theorem dX12_holdLine_59 : decode cX12_holdLine 59 = .ok (.getfield 203, 3) := by decide +kernel
theorem dX12_holdLine_62 : decode cX12_holdLine 62 = .ok (.iastore, 1) := by decide +kernel
theorem dX12_holdLine_63 : decode cX12_holdLine 63 = .ok (.aload_n 0, 1) := by decide +kernel
theorem dX12_holdLine_64 : decode cX12_holdLine 64 = .ok (.iconst 0, 1) := by decide +kernel
theorem dX12_holdLine_65 : decode cX12_holdLine 65 = .ok (.bipush 99, 2) := by decide +kernel
theorem dX12_holdLine_67 : decode cX12_holdLine 67 = .ok (.invokevirtual 212, 3) := by decide +kernel
theorem dX12_holdLine_70 : decode cX12_holdLine 70 = .ok (.ifCond .ne 5, 3) := by decide +kernel
theorem dX12_holdLine_73 : decode cX12_holdLine 73 = .ok (.iconst 0, 1) := by decide +kernel
theorem dX12_holdLine_74 : decode cX12_holdLine 74 = .ok (.ireturn, 1) := by decide +kernel
theorem dX12_holdLine_75 : decode cX12_holdLine 75 = .ok (.aload_n 0, 1) := by decide +kernel
theorem dX12_holdLine_76 : decode cX12_holdLine 76 = .ok (.getfield 54, 3) := by decide +kernel
theorem dX12_holdLine_79 : decode cX12_holdLine 79 = .ok (.iload_n 1, 1) := by decide +kernel
theorem dX12_holdLine_80 : decode cX12_holdLine 80 = .ok (.aload_n 0, 1) := by decide +kernel
theorem dX12_holdLine_81 : decode cX12_holdLine 81 = .ok (.getfield 203, 3) := by decide +kernel
theorem dX12_holdLine_84 : decode cX12_holdLine 84 = .ok (.iastore, 1) := by decide +kernel
theorem dX12_holdLine_85 : decode cX12_holdLine 85 = .ok (.aload_n 0, 1) := by decide +kernel
theorem dX12_holdLine_86 : decode cX12_holdLine 86 = .ok (.iconst 0, 1) := by decide +kernel
theorem dX12_holdLine_87 : decode cX12_holdLine 87 = .ok (.bipush 99, 2) := by decide +kernel
theorem dX12_holdLine_89 : decode cX12_holdLine 89 = .ok (.invokevirtual 212, 3) := by decide +kernel
theorem dX12_holdLine_92 : decode cX12_holdLine 92 = .ok (.ifCond .ne 5, 3) := by decide +kernel
theorem dX12_holdLine_95 : decode cX12_holdLine 95 = .ok (.iconst 0, 1) := by decide +kernel
theorem dX12_holdLine_96 : decode cX12_holdLine 96 = .ok (.ireturn, 1) := by decide +kernel
theorem dX12_holdLine_97 : decode cX12_holdLine 97 = .ok (.aload_n 0, 1) := by decide +kernel
theorem dX12_holdLine_98 : decode cX12_holdLine 98 = .ok (.getfield 57, 3) := by decide +kernel
theorem dX12_holdLine_101 : decode cX12_holdLine 101 = .ok (.iload_n 1, 1) := by decide +kernel
theorem dX12_holdLine_102 : decode cX12_holdLine 102 = .ok (.aload_n 0, 1) := by decide +kernel
theorem dX12_holdLine_103 : decode cX12_holdLine 103 = .ok (.getfield 203, 3) := by decide +kernel
theorem dX12_holdLine_106 : decode cX12_holdLine 106 = .ok (.iastore, 1) := by decide +kernel
theorem dX12_holdLine_107 : decode cX12_holdLine 107 = .ok (.aload_n 0, 1) := by decide +kernel
theorem dX12_holdLine_108 : decode cX12_holdLine 108 = .ok (.dup, 1) := by decide +kernel
theorem dX12_holdLine_109 : decode cX12_holdLine 109 = .ok (.getfield 222, 3) := by decide +kernel
theorem dX12_holdLine_112 : decode cX12_holdLine 112 = .ok (.iconst 1, 1) := by decide +kernel
theorem dX12_holdLine_113 : decode cX12_holdLine 113 = .ok (.iadd, 1) := by decide +kernel
theorem dX12_holdLine_114 : decode cX12_holdLine 114 = .ok (.putfield 222, 3) := by decide +kernel
theorem dX12_holdLine_117 : decode cX12_holdLine 117 = .ok (.iconst 1, 1) := by decide +kernel
theorem dX12_holdLine_118 : decode cX12_holdLine 118 = .ok (.ireturn, 1) := by decide +kernel
theorem dX12_planLine_0 : decode cX12_planLine 0 = .ok (.aload_n 0, 1) := by decide +kernel
theorem dX12_planLine_1 : decode cX12_planLine 1 = .ok (.getfield 225, 3) := by decide +kernel
theorem dX12_planLine_4 : decode cX12_planLine 4 = .ok (.iconst 5, 1) := by decide +kernel
theorem dX12_planLine_5 : decode cX12_planLine 5 = .ok (.if_icmp .ne 9, 3) := by decide +kernel
theorem dX12_planLine_8 : decode cX12_planLine 8 = .ok (.aload_n 0, 1) := by decide +kernel
theorem dX12_planLine_9 : decode cX12_planLine 9 = .ok (.iconst 2, 1) := by decide +kernel
theorem dX12_planLine_10 : decode cX12_planLine 10 = .ok (.invokevirtual 196, 3) := by decide +kernel
theorem dX12_planLine_13 : decode cX12_planLine 13 = .ok (.ireturn, 1) := by decide +kernel
theorem dX12_planLine_14 : decode cX12_planLine 14 = .ok (.aload_n 0, 1) := by decide +kernel
theorem dX12_planLine_15 : decode cX12_planLine 15 = .ok (.invokevirtual 206, 3) := by decide +kernel
theorem dX12_planLine_18 : decode cX12_planLine 18 = .ok (.iconst 5, 1) := by decide +kernel
theorem dX12_planLine_19 : decode cX12_planLine 19 = .ok (.aload_n 0, 1) := by decide +kernel
theorem dX12_planLine_20 : decode cX12_planLine 20 = .ok (.getfield 225, 3) := by decide +kernel
theorem dX12_planLine_23 : decode cX12_planLine 23 = .ok (.iadd, 1) := by decide +kernel
theorem dX12_planLine_24 : decode cX12_planLine 24 = .ok (.istore_n 1, 1) := by decide +kernel
theorem dX12_planLine_25 : decode cX12_planLine 25 = .ok (.aload_n 0, 1) := by decide +kernel
theorem dX12_planLine_26 : decode cX12_planLine 26 = .ok (.aload_n 0, 1) := by decide +kernel
theorem dX12_planLine_27 : decode cX12_planLine 27 = .ok (.getfield 60, 3) := by decide +kernel
theorem dX12_planLine_30 : decode cX12_planLine 30 = .ok (.iconst 5, 1) := by decide +kernel
theorem dX12_planLine_31 : decode cX12_planLine 31 = .ok (.aload_n 0, 1) := by decide +kernel
theorem dX12_planLine_32 : decode cX12_planLine 32 = .ok (.getfield 225, 3) := by decide +kernel
theorem dX12_planLine_35 : decode cX12_planLine 35 = .ok (.invokevirtual 308, 3) := by decide +kernel
theorem dX12_planLine_38 : decode cX12_planLine 38 = .ok (.ifCond .ne 5, 3) := by decide +kernel
theorem dX12_planLine_41 : decode cX12_planLine 41 = .ok (.iconst 0, 1) := by decide +kernel
theorem dX12_planLine_42 : decode cX12_planLine 42 = .ok (.ireturn, 1) := by decide +kernel
theorem dX12_planLine_43 : decode cX12_planLine 43 = .ok (.aload_n 0, 1) := by decide +kernel
theorem dX12_planLine_44 : decode cX12_planLine 44 = .ok (.getfield 172, 3) := by decide +kernel
theorem dX12_planLine_47 : decode cX12_planLine 47 = .ok (.iconst 2, 1) := by decide +kernel
theorem dX12_planLine_48 : decode cX12_planLine 48 = .ok (.if_icmp .eq 9, 3) := by decide +kernel
theorem dX12_planLine_51 : decode cX12_planLine 51 = .ok (.aload_n 0, 1) := by decide +kernel
theorem dX12_planLine_52 : decode cX12_planLine 52 = .ok (.iconst 1, 1) := by decide +kernel
theorem dX12_planLine_53 : decode cX12_planLine 53 = .ok (.invokevirtual 196, 3) := by decide +kernel
theorem dX12_planLine_56 : decode cX12_planLine 56 = .ok (.ireturn, 1) := by decide +kernel
theorem dX12_planLine_57 : decode cX12_planLine 57 = .ok (.aload_n 0, 1) := by decide +kernel
theorem dX12_planLine_58 : decode cX12_planLine 58 = .ok (.getfield 48, 3) := by decide +kernel
theorem dX12_planLine_61 : decode cX12_planLine 61 = .ok (.iconst 3, 1) := by decide +kernel
theorem dX12_planLine_62 : decode cX12_planLine 62 = .ok (.aload_n 0, 1) := by decide +kernel
theorem dX12_planLine_63 : decode cX12_planLine 63 = .ok (.getfield 222, 3) := by decide +kernel
theorem dX12_planLine_66 : decode cX12_planLine 66 = .ok (.aload_n 0, 1) := by decide +kernel
theorem dX12_planLine_67 : decode cX12_planLine 67 = .ok (.getfield 183, 3) := by decide +kernel
theorem dX12_planLine_70 : decode cX12_planLine 70 = .ok (.invokestatic 304, 3) := by decide +kernel
theorem dX12_planLine_73 : decode cX12_planLine 73 = .ok (.istore_n 2, 1) := by decide +kernel
theorem dX12_planLine_74 : decode cX12_planLine 74 = .ok (.iload_n 2, 1) := by decide +kernel
theorem dX12_planLine_75 : decode cX12_planLine 75 = .ok (.ifCond .ge 9, 3) := by decide +kernel
theorem dX12_planLine_78 : decode cX12_planLine 78 = .ok (.aload_n 0, 1) := by decide +kernel
theorem dX12_planLine_79 : decode cX12_planLine 79 = .ok (.iconst 4, 1) := by decide +kernel
theorem dX12_planLine_80 : decode cX12_planLine 80 = .ok (.invokevirtual 196, 3) := by decide +kernel
theorem dX12_planLine_83 : decode cX12_planLine 83 = .ok (.ireturn, 1) := by decide +kernel
theorem dX12_planLine_84 : decode cX12_planLine 84 = .ok (.aload_n 0, 1) := by decide +kernel
theorem dX12_planLine_85 : decode cX12_planLine 85 = .ok (.getfield 63, 3) := by decide +kernel
theorem dX12_planLine_88 : decode cX12_planLine 88 = .ok (.iload_n 1, 1) := by decide +kernel
theorem dX12_planLine_89 : decode cX12_planLine 89 = .ok (.iload_n 2, 1) := by decide +kernel
theorem dX12_planLine_90 : decode cX12_planLine 90 = .ok (.iastore, 1) := by decide +kernel
theorem dX12_planLine_91 : decode cX12_planLine 91 = .ok (.aload_n 0, 1) := by decide +kernel
theorem dX12_planLine_92 : decode cX12_planLine 92 = .ok (.invokevirtual 206, 3) := by decide +kernel
theorem dX12_planLine_95 : decode cX12_planLine 95 = .ok (.aload_n 0, 1) := by decide +kernel
theorem dX12_planLine_96 : decode cX12_planLine 96 = .ok (.getfield 66, 3) := by decide +kernel
theorem dX12_planLine_99 : decode cX12_planLine 99 = .ok (.iload_n 1, 1) := by decide +kernel
theorem dX12_planLine_100 : decode cX12_planLine 100 = .ok (.iconst 0, 1) := by decide +kernel
theorem dX12_planLine_101 : decode cX12_planLine 101 = .ok (.iastore, 1) := by decide +kernel
theorem dX12_planLine_102 : decode cX12_planLine 102 = .ok (.iconst 1, 1) := by decide +kernel
theorem dX12_planLine_103 : decode cX12_planLine 103 = .ok (.istore_n 3, 1) := by decide +kernel
theorem dX12_planLine_104 : decode cX12_planLine 104 = .ok (.iload_n 3, 1) := by decide +kernel
theorem dX12_planLine_105 : decode cX12_planLine 105 = .ok (.ifCond .eq 87, 3) := by decide +kernel
theorem dX12_planLine_108 : decode cX12_planLine 108 = .ok (.aload_n 0, 1) := by decide +kernel
theorem dX12_planLine_109 : decode cX12_planLine 109 = .ok (.getfield 172, 3) := by decide +kernel
theorem dX12_planLine_112 : decode cX12_planLine 112 = .ok (.iconst 3, 1) := by decide +kernel
theorem dX12_planLine_113 : decode cX12_planLine 113 = .ok (.if_icmp .ne 20, 3) := by decide +kernel
theorem dX12_planLine_116 : decode cX12_planLine 116 = .ok (.aload_n 0, 1) := by decide +kernel
theorem dX12_planLine_117 : decode cX12_planLine 117 = .ok (.getfield 66, 3) := by decide +kernel
theorem dX12_planLine_120 : decode cX12_planLine 120 = .ok (.iload_n 1, 1) := by decide +kernel
theorem dX12_planLine_121 : decode cX12_planLine 121 = .ok (.iaload, 1) := by decide +kernel
theorem dX12_planLine_122 : decode cX12_planLine 122 = .ok (.bipush 6, 2) := by decide +kernel
theorem dX12_planLine_124 : decode cX12_planLine 124 = .ok (.if_icmp .ne 9, 3) := by decide +kernel
theorem dX12_planLine_127 : decode cX12_planLine 127 = .ok (.aload_n 0, 1) := by decide +kernel
theorem dX12_planLine_128 : decode cX12_planLine 128 = .ok (.iconst 2, 1) := by decide +kernel
theorem dX12_planLine_129 : decode cX12_planLine 129 = .ok (.invokevirtual 196, 3) := by decide +kernel
theorem dX12_planLine_132 : decode cX12_planLine 132 = .ok (.ireturn, 1) := by decide +kernel
theorem dX12_planLine_133 : decode cX12_planLine 133 = .ok (.aload_n 0, 1) := by decide +kernel
theorem dX12_planLine_134 : decode cX12_planLine 134 = .ok (.iconst 1, 1) := by decide +kernel
theorem dX12_planLine_135 : decode cX12_planLine 135 = .ok (.bipush 9, 2) := by decide +kernel
theorem dX12_planLine_137 : decode cX12_planLine 137 = .ok (.invokevirtual 212, 3) := by decide +kernel
theorem dX12_planLine_140 : decode cX12_planLine 140 = .ok (.ifCond .ne 5, 3) := by decide +kernel
theorem dX12_planLine_143 : decode cX12_planLine 143 = .ok (.iconst 0, 1) := by decide +kernel
theorem dX12_planLine_144 : decode cX12_planLine 144 = .ok (.ireturn, 1) := by decide +kernel
theorem dX12_planLine_145 : decode cX12_planLine 145 = .ok (.aload_n 0, 1) := by decide +kernel
theorem dX12_planLine_146 : decode cX12_planLine 146 = .ok (.getfield 69, 3) := by decide +kernel
theorem dX12_planLine_149 : decode cX12_planLine 149 = .ok (.bipush 6, 2) := by decide +kernel
theorem dX12_planLine_151 : decode cX12_planLine 151 = .ok (.iload_n 1, 1) := by decide +kernel
theorem dX12_planLine_152 : decode cX12_planLine 152 = .ok (.imul, 1) := by decide +kernel
theorem dX12_planLine_153 : decode cX12_planLine 153 = .ok (.aload_n 0, 1) := by decide +kernel
theorem dX12_planLine_154 : decode cX12_planLine 154 = .ok (.getfield 66, 3) := by decide +kernel
theorem dX12_planLine_157 : decode cX12_planLine 157 = .ok (.iload_n 1, 1) := by decide +kernel
theorem dX12_planLine_158 : decode cX12_planLine 158 = .ok (.iaload, 1) := by decide +kernel
theorem dX12_planLine_159 : decode cX12_planLine 159 = .ok (.iadd, 1) := by decide +kernel
theorem dX12_planLine_160 : decode cX12_planLine 160 = .ok (.aload_n 0, 1) := by decide +kernel
theorem dX12_planLine_161 : decode cX12_planLine 161 = .ok (.getfield 203, 3) := by decide +kernel
theorem dX12_planLine_164 : decode cX12_planLine 164 = .ok (.iastore, 1) := by decide +kernel
theorem dX12_planLine_165 : decode cX12_planLine 165 = .ok (.aload_n 0, 1) := by decide +kernel
theorem dX12_planLine_166 : decode cX12_planLine 166 = .ok (.getfield 66, 3) := by decide +kernel
theorem dX12_planLine_169 : decode cX12_planLine 169 = .ok (.iload_n 1, 1) := by decide +kernel
theorem dX12_planLine_170 : decode cX12_planLine 170 = .ok (.dup2, 1) := by decide +kernel
theorem dX12_planLine_171 : decode cX12_planLine 171 = .ok (.iaload, 1) := by decide +kernel
theorem dX12_planLine_172 : decode cX12_planLine 172 = .ok (.iconst 1, 1) := by decide +kernel
theorem dX12_planLine_173 : decode cX12_planLine 173 = .ok (.iadd, 1) := by decide +kernel
theorem dX12_planLine_174 : decode cX12_planLine 174 = .ok (.iastore, 1) := by decide +kernel
theorem dX12_planLine_175 : decode cX12_planLine 175 = .ok (.aload_n 0, 1) := by decide +kernel
theorem dX12_planLine_176 : decode cX12_planLine 176 = .ok (.getfield 172, 3) := by decide +kernel
theorem dX12_planLine_179 : decode cX12_planLine 179 = .ok (.iconst 3, 1) := by decide +kernel
theorem dX12_planLine_180 : decode cX12_planLine 180 = .ok (.if_icmp .ne 7, 3) := by decide +kernel
theorem dX12_planLine_183 : decode cX12_planLine 183 = .ok (.iconst 1, 1) := by decide +kernel
theorem dX12_planLine_184 : decode cX12_planLine 184 = .ok (.goto 4, 3) := by decide +kernel
theorem dX12_planLine_187 : decode cX12_planLine 187 = .ok (.iconst 0, 1) := by decide +kernel
theorem dX12_planLine_188 : decode cX12_planLine 188 = .ok (.istore_n 3, 1) := by decide +kernel
theorem dX12_planLine_189 : decode cX12_planLine 189 = .ok (.goto (-85), 3) := by decide +kernel
theorem dX12_planLine_192 : decode cX12_planLine 192 = .ok (.aload_n 0, 1) := by decide +kernel
theorem dX12_planLine_193 : decode cX12_planLine 193 = .ok (.dup, 1) := by decide +kernel
theorem dX12_planLine_194 : decode cX12_planLine 194 = .ok (.getfield 225, 3) := by decide +kernel
theorem dX12_planLine_197 : decode cX12_planLine 197 = .ok (.iconst 1, 1) := by decide +kernel
theorem dX12_planLine_198 : decode cX12_planLine 198 = .ok (.iadd, 1) := by decide +kernel
theorem dX12_planLine_199 : decode cX12_planLine 199 = .ok (.putfield 225, 3) := by decide +kernel
theorem dX12_planLine_202 : decode cX12_planLine 202 = .ok (.iconst 1, 1) := by decide +kernel
theorem dX12_planLine_203 : decode cX12_planLine 203 = .ok (.ireturn, 1) := by decide +kernel
theorem dX12_judgeLine_0 : decode cX12_judgeLine 0 = .ok (.aload_n 0, 1) := by decide +kernel
theorem dX12_judgeLine_1 : decode cX12_judgeLine 1 = .ok (.getfield 228, 3) := by decide +kernel
theorem dX12_judgeLine_4 : decode cX12_judgeLine 4 = .ok (.iconst 4, 1) := by decide +kernel
theorem dX12_judgeLine_5 : decode cX12_judgeLine 5 = .ok (.if_icmp .ne 9, 3) := by decide +kernel
theorem dX12_judgeLine_8 : decode cX12_judgeLine 8 = .ok (.aload_n 0, 1) := by decide +kernel
theorem dX12_judgeLine_9 : decode cX12_judgeLine 9 = .ok (.iconst 2, 1) := by decide +kernel
theorem dX12_judgeLine_10 : decode cX12_judgeLine 10 = .ok (.invokevirtual 196, 3) := by decide +kernel
theorem dX12_judgeLine_13 : decode cX12_judgeLine 13 = .ok (.ireturn, 1) := by decide +kernel
theorem dX12_judgeLine_14 : decode cX12_judgeLine 14 = .ok (.aload_n 0, 1) := by decide +kernel
theorem dX12_judgeLine_15 : decode cX12_judgeLine 15 = .ok (.invokevirtual 206, 3) := by decide +kernel
theorem dX12_judgeLine_18 : decode cX12_judgeLine 18 = .ok (.iconst 4, 1) := by decide +kernel
theorem dX12_judgeLine_19 : decode cX12_judgeLine 19 = .ok (.aload_n 0, 1) := by decide +kernel
theorem dX12_judgeLine_20 : decode cX12_judgeLine 20 = .ok (.getfield 228, 3) := by decide +kernel
theorem dX12_judgeLine_23 : decode cX12_judgeLine 23 = .ok (.iadd, 1) := by decide +kernel
theorem dX12_judgeLine_24 : decode cX12_judgeLine 24 = .ok (.istore_n 1, 1) := by decide +kernel
theorem dX12_judgeLine_25 : decode cX12_judgeLine 25 = .ok (.aload_n 0, 1) := by decide +kernel
theorem dX12_judgeLine_26 : decode cX12_judgeLine 26 = .ok (.aload_n 0, 1) := by decide +kernel
theorem dX12_judgeLine_27 : decode cX12_judgeLine 27 = .ok (.getfield 72, 3) := by decide +kernel
theorem dX12_judgeLine_30 : decode cX12_judgeLine 30 = .ok (.iconst 4, 1) := by decide +kernel
theorem dX12_judgeLine_31 : decode cX12_judgeLine 31 = .ok (.aload_n 0, 1) := by decide +kernel
theorem dX12_judgeLine_32 : decode cX12_judgeLine 32 = .ok (.getfield 228, 3) := by decide +kernel
theorem dX12_judgeLine_35 : decode cX12_judgeLine 35 = .ok (.invokevirtual 308, 3) := by decide +kernel
theorem dX12_judgeLine_38 : decode cX12_judgeLine 38 = .ok (.ifCond .eq 13, 3) := by decide +kernel
theorem dX12_judgeLine_41 : decode cX12_judgeLine 41 = .ok (.aload_n 0, 1) := by decide +kernel
theorem dX12_judgeLine_42 : decode cX12_judgeLine 42 = .ok (.iconst 0, 1) := by decide +kernel
theorem dX12_judgeLine_43 : decode cX12_judgeLine 43 = .ok (.bipush 100, 2) := by decide +kernel
theorem dX12_judgeLine_45 : decode cX12_judgeLine 45 = .ok (.invokevirtual 212, 3) := by decide +kernel
theorem dX12_judgeLine_48 : decode cX12_judgeLine 48 = .ok (.ifCond .ne 5, 3) := by decide +kernel
theorem dX12_judgeLine_51 : decode cX12_judgeLine 51 = .ok (.iconst 0, 1) := by decide +kernel
theorem dX12_judgeLine_52 : decode cX12_judgeLine 52 = .ok (.ireturn, 1) := by decide +kernel
theorem dX12_judgeLine_53 : decode cX12_judgeLine 53 = .ok (.aload_n 0, 1) := by decide +kernel
theorem dX12_judgeLine_54 : decode cX12_judgeLine 54 = .ok (.getfield 75, 3) := by decide +kernel
theorem dX12_judgeLine_57 : decode cX12_judgeLine 57 = .ok (.iload_n 1, 1) := by decide +kernel
theorem dX12_judgeLine_58 : decode cX12_judgeLine 58 = .ok (.aload_n 0, 1) := by decide +kernel
theorem dX12_judgeLine_59 : decode cX12_judgeLine 59 = .ok (.getfield 203, 3) := by decide +kernel
theorem dX12_judgeLine_62 : decode cX12_judgeLine 62 = .ok (.iastore, 1) := by decide +kernel
theorem dX12_judgeLine_63 : decode cX12_judgeLine 63 = .ok (.aload_n 0, 1) := by decide +kernel
theorem dX12_judgeLine_64 : decode cX12_judgeLine 64 = .ok (.iconst 0, 1) := by decide +kernel
theorem dX12_judgeLine_65 : decode cX12_judgeLine 65 = .ok (.bipush 100, 2) := by decide +kernel
theorem dX12_judgeLine_67 : decode cX12_judgeLine 67 = .ok (.invokevirtual 212, 3) := by decide +kernel
theorem dX12_judgeLine_70 : decode cX12_judgeLine 70 = .ok (.ifCond .ne 5, 3) := by decide +kernel
theorem dX12_judgeLine_73 : decode cX12_judgeLine 73 = .ok (.iconst 0, 1) := by decide +kernel
theorem dX12_judgeLine_74 : decode cX12_judgeLine 74 = .ok (.ireturn, 1) := by decide +kernel
theorem dX12_judgeLine_75 : decode cX12_judgeLine 75 = .ok (.aload_n 0, 1) := by decide +kernel
theorem dX12_judgeLine_76 : decode cX12_judgeLine 76 = .ok (.getfield 78, 3) := by decide +kernel
theorem dX12_judgeLine_79 : decode cX12_judgeLine 79 = .ok (.iload_n 1, 1) := by decide +kernel
theorem dX12_judgeLine_80 : decode cX12_judgeLine 80 = .ok (.aload_n 0, 1) := by decide +kernel
theorem dX12_judgeLine_81 : decode cX12_judgeLine 81 = .ok (.getfield 203, 3) := by decide +kernel
theorem dX12_judgeLine_84 : decode cX12_judgeLine 84 = .ok (.iastore, 1) := by decide +kernel
theorem dX12_judgeLine_85 : decode cX12_judgeLine 85 = .ok (.aload_n 0, 1) := by decide +kernel
theorem dX12_judgeLine_86 : decode cX12_judgeLine 86 = .ok (.dup, 1) := by decide +kernel
theorem dX12_judgeLine_87 : decode cX12_judgeLine 87 = .ok (.getfield 228, 3) := by decide +kernel
theorem dX12_judgeLine_90 : decode cX12_judgeLine 90 = .ok (.iconst 1, 1) := by decide +kernel
theorem dX12_judgeLine_91 : decode cX12_judgeLine 91 = .ok (.iadd, 1) := by decide +kernel
theorem dX12_judgeLine_92 : decode cX12_judgeLine 92 = .ok (.putfield 228, 3) := by decide +kernel
theorem dX12_judgeLine_95 : decode cX12_judgeLine 95 = .ok (.iconst 1, 1) := by decide +kernel
theorem dX12_judgeLine_96 : decode cX12_judgeLine 96 = .ok (.ireturn, 1) := by decide +kernel
theorem dX12_lawLine_0 : decode cX12_lawLine 0 = .ok (.aload_n 0, 1) := by decide +kernel
theorem dX12_lawLine_1 : decode cX12_lawLine 1 = .ok (.invokevirtual 206, 3) := by decide +kernel
theorem dX12_lawLine_4 : decode cX12_lawLine 4 = .ok (.aload_n 0, 1) := by decide +kernel
theorem dX12_lawLine_5 : decode cX12_lawLine 5 = .ok (.getfield 172, 3) := by decide +kernel
theorem dX12_lawLine_8 : decode cX12_lawLine 8 = .ok (.iconst 1, 1) := by decide +kernel
theorem dX12_lawLine_9 : decode cX12_lawLine 9 = .ok (.if_icmp .ne 21, 3) := by decide +kernel
theorem dX12_lawLine_12 : decode cX12_lawLine 12 = .ok (.aload_n 0, 1) := by decide +kernel
theorem dX12_lawLine_13 : decode cX12_lawLine 13 = .ok (.getfield 183, 3) := by decide +kernel
theorem dX12_lawLine_16 : decode cX12_lawLine 16 = .ok (.bipush 10, 2) := by decide +kernel
theorem dX12_lawLine_18 : decode cX12_lawLine 18 = .ok (.if_icmp .lt 12, 3) := by decide +kernel
theorem dX12_lawLine_21 : decode cX12_lawLine 21 = .ok (.aload_n 0, 1) := by decide +kernel
theorem dX12_lawLine_22 : decode cX12_lawLine 22 = .ok (.getfield 183, 3) := by decide +kernel
theorem dX12_lawLine_25 : decode cX12_lawLine 25 = .ok (.bipush 17, 2) := by decide +kernel
theorem dX12_lawLine_27 : decode cX12_lawLine 27 = .ok (.if_icmp .le 9, 3) := by decide +kernel
theorem dX12_lawLine_30 : decode cX12_lawLine 30 = .ok (.aload_n 0, 1) := by decide +kernel
theorem dX12_lawLine_31 : decode cX12_lawLine 31 = .ok (.iconst 1, 1) := by decide +kernel
theorem dX12_lawLine_32 : decode cX12_lawLine 32 = .ok (.invokevirtual 196, 3) := by decide +kernel
theorem dX12_lawLine_35 : decode cX12_lawLine 35 = .ok (.ireturn, 1) := by decide +kernel
theorem dX12_lawLine_36 : decode cX12_lawLine 36 = .ok (.bipush 8, 2) := by decide +kernel
theorem dX12_lawLine_38 : decode cX12_lawLine 38 = .ok (.aload_n 0, 1) := by decide +kernel
theorem dX12_lawLine_39 : decode cX12_lawLine 39 = .ok (.getfield 183, 3) := by decide +kernel
theorem dX12_lawLine_42 : decode cX12_lawLine 42 = .ok (.iadd, 1) := by decide +kernel
theorem dX12_lawLine_43 : decode cX12_lawLine 43 = .ok (.bipush 10, 2) := by decide +kernel
theorem dX12_lawLine_45 : decode cX12_lawLine 45 = .ok (.isub, 1) := by decide +kernel
theorem dX12_lawLine_46 : decode cX12_lawLine 46 = .ok (.istore_n 1, 1) := by decide +kernel
theorem dX12_lawLine_47 : decode cX12_lawLine 47 = .ok (.aload_n 0, 1) := by decide +kernel
theorem dX12_lawLine_48 : decode cX12_lawLine 48 = .ok (.getfield 81, 3) := by decide +kernel
theorem dX12_lawLine_51 : decode cX12_lawLine 51 = .ok (.iload_n 1, 1) := by decide +kernel
theorem dX12_lawLine_52 : decode cX12_lawLine 52 = .ok (.baload, 1) := by decide +kernel
theorem dX12_lawLine_53 : decode cX12_lawLine 53 = .ok (.ifCond .eq 9, 3) := by decide +kernel
theorem dX12_lawLine_56 : decode cX12_lawLine 56 = .ok (.aload_n 0, 1) := by decide +kernel
theorem dX12_lawLine_57 : decode cX12_lawLine 57 = .ok (.iconst 3, 1) := by decide +kernel
theorem dX12_lawLine_58 : decode cX12_lawLine 58 = .ok (.invokevirtual 196, 3) := by decide +kernel
theorem dX12_lawLine_61 : decode cX12_lawLine 61 = .ok (.ireturn, 1) := by decide +kernel
theorem dX12_lawLine_62 : decode cX12_lawLine 62 = .ok (.aload_n 0, 1) := by decide +kernel
theorem dX12_lawLine_63 : decode cX12_lawLine 63 = .ok (.getfield 81, 3) := by decide +kernel
theorem dX12_lawLine_66 : decode cX12_lawLine 66 = .ok (.iload_n 1, 1) := by decide +kernel
theorem dX12_lawLine_67 : decode cX12_lawLine 67 = .ok (.iconst 1, 1) := by decide +kernel
theorem dX12_lawLine_68 : decode cX12_lawLine 68 = .ok (.bastore, 1) := by decide +kernel
theorem dX12_lawLine_69 : decode cX12_lawLine 69 = .ok (.aload_n 0, 1) := by decide +kernel
theorem dX12_lawLine_70 : decode cX12_lawLine 70 = .ok (.invokevirtual 206, 3) := by decide +kernel
theorem dX12_lawLine_73 : decode cX12_lawLine 73 = .ok (.aload_n 0, 1) := by decide +kernel
theorem dX12_lawLine_74 : decode cX12_lawLine 74 = .ok (.getfield 84, 3) := by decide +kernel
theorem dX12_lawLine_77 : decode cX12_lawLine 77 = .ok (.iload_n 1, 1) := by decide +kernel
theorem dX12_lawLine_78 : decode cX12_lawLine 78 = .ok (.aload_n 0, 1) := by decide +kernel
theorem dX12_lawLine_79 : decode cX12_lawLine 79 = .ok (.getfield 231, 3) := by decide +kernel
theorem dX12_lawLine_82 : decode cX12_lawLine 82 = .ok (.iastore, 1) := by decide +kernel
theorem dX12_lawLine_83 : decode cX12_lawLine 83 = .ok (.aload_n 0, 1) := by decide +kernel
theorem dX12_lawLine_84 : decode cX12_lawLine 84 = .ok (.invokevirtual 315, 3) := by decide +kernel
theorem dX12_lawLine_87 : decode cX12_lawLine 87 = .ok (.ifCond .ne 5, 3) := by decide +kernel
theorem dX12_lawLine_90 : decode cX12_lawLine 90 = .ok (.iconst 0, 1) := by decide +kernel
theorem dX12_lawLine_91 : decode cX12_lawLine 91 = .ok (.ireturn, 1) := by decide +kernel
theorem dX12_lawLine_92 : decode cX12_lawLine 92 = .ok (.aload_n 0, 1) := by decide +kernel
theorem dX12_lawLine_93 : decode cX12_lawLine 93 = .ok (.getfield 87, 3) := by decide +kernel
theorem dX12_lawLine_96 : decode cX12_lawLine 96 = .ok (.iload_n 1, 1) := by decide +kernel
theorem dX12_lawLine_97 : decode cX12_lawLine 97 = .ok (.aload_n 0, 1) := by decide +kernel
theorem dX12_lawLine_98 : decode cX12_lawLine 98 = .ok (.getfield 231, 3) := by decide +kernel
theorem dX12_lawLine_101 : decode cX12_lawLine 101 = .ok (.iastore, 1) := by decide +kernel
theorem dX12_lawLine_102 : decode cX12_lawLine 102 = .ok (.iconst 1, 1) := by decide +kernel
theorem dX12_lawLine_103 : decode cX12_lawLine 103 = .ok (.ireturn, 1) := by decide +kernel
theorem dX12_lineRead_0 : decode cX12_lineRead 0 = .ok (.aload_n 0, 1) := by decide +kernel
theorem dX12_lineRead_1 : decode cX12_lineRead 1 = .ok (.getfield 172, 3) := by decide +kernel
theorem dX12_lineRead_4 : decode cX12_lineRead 4 = .ok (.iconst 1, 1) := by decide +kernel
theorem dX12_lineRead_5 : decode cX12_lineRead 5 = .ok (.if_icmp .ne 12, 3) := by decide +kernel
theorem dX12_lineRead_8 : decode cX12_lineRead 8 = .ok (.aload_n 0, 1) := by decide +kernel
theorem dX12_lineRead_9 : decode cX12_lineRead 9 = .ok (.getfield 183, 3) := by decide +kernel
theorem dX12_lineRead_12 : decode cX12_lineRead 12 = .ok (.bipush 7, 2) := by decide +kernel
theorem dX12_lineRead_14 : decode cX12_lineRead 14 = .ok (.if_icmp .le 9, 3) := by decide +kernel
theorem dX12_lineRead_17 : decode cX12_lineRead 17 = .ok (.aload_n 0, 1) := by decide +kernel
theorem dX12_lineRead_18 : decode cX12_lineRead 18 = .ok (.iconst 1, 1) := by decide +kernel
theorem dX12_lineRead_19 : decode cX12_lineRead 19 = .ok (.invokevirtual 196, 3) := by decide +kernel
theorem dX12_lineRead_22 : decode cX12_lineRead 22 = .ok (.ireturn, 1) := by decide +kernel
theorem dX12_lineRead_23 : decode cX12_lineRead 23 = .ok (.aload_n 0, 1) := by decide +kernel
theorem dX12_lineRead_24 : decode cX12_lineRead 24 = .ok (.getfield 183, 3) := by decide +kernel
theorem dX12_lineRead_27 : decode cX12_lineRead 27 = .ok (.tableswitch 163 0 6 #[41, 49, 57, 65, 73, 81, 122], 41) := by decide +kernel
theorem dX12_lineRead_68 : decode cX12_lineRead 68 = .ok (.aload_n 0, 1) := by decide +kernel
theorem dX12_lineRead_69 : decode cX12_lineRead 69 = .ok (.invokevirtual 319, 3) := by decide +kernel
theorem dX12_lineRead_72 : decode cX12_lineRead 72 = .ok (.istore_n 1, 1) := by decide +kernel
theorem dX12_lineRead_73 : decode cX12_lineRead 73 = .ok (.goto 122, 3) := by decide +kernel
theorem dX12_lineRead_76 : decode cX12_lineRead 76 = .ok (.aload_n 0, 1) := by decide +kernel
theorem dX12_lineRead_77 : decode cX12_lineRead 77 = .ok (.invokevirtual 322, 3) := by decide +kernel
theorem dX12_lineRead_80 : decode cX12_lineRead 80 = .ok (.istore_n 1, 1) := by decide +kernel
theorem dX12_lineRead_81 : decode cX12_lineRead 81 = .ok (.goto 114, 3) := by decide +kernel
theorem dX12_lineRead_84 : decode cX12_lineRead 84 = .ok (.aload_n 0, 1) := by decide +kernel
theorem dX12_lineRead_85 : decode cX12_lineRead 85 = .ok (.invokevirtual 325, 3) := by decide +kernel
theorem dX12_lineRead_88 : decode cX12_lineRead 88 = .ok (.istore_n 1, 1) := by decide +kernel
theorem dX12_lineRead_89 : decode cX12_lineRead 89 = .ok (.goto 106, 3) := by decide +kernel
theorem dX12_lineRead_92 : decode cX12_lineRead 92 = .ok (.aload_n 0, 1) := by decide +kernel
theorem dX12_lineRead_93 : decode cX12_lineRead 93 = .ok (.invokevirtual 328, 3) := by decide +kernel
theorem dX12_lineRead_96 : decode cX12_lineRead 96 = .ok (.istore_n 1, 1) := by decide +kernel
theorem dX12_lineRead_97 : decode cX12_lineRead 97 = .ok (.goto 98, 3) := by decide +kernel
theorem dX12_lineRead_100 : decode cX12_lineRead 100 = .ok (.aload_n 0, 1) := by decide +kernel
theorem dX12_lineRead_101 : decode cX12_lineRead 101 = .ok (.invokevirtual 331, 3) := by decide +kernel
theorem dX12_lineRead_104 : decode cX12_lineRead 104 = .ok (.istore_n 1, 1) := by decide +kernel
theorem dX12_lineRead_105 : decode cX12_lineRead 105 = .ok (.goto 90, 3) := by decide +kernel
theorem dX12_lineRead_108 : decode cX12_lineRead 108 = .ok (.aload_n 0, 1) := by decide +kernel
theorem dX12_lineRead_109 : decode cX12_lineRead 109 = .ok (.getfield 243, 3) := by decide +kernel
theorem dX12_lineRead_112 : decode cX12_lineRead 112 = .ok (.ifCond .eq 9, 3) := by decide +kernel
theorem dX12_lineRead_115 : decode cX12_lineRead 115 = .ok (.aload_n 0, 1) := by decide +kernel
theorem dX12_lineRead_116 : decode cX12_lineRead 116 = .ok (.iconst 3, 1) := by decide +kernel
theorem dX12_lineRead_117 : decode cX12_lineRead 117 = .ok (.invokevirtual 196, 3) := by decide +kernel
theorem dX12_lineRead_120 : decode cX12_lineRead 120 = .ok (.ireturn, 1) := by decide +kernel
theorem dX12_lineRead_121 : decode cX12_lineRead 121 = .ok (.aload_n 0, 1) := by decide +kernel
theorem dX12_lineRead_122 : decode cX12_lineRead 122 = .ok (.iconst 1, 1) := by decide +kernel
theorem dX12_lineRead_123 : decode cX12_lineRead 123 = .ok (.putfield 243, 3) := by decide +kernel
theorem dX12_lineRead_126 : decode cX12_lineRead 126 = .ok (.aload_n 0, 1) := by decide +kernel
theorem dX12_lineRead_127 : decode cX12_lineRead 127 = .ok (.invokevirtual 206, 3) := by decide +kernel
theorem dX12_lineRead_130 : decode cX12_lineRead 130 = .ok (.aload_n 0, 1) := by decide +kernel
theorem dX12_lineRead_131 : decode cX12_lineRead 131 = .ok (.iconst 0, 1) := by decide +kernel
theorem dX12_lineRead_132 : decode cX12_lineRead 132 = .ok (.bipush 30, 2) := by decide +kernel
theorem dX12_lineRead_134 : decode cX12_lineRead 134 = .ok (.invokevirtual 212, 3) := by decide +kernel
theorem dX12_lineRead_137 : decode cX12_lineRead 137 = .ok (.istore_n 1, 1) := by decide +kernel
theorem dX12_lineRead_138 : decode cX12_lineRead 138 = .ok (.aload_n 0, 1) := by decide +kernel
theorem dX12_lineRead_139 : decode cX12_lineRead 139 = .ok (.aload_n 0, 1) := by decide +kernel
theorem dX12_lineRead_140 : decode cX12_lineRead 140 = .ok (.getfield 203, 3) := by decide +kernel
theorem dX12_lineRead_143 : decode cX12_lineRead 143 = .ok (.putfield 237, 3) := by decide +kernel
theorem dX12_lineRead_146 : decode cX12_lineRead 146 = .ok (.goto 49, 3) := by decide +kernel
theorem dX12_lineRead_149 : decode cX12_lineRead 149 = .ok (.aload_n 0, 1) := by decide +kernel
theorem dX12_lineRead_150 : decode cX12_lineRead 150 = .ok (.getfield 247, 3) := by decide +kernel
theorem dX12_lineRead_153 : decode cX12_lineRead 153 = .ok (.ifCond .eq 9, 3) := by decide +kernel
theorem dX12_lineRead_156 : decode cX12_lineRead 156 = .ok (.aload_n 0, 1) := by decide +kernel
theorem dX12_lineRead_157 : decode cX12_lineRead 157 = .ok (.iconst 3, 1) := by decide +kernel
theorem dX12_lineRead_158 : decode cX12_lineRead 158 = .ok (.invokevirtual 196, 3) := by decide +kernel
theorem dX12_lineRead_161 : decode cX12_lineRead 161 = .ok (.ireturn, 1) := by decide +kernel
theorem dX12_lineRead_162 : decode cX12_lineRead 162 = .ok (.aload_n 0, 1) := by decide +kernel
theorem dX12_lineRead_163 : decode cX12_lineRead 163 = .ok (.iconst 1, 1) := by decide +kernel
theorem dX12_lineRead_164 : decode cX12_lineRead 164 = .ok (.putfield 247, 3) := by decide +kernel
theorem dX12_lineRead_167 : decode cX12_lineRead 167 = .ok (.aload_n 0, 1) := by decide +kernel
theorem dX12_lineRead_168 : decode cX12_lineRead 168 = .ok (.invokevirtual 206, 3) := by decide +kernel
theorem dX12_lineRead_171 : decode cX12_lineRead 171 = .ok (.aload_n 0, 1) := by decide +kernel
theorem dX12_lineRead_172 : decode cX12_lineRead 172 = .ok (.iconst 0, 1) := by decide +kernel
theorem dX12_lineRead_173 : decode cX12_lineRead 173 = .ok (.ldc 192, 2) := by decide +kernel
theorem dX12_lineRead_175 : decode cX12_lineRead 175 = .ok (.invokevirtual 212, 3) := by decide +kernel
theorem dX12_lineRead_178 : decode cX12_lineRead 178 = .ok (.istore_n 1, 1) := by decide +kernel
theorem dX12_lineRead_179 : decode cX12_lineRead 179 = .ok (.aload_n 0, 1) := by decide +kernel
theorem dX12_lineRead_180 : decode cX12_lineRead 180 = .ok (.aload_n 0, 1) := by decide +kernel
theorem dX12_lineRead_181 : decode cX12_lineRead 181 = .ok (.getfield 203, 3) := by decide +kernel
theorem dX12_lineRead_184 : decode cX12_lineRead 184 = .ok (.putfield 240, 3) := by decide +kernel
theorem dX12_lineRead_187 : decode cX12_lineRead 187 = .ok (.goto 8, 3) := by decide +kernel
theorem dX12_lineRead_190 : decode cX12_lineRead 190 = .ok (.aload_n 0, 1) := by decide +kernel
theorem dX12_lineRead_191 : decode cX12_lineRead 191 = .ok (.invokevirtual 334, 3) := by decide +kernel
theorem dX12_lineRead_194 : decode cX12_lineRead 194 = .ok (.istore_n 1, 1) := by decide +kernel
theorem dX12_lineRead_195 : decode cX12_lineRead 195 = .ok (.iload_n 1, 1) := by decide +kernel
theorem dX12_lineRead_196 : decode cX12_lineRead 196 = .ok (.ifCond .ne 5, 3) := by decide +kernel
theorem dX12_lineRead_199 : decode cX12_lineRead 199 = .ok (.iconst 0, 1) := by decide +kernel
theorem dX12_lineRead_200 : decode cX12_lineRead 200 = .ok (.ireturn, 1) := by decide +kernel
theorem dX12_lineRead_201 : decode cX12_lineRead 201 = .ok (.aload_n 0, 1) := by decide +kernel
theorem dX12_lineRead_202 : decode cX12_lineRead 202 = .ok (.bipush 59, 2) := by decide +kernel
theorem dX12_lineRead_204 : decode cX12_lineRead 204 = .ok (.invokevirtual 209, 3) := by decide +kernel
theorem dX12_lineRead_207 : decode cX12_lineRead 207 = .ok (.ifCond .ne 9, 3) := by decide +kernel
theorem dX12_lineRead_210 : decode cX12_lineRead 210 = .ok (.aload_n 0, 1) := by decide +kernel
theorem dX12_lineRead_211 : decode cX12_lineRead 211 = .ok (.iconst 1, 1) := by decide +kernel
theorem dX12_lineRead_212 : decode cX12_lineRead 212 = .ok (.invokevirtual 196, 3) := by decide +kernel
theorem dX12_lineRead_215 : decode cX12_lineRead 215 = .ok (.ireturn, 1) := by decide +kernel
theorem dX12_lineRead_216 : decode cX12_lineRead 216 = .ok (.aload_n 0, 1) := by decide +kernel
theorem dX12_lineRead_217 : decode cX12_lineRead 217 = .ok (.invokevirtual 206, 3) := by decide +kernel
theorem dX12_lineRead_220 : decode cX12_lineRead 220 = .ok (.iconst 1, 1) := by decide +kernel
theorem dX12_lineRead_221 : decode cX12_lineRead 221 = .ok (.ireturn, 1) := by decide +kernel
theorem dX12_text_0 : decode cX12_text 0 = .ok (.aload_n 0, 1) := by decide +kernel
theorem dX12_text_1 : decode cX12_text 1 = .ok (.iconst 0, 1) := by decide +kernel
theorem dX12_text_2 : decode cX12_text 2 = .ok (.putfield 154, 3) := by decide +kernel
theorem dX12_text_5 : decode cX12_text 5 = .ok (.iload_n 1, 1) := by decide +kernel
theorem dX12_text_6 : decode cX12_text 6 = .ok (.ifCond .lt 11, 3) := by decide +kernel
theorem dX12_text_9 : decode cX12_text 9 = .ok (.iload_n 1, 1) := by decide +kernel
theorem dX12_text_10 : decode cX12_text 10 = .ok (.aload_n 0, 1) := by decide +kernel
theorem dX12_text_11 : decode cX12_text 11 = .ok (.getfield 157, 3) := by decide +kernel
theorem dX12_text_14 : decode cX12_text 14 = .ok (.if_icmp .le 6, 3) := by decide +kernel
theorem dX12_text_17 : decode cX12_text 17 = .ok (.bipush (-2), 2) := by decide +kernel
theorem dX12_text_19 : decode cX12_text 19 = .ok (.ireturn, 1) := by decide +kernel
theorem dX12_text_20 : decode cX12_text 20 = .ok (.aload_n 0, 1) := by decide +kernel
theorem dX12_text_21 : decode cX12_text 21 = .ok (.iload_n 1, 1) := by decide +kernel
theorem dX12_text_22 : decode cX12_text 22 = .ok (.putfield 166, 3) := by decide +kernel
theorem dX12_text_25 : decode cX12_text 25 = .ok (.aload_n 0, 1) := by decide +kernel
theorem dX12_text_26 : decode cX12_text 26 = .ok (.iconst 0, 1) := by decide +kernel
theorem dX12_text_27 : decode cX12_text 27 = .ok (.putfield 157, 3) := by decide +kernel
theorem dX12_text_30 : decode cX12_text 30 = .ok (.aload_n 0, 1) := by decide +kernel
theorem dX12_text_31 : decode cX12_text 31 = .ok (.iconst 0, 1) := by decide +kernel
theorem dX12_text_32 : decode cX12_text 32 = .ok (.putfield 160, 3) := by decide +kernel
theorem dX12_text_35 : decode cX12_text 35 = .ok (.aload_n 0, 1) := by decide +kernel
theorem dX12_text_36 : decode cX12_text 36 = .ok (.iconst (-1), 1) := by decide +kernel
theorem dX12_text_37 : decode cX12_text 37 = .ok (.putfield 16, 3) := by decide +kernel
theorem dX12_text_40 : decode cX12_text 40 = .ok (.aload_n 0, 1) := by decide +kernel
theorem dX12_text_41 : decode cX12_text 41 = .ok (.iconst 0, 1) := by decide +kernel
theorem dX12_text_42 : decode cX12_text 42 = .ok (.putfield 169, 3) := by decide +kernel
theorem dX12_text_45 : decode cX12_text 45 = .ok (.aload_n 0, 1) := by decide +kernel
theorem dX12_text_46 : decode cX12_text 46 = .ok (.invokevirtual 148, 3) := by decide +kernel
theorem dX12_text_49 : decode cX12_text 49 = .ok (.aload_n 0, 1) := by decide +kernel
theorem dX12_text_50 : decode cX12_text 50 = .ok (.invokevirtual 206, 3) := by decide +kernel
theorem dX12_text_53 : decode cX12_text 53 = .ok (.iconst 0, 1) := by decide +kernel
theorem dX12_text_54 : decode cX12_text 54 = .ok (.istore_n 2, 1) := by decide +kernel
theorem dX12_text_55 : decode cX12_text 55 = .ok (.aload_n 0, 1) := by decide +kernel
theorem dX12_text_56 : decode cX12_text 56 = .ok (.getfield 172, 3) := by decide +kernel
theorem dX12_text_59 : decode cX12_text 59 = .ok (.ifCond .eq 18, 3) := by decide +kernel
theorem dX12_text_62 : decode cX12_text 62 = .ok (.aload_n 0, 1) := by decide +kernel
theorem dX12_text_63 : decode cX12_text 63 = .ok (.invokevirtual 337, 3) := by decide +kernel
theorem dX12_text_66 : decode cX12_text 66 = .ok (.ifCond .ne 5, 3) := by decide +kernel
theorem dX12_text_69 : decode cX12_text 69 = .ok (.iconst (-1), 1) := by decide +kernel
theorem dX12_text_70 : decode cX12_text 70 = .ok (.ireturn, 1) := by decide +kernel
theorem dX12_text_71 : decode cX12_text 71 = .ok (.iinc 2 1, 3) := by decide +kernel
theorem dX12_text_74 : decode cX12_text 74 = .ok (.goto (-19), 3) := by decide +kernel
theorem dX12_text_77 : decode cX12_text 77 = .ok (.aload_n 0, 1) := by decide +kernel
theorem dX12_text_78 : decode cX12_text 78 = .ok (.invokevirtual 151, 3) := by decide +kernel
theorem dX12_text_81 : decode cX12_text 81 = .ok (.iload_n 2, 1) := by decide +kernel
theorem dX12_text_82 : decode cX12_text 82 = .ok (.ireturn, 1) := by decide +kernel
theorem dX12_fault_0 : decode cX12_fault 0 = .ok (.aload_n 0, 1) := by decide +kernel
theorem dX12_fault_1 : decode cX12_fault 1 = .ok (.iconst 0, 1) := by decide +kernel
theorem dX12_fault_2 : decode cX12_fault 2 = .ok (.putfield 154, 3) := by decide +kernel
theorem dX12_fault_5 : decode cX12_fault 5 = .ok (.iload_n 1, 1) := by decide +kernel
theorem dX12_fault_6 : decode cX12_fault 6 = .ok (.ifCond .ne 10, 3) := by decide +kernel
theorem dX12_fault_9 : decode cX12_fault 9 = .ok (.aload_n 0, 1) := by decide +kernel
theorem dX12_fault_10 : decode cX12_fault 10 = .ok (.getfield 160, 3) := by decide +kernel
theorem dX12_fault_13 : decode cX12_fault 13 = .ok (.goto 16, 3) := by decide +kernel
theorem dX12_fault_16 : decode cX12_fault 16 = .ok (.iload_n 1, 1) := by decide +kernel
theorem dX12_fault_17 : decode cX12_fault 17 = .ok (.iconst 1, 1) := by decide +kernel
theorem dX12_fault_18 : decode cX12_fault 18 = .ok (.if_icmp .ne 10, 3) := by decide +kernel
theorem dX12_fault_21 : decode cX12_fault 21 = .ok (.aload_n 0, 1) := by decide +kernel
theorem dX12_fault_22 : decode cX12_fault 22 = .ok (.getfield 16, 3) := by decide +kernel
theorem dX12_fault_25 : decode cX12_fault 25 = .ok (.goto 4, 3) := by decide +kernel
theorem dX12_fault_28 : decode cX12_fault 28 = .ok (.iconst (-1), 1) := by decide +kernel
theorem dX12_fault_29 : decode cX12_fault 29 = .ok (.ireturn, 1) := by decide +kernel
theorem dX12_named_0 : decode cX12_named 0 = .ok (.aload_n 0, 1) := by decide +kernel
theorem dX12_named_1 : decode cX12_named 1 = .ok (.iconst 0, 1) := by decide +kernel
theorem dX12_named_2 : decode cX12_named 2 = .ok (.putfield 154, 3) := by decide +kernel
theorem dX12_named_5 : decode cX12_named 5 = .ok (.iload_n 1, 1) := by decide +kernel
theorem dX12_named_6 : decode cX12_named 6 = .ok (.tableswitch 104 0 4 #[34, 48, 62, 76, 90], 34) := by decide +kernel
theorem dX12_named_40 : decode cX12_named 40 = .ok (.aload_n 0, 1) := by decide +kernel
theorem dX12_named_41 : decode cX12_named 41 = .ok (.getfield 20, 3) := by decide +kernel
theorem dX12_named_44 : decode cX12_named 44 = .ok (.iconst 0, 1) := by decide +kernel
theorem dX12_named_45 : decode cX12_named 45 = .ok (.aload_n 0, 1) := by decide +kernel
theorem dX12_named_46 : decode cX12_named 46 = .ok (.getfield 250, 3) := by decide +kernel
theorem dX12_named_49 : decode cX12_named 49 = .ok (.iload_n 2, 1) := by decide +kernel
theorem dX12_named_50 : decode cX12_named 50 = .ok (.invokestatic 304, 3) := by decide +kernel
theorem dX12_named_53 : decode cX12_named 53 = .ok (.ireturn, 1) := by decide +kernel
theorem dX12_named_54 : decode cX12_named 54 = .ok (.aload_n 0, 1) := by decide +kernel
theorem dX12_named_55 : decode cX12_named 55 = .ok (.getfield 36, 3) := by decide +kernel
theorem dX12_named_58 : decode cX12_named 58 = .ok (.iconst 0, 1) := by decide +kernel
theorem dX12_named_59 : decode cX12_named 59 = .ok (.aload_n 0, 1) := by decide +kernel
theorem dX12_named_60 : decode cX12_named 60 = .ok (.getfield 253, 3) := by decide +kernel
theorem dX12_named_63 : decode cX12_named 63 = .ok (.iload_n 2, 1) := by decide +kernel
theorem dX12_named_64 : decode cX12_named 64 = .ok (.invokestatic 304, 3) := by decide +kernel
theorem dX12_named_67 : decode cX12_named 67 = .ok (.ireturn, 1) := by decide +kernel
theorem dX12_named_68 : decode cX12_named 68 = .ok (.aload_n 0, 1) := by decide +kernel
theorem dX12_named_69 : decode cX12_named 69 = .ok (.getfield 48, 3) := by decide +kernel
theorem dX12_named_72 : decode cX12_named 72 = .ok (.iconst 0, 1) := by decide +kernel
theorem dX12_named_73 : decode cX12_named 73 = .ok (.aload_n 0, 1) := by decide +kernel
theorem dX12_named_74 : decode cX12_named 74 = .ok (.getfield 256, 3) := by decide +kernel
theorem dX12_named_77 : decode cX12_named 77 = .ok (.iload_n 2, 1) := by decide +kernel
theorem dX12_named_78 : decode cX12_named 78 = .ok (.invokestatic 304, 3) := by decide +kernel
theorem dX12_named_81 : decode cX12_named 81 = .ok (.ireturn, 1) := by decide +kernel
theorem dX12_named_82 : decode cX12_named 82 = .ok (.aload_n 0, 1) := by decide +kernel
theorem dX12_named_83 : decode cX12_named 83 = .ok (.getfield 60, 3) := by decide +kernel
theorem dX12_named_86 : decode cX12_named 86 = .ok (.iconst 0, 1) := by decide +kernel
theorem dX12_named_87 : decode cX12_named 87 = .ok (.aload_n 0, 1) := by decide +kernel
theorem dX12_named_88 : decode cX12_named 88 = .ok (.getfield 259, 3) := by decide +kernel
theorem dX12_named_91 : decode cX12_named 91 = .ok (.iload_n 2, 1) := by decide +kernel
theorem dX12_named_92 : decode cX12_named 92 = .ok (.invokestatic 304, 3) := by decide +kernel
theorem dX12_named_95 : decode cX12_named 95 = .ok (.ireturn, 1) := by decide +kernel
theorem dX12_named_96 : decode cX12_named 96 = .ok (.aload_n 0, 1) := by decide +kernel
theorem dX12_named_97 : decode cX12_named 97 = .ok (.getfield 72, 3) := by decide +kernel
theorem dX12_named_100 : decode cX12_named 100 = .ok (.iconst 0, 1) := by decide +kernel
theorem dX12_named_101 : decode cX12_named 101 = .ok (.aload_n 0, 1) := by decide +kernel
theorem dX12_named_102 : decode cX12_named 102 = .ok (.getfield 262, 3) := by decide +kernel
theorem dX12_named_105 : decode cX12_named 105 = .ok (.iload_n 2, 1) := by decide +kernel
theorem dX12_named_106 : decode cX12_named 106 = .ok (.invokestatic 304, 3) := by decide +kernel
theorem dX12_named_109 : decode cX12_named 109 = .ok (.ireturn, 1) := by decide +kernel
theorem dX12_named_110 : decode cX12_named 110 = .ok (.iconst (-1), 1) := by decide +kernel
theorem dX12_named_111 : decode cX12_named 111 = .ok (.ireturn, 1) := by decide +kernel
theorem dX12_rank_0 : decode cX12_rank 0 = .ok (.iload_n 0, 1) := by decide +kernel
theorem dX12_rank_1 : decode cX12_rank 1 = .ok (.bipush 13, 2) := by decide +kernel
theorem dX12_rank_3 : decode cX12_rank 3 = .ok (.if_icmp .lt 8, 3) := by decide +kernel
theorem dX12_rank_6 : decode cX12_rank 6 = .ok (.bipush 6, 2) := by decide +kernel
theorem dX12_rank_8 : decode cX12_rank 8 = .ok (.goto 50, 3) := by decide +kernel
theorem dX12_rank_11 : decode cX12_rank 11 = .ok (.iload_n 0, 1) := by decide +kernel
theorem dX12_rank_12 : decode cX12_rank 12 = .ok (.bipush 11, 2) := by decide +kernel
theorem dX12_rank_14 : decode cX12_rank 14 = .ok (.if_icmp .lt 7, 3) := by decide +kernel
theorem dX12_rank_17 : decode cX12_rank 17 = .ok (.iconst 5, 1) := by decide +kernel
theorem dX12_rank_18 : decode cX12_rank 18 = .ok (.goto 40, 3) := by decide +kernel
theorem dX12_rank_21 : decode cX12_rank 21 = .ok (.iload_n 0, 1) := by decide +kernel
theorem dX12_rank_22 : decode cX12_rank 22 = .ok (.iconst 5, 1) := by decide +kernel
theorem dX12_rank_23 : decode cX12_rank 23 = .ok (.if_icmp .lt 7, 3) := by decide +kernel
theorem dX12_rank_26 : decode cX12_rank 26 = .ok (.iconst 4, 1) := by decide +kernel
theorem dX12_rank_27 : decode cX12_rank 27 = .ok (.goto 31, 3) := by decide +kernel
theorem dX12_rank_30 : decode cX12_rank 30 = .ok (.iload_n 0, 1) := by decide +kernel
theorem dX12_rank_31 : decode cX12_rank 31 = .ok (.iconst 2, 1) := by decide +kernel
theorem dX12_rank_32 : decode cX12_rank 32 = .ok (.if_icmp .ne 7, 3) := by decide +kernel
theorem dX12_rank_35 : decode cX12_rank 35 = .ok (.iconst 3, 1) := by decide +kernel
theorem dX12_rank_36 : decode cX12_rank 36 = .ok (.goto 22, 3) := by decide +kernel
theorem dX12_rank_39 : decode cX12_rank 39 = .ok (.iload_n 0, 1) := by decide +kernel
theorem dX12_rank_40 : decode cX12_rank 40 = .ok (.iconst 3, 1) := by decide +kernel
theorem dX12_rank_41 : decode cX12_rank 41 = .ok (.if_icmp .ne 7, 3) := by decide +kernel
theorem dX12_rank_44 : decode cX12_rank 44 = .ok (.iconst 2, 1) := by decide +kernel
theorem dX12_rank_45 : decode cX12_rank 45 = .ok (.goto 13, 3) := by decide +kernel
theorem dX12_rank_48 : decode cX12_rank 48 = .ok (.iload_n 0, 1) := by decide +kernel
theorem dX12_rank_49 : decode cX12_rank 49 = .ok (.iconst 4, 1) := by decide +kernel
theorem dX12_rank_50 : decode cX12_rank 50 = .ok (.if_icmp .ne 7, 3) := by decide +kernel
theorem dX12_rank_53 : decode cX12_rank 53 = .ok (.iconst 1, 1) := by decide +kernel
theorem dX12_rank_54 : decode cX12_rank 54 = .ok (.goto 4, 3) := by decide +kernel
theorem dX12_rank_57 : decode cX12_rank 57 = .ok (.iconst 0, 1) := by decide +kernel
theorem dX12_rank_58 : decode cX12_rank 58 = .ok (.ireturn, 1) := by decide +kernel
theorem dX12_grown_0 : decode cX12_grown 0 = .ok (.aload_n 0, 1) := by decide +kernel
theorem dX12_grown_1 : decode cX12_grown 1 = .ok (.getfield 90, 3) := by decide +kernel
theorem dX12_grown_4 : decode cX12_grown 4 = .ok (.bipush 64, 2) := by decide +kernel
theorem dX12_grown_6 : decode cX12_grown 6 = .ok (.aload_n 0, 1) := by decide +kernel
theorem dX12_grown_7 : decode cX12_grown 7 = .ok (.getfield 231, 3) := by decide +kernel
theorem dX12_grown_10 : decode cX12_grown 10 = .ok (.iadd, 1) := by decide +kernel
theorem dX12_grown_11 : decode cX12_grown 11 = .ok (.iload_n 1, 1) := by decide +kernel
theorem dX12_grown_12 : decode cX12_grown 12 = .ok (.iastore, 1) := by decide +kernel
theorem dX12_grown_13 : decode cX12_grown 13 = .ok (.aload_n 0, 1) := by decide +kernel
theorem dX12_grown_14 : decode cX12_grown 14 = .ok (.getfield 93, 3) := by decide +kernel
theorem dX12_grown_17 : decode cX12_grown 17 = .ok (.bipush 64, 2) := by decide +kernel
theorem dX12_grown_19 : decode cX12_grown 19 = .ok (.aload_n 0, 1) := by decide +kernel
theorem dX12_grown_20 : decode cX12_grown 20 = .ok (.getfield 231, 3) := by decide +kernel
theorem dX12_grown_23 : decode cX12_grown 23 = .ok (.iadd, 1) := by decide +kernel
theorem dX12_grown_24 : decode cX12_grown 24 = .ok (.iload_n 2, 1) := by decide +kernel
theorem dX12_grown_25 : decode cX12_grown 25 = .ok (.iastore, 1) := by decide +kernel
theorem dX12_grown_26 : decode cX12_grown 26 = .ok (.aload_n 0, 1) := by decide +kernel
theorem dX12_grown_27 : decode cX12_grown 27 = .ok (.getfield 96, 3) := by decide +kernel
theorem dX12_grown_30 : decode cX12_grown 30 = .ok (.bipush 64, 2) := by decide +kernel
theorem dX12_grown_32 : decode cX12_grown 32 = .ok (.aload_n 0, 1) := by decide +kernel
theorem dX12_grown_33 : decode cX12_grown 33 = .ok (.getfield 231, 3) := by decide +kernel
theorem dX12_grown_36 : decode cX12_grown 36 = .ok (.iadd, 1) := by decide +kernel
theorem dX12_grown_37 : decode cX12_grown 37 = .ok (.iload_n 3, 1) := by decide +kernel
theorem dX12_grown_38 : decode cX12_grown 38 = .ok (.iastore, 1) := by decide +kernel
theorem dX12_grown_39 : decode cX12_grown 39 = .ok (.aload_n 0, 1) := by decide +kernel
theorem dX12_grown_40 : decode cX12_grown 40 = .ok (.getfield 102, 3) := by decide +kernel
theorem dX12_grown_43 : decode cX12_grown 43 = .ok (.aload_n 0, 1) := by decide +kernel
theorem dX12_grown_44 : decode cX12_grown 44 = .ok (.getfield 340, 3) := by decide +kernel
theorem dX12_grown_47 : decode cX12_grown 47 = .ok (.aload_n 0, 1) := by decide +kernel
theorem dX12_grown_48 : decode cX12_grown 48 = .ok (.getfield 231, 3) := by decide +kernel
theorem dX12_grown_51 : decode cX12_grown 51 = .ok (.iastore, 1) := by decide +kernel
theorem dX12_grown_52 : decode cX12_grown 52 = .ok (.aload_n 0, 1) := by decide +kernel
theorem dX12_grown_53 : decode cX12_grown 53 = .ok (.dup, 1) := by decide +kernel
theorem dX12_grown_54 : decode cX12_grown 54 = .ok (.getfield 340, 3) := by decide +kernel
theorem dX12_grown_57 : decode cX12_grown 57 = .ok (.iconst 1, 1) := by decide +kernel
theorem dX12_grown_58 : decode cX12_grown 58 = .ok (.iadd, 1) := by decide +kernel
theorem dX12_grown_59 : decode cX12_grown 59 = .ok (.putfield 340, 3) := by decide +kernel
theorem dX12_grown_62 : decode cX12_grown 62 = .ok (.aload_n 0, 1) := by decide +kernel
theorem dX12_grown_63 : decode cX12_grown 63 = .ok (.dup, 1) := by decide +kernel
theorem dX12_grown_64 : decode cX12_grown 64 = .ok (.getfield 231, 3) := by decide +kernel
theorem dX12_grown_67 : decode cX12_grown 67 = .ok (.iconst 1, 1) := by decide +kernel
theorem dX12_grown_68 : decode cX12_grown 68 = .ok (.iadd, 1) := by decide +kernel
theorem dX12_grown_69 : decode cX12_grown 69 = .ok (.putfield 231, 3) := by decide +kernel
theorem dX12_grown_72 : decode cX12_grown 72 = .ok (.return_, 1) := by decide +kernel
theorem dX12_dropHeld_0 : decode cX12_dropHeld 0 = .ok (.aload_n 0, 1) := by decide +kernel
theorem dX12_dropHeld_1 : decode cX12_dropHeld 1 = .ok (.dup, 1) := by decide +kernel
theorem dX12_dropHeld_2 : decode cX12_dropHeld 2 = .ok (.getfield 340, 3) := by decide +kernel
theorem dX12_dropHeld_5 : decode cX12_dropHeld 5 = .ok (.iconst 1, 1) := by decide +kernel
theorem dX12_dropHeld_6 : decode cX12_dropHeld 6 = .ok (.isub, 1) := by decide +kernel
theorem dX12_dropHeld_7 : decode cX12_dropHeld 7 = .ok (.putfield 340, 3) := by decide +kernel
theorem dX12_dropHeld_10 : decode cX12_dropHeld 10 = .ok (.aload_n 0, 1) := by decide +kernel
theorem dX12_dropHeld_11 : decode cX12_dropHeld 11 = .ok (.getfield 102, 3) := by decide +kernel
theorem dX12_dropHeld_14 : decode cX12_dropHeld 14 = .ok (.aload_n 0, 1) := by decide +kernel
theorem dX12_dropHeld_15 : decode cX12_dropHeld 15 = .ok (.getfield 340, 3) := by decide +kernel
theorem dX12_dropHeld_18 : decode cX12_dropHeld 18 = .ok (.iaload, 1) := by decide +kernel
theorem dX12_dropHeld_19 : decode cX12_dropHeld 19 = .ok (.ireturn, 1) := by decide +kernel
theorem dX12_bind_0 : decode cX12_bind 0 = .ok (.aload_n 0, 1) := by decide +kernel
theorem dX12_bind_1 : decode cX12_bind 1 = .ok (.getfield 343, 3) := by decide +kernel
theorem dX12_bind_4 : decode cX12_bind 4 = .ok (.ifCond .le 72, 3) := by decide +kernel
theorem dX12_bind_7 : decode cX12_bind 7 = .ok (.aload_n 0, 1) := by decide +kernel
theorem dX12_bind_8 : decode cX12_bind 8 = .ok (.getfield 99, 3) := by decide +kernel
theorem dX12_bind_11 : decode cX12_bind 11 = .ok (.aload_n 0, 1) := by decide +kernel
theorem dX12_bind_12 : decode cX12_bind 12 = .ok (.getfield 343, 3) := by decide +kernel
theorem dX12_bind_15 : decode cX12_bind 15 = .ok (.iconst 1, 1) := by decide +kernel
theorem dX12_bind_16 : decode cX12_bind 16 = .ok (.isub, 1) := by decide +kernel
theorem dX12_bind_17 : decode cX12_bind 17 = .ok (.iaload, 1) := by decide +kernel
theorem dX12_bind_18 : decode cX12_bind 18 = .ok (.invokestatic 346, 3) := by decide +kernel
theorem dX12_bind_21 : decode cX12_bind 21 = .ok (.iload_n 1, 1) := by decide +kernel
theorem dX12_bind_22 : decode cX12_bind 22 = .ok (.if_icmp .lt 54, 3) := by decide +kernel
theorem dX12_bind_25 : decode cX12_bind 25 = .ok (.aload_n 0, 1) := by decide +kernel
theorem dX12_bind_26 : decode cX12_bind 26 = .ok (.dup, 1) := by decide +kernel
theorem dX12_bind_27 : decode cX12_bind 27 = .ok (.getfield 343, 3) := by decide +kernel
theorem dX12_bind_30 : decode cX12_bind 30 = .ok (.iconst 1, 1) := by decide +kernel
theorem dX12_bind_31 : decode cX12_bind 31 = .ok (.isub, 1) := by decide +kernel
theorem dX12_bind_32 : decode cX12_bind 32 = .ok (.putfield 343, 3) := by decide +kernel
theorem dX12_bind_35 : decode cX12_bind 35 = .ok (.aload_n 0, 1) := by decide +kernel
theorem dX12_bind_36 : decode cX12_bind 36 = .ok (.getfield 99, 3) := by decide +kernel
theorem dX12_bind_39 : decode cX12_bind 39 = .ok (.aload_n 0, 1) := by decide +kernel
theorem dX12_bind_40 : decode cX12_bind 40 = .ok (.getfield 343, 3) := by decide +kernel
theorem dX12_bind_43 : decode cX12_bind 43 = .ok (.iaload, 1) := by decide +kernel
theorem dX12_bind_44 : decode cX12_bind 44 = .ok (.istore_n 2, 1) := by decide +kernel
theorem dX12_bind_45 : decode cX12_bind 45 = .ok (.iload_n 2, 1) := by decide +kernel
theorem dX12_bind_46 : decode cX12_bind 46 = .ok (.iconst 2, 1) := by decide +kernel
theorem dX12_bind_47 : decode cX12_bind 47 = .ok (.if_icmp .ne 7, 3) := by decide +kernel
theorem dX12_bind_50 : decode cX12_bind 50 = .ok (.iconst (-1), 1) := by decide +kernel
theorem dX12_bind_51 : decode cX12_bind 51 = .ok (.goto 7, 3) := by decide +kernel
theorem dX12_bind_54 : decode cX12_bind 54 = .ok (.aload_n 0, 1) := by decide +kernel
theorem dX12_bind_55 : decode cX12_bind 55 = .ok (.invokevirtual 350, 3) := by decide +kernel
theorem dX12_bind_58 : decode cX12_bind 58 = .ok (.istore_n 3, 1) := by decide +kernel
theorem dX12_bind_59 : decode cX12_bind 59 = .ok (.aload_n 0, 1) := by decide +kernel
theorem dX12_bind_60 : decode cX12_bind 60 = .ok (.invokevirtual 350, 3) := by decide +kernel
theorem dX12_bind_63 : decode cX12_bind 63 = .ok (.istore 4, 2) := by decide +kernel
theorem dX12_bind_65 : decode cX12_bind 65 = .ok (.aload_n 0, 1) := by decide +kernel
theorem dX12_bind_66 : decode cX12_bind 66 = .ok (.iload_n 2, 1) := by decide +kernel
theorem dX12_bind_67 : decode cX12_bind 67 = .ok (.iload 4, 2) := by decide +kernel
theorem dX12_bind_69 : decode cX12_bind 69 = .ok (.iload_n 3, 1) := by decide +kernel
theorem dX12_bind_70 : decode cX12_bind 70 = .ok (.invokevirtual 354, 3) := by decide +kernel
theorem dX12_bind_73 : decode cX12_bind 73 = .ok (.goto (-73), 3) := by decide +kernel
theorem dX12_bind_76 : decode cX12_bind 76 = .ok (.return_, 1) := by decide +kernel
theorem dX12_isCounted_0 : decode cX12_isCounted 0 = .ok (.aload_n 0, 1) := by decide +kernel
theorem dX12_isCounted_1 : decode cX12_isCounted 1 = .ok (.getfield 234, 3) := by decide +kernel
theorem dX12_isCounted_4 : decode cX12_isCounted 4 = .ok (.bipush 64, 2) := by decide +kernel
theorem dX12_isCounted_6 : decode cX12_isCounted 6 = .ok (.if_icmp .ne 9, 3) := by decide +kernel
theorem dX12_isCounted_9 : decode cX12_isCounted 9 = .ok (.aload_n 0, 1) := by decide +kernel
theorem dX12_isCounted_10 : decode cX12_isCounted 10 = .ok (.iconst 2, 1) := by decide +kernel
theorem dX12_isCounted_11 : decode cX12_isCounted 11 = .ok (.invokevirtual 196, 3) := by decide +kernel
theorem dX12_isCounted_14 : decode cX12_isCounted 14 = .ok (.ireturn, 1) := by decide +kernel
theorem dX12_isCounted_15 : decode cX12_isCounted 15 = .ok (.aload_n 0, 1) := by decide +kernel
theorem dX12_isCounted_16 : decode cX12_isCounted 16 = .ok (.dup, 1) := by decide +kernel
theorem dX12_isCounted_17 : decode cX12_isCounted 17 = .ok (.getfield 234, 3) := by decide +kernel
theorem dX12_isCounted_20 : decode cX12_isCounted 20 = .ok (.iconst 1, 1) := by decide +kernel
theorem dX12_isCounted_21 : decode cX12_isCounted 21 = .ok (.iadd, 1) := by decide +kernel
theorem dX12_isCounted_22 : decode cX12_isCounted 22 = .ok (.putfield 234, 3) := by decide +kernel
theorem dX12_isCounted_25 : decode cX12_isCounted 25 = .ok (.iconst 1, 1) := by decide +kernel
theorem dX12_isCounted_26 : decode cX12_isCounted 26 = .ok (.ireturn, 1) := by decide +kernel
theorem dX12_waitsFor_0 : decode cX12_waitsFor 0 = .ok (.aload_n 0, 1) := by decide +kernel
theorem dX12_waitsFor_1 : decode cX12_waitsFor 1 = .ok (.getfield 99, 3) := by decide +kernel
theorem dX12_waitsFor_4 : decode cX12_waitsFor 4 = .ok (.aload_n 0, 1) := by decide +kernel
theorem dX12_waitsFor_5 : decode cX12_waitsFor 5 = .ok (.getfield 343, 3) := by decide +kernel
theorem dX12_waitsFor_8 : decode cX12_waitsFor 8 = .ok (.iload_n 1, 1) := by decide +kernel
theorem dX12_waitsFor_9 : decode cX12_waitsFor 9 = .ok (.iastore, 1) := by decide +kernel
theorem dX12_waitsFor_10 : decode cX12_waitsFor 10 = .ok (.aload_n 0, 1) := by decide +kernel
theorem dX12_waitsFor_11 : decode cX12_waitsFor 11 = .ok (.dup, 1) := by decide +kernel
theorem dX12_waitsFor_12 : decode cX12_waitsFor 12 = .ok (.getfield 343, 3) := by decide +kernel
theorem dX12_waitsFor_15 : decode cX12_waitsFor 15 = .ok (.iconst 1, 1) := by decide +kernel
theorem dX12_waitsFor_16 : decode cX12_waitsFor 16 = .ok (.iadd, 1) := by decide +kernel
theorem dX12_waitsFor_17 : decode cX12_waitsFor 17 = .ok (.putfield 343, 3) := by decide +kernel
theorem dX12_waitsFor_20 : decode cX12_waitsFor 20 = .ok (.return_, 1) := by decide +kernel
theorem dX12_nameMet_0 : decode cX12_nameMet 0 = .ok (.aload_n 0, 1) := by decide +kernel
theorem dX12_nameMet_1 : decode cX12_nameMet 1 = .ok (.getfield 172, 3) := by decide +kernel
theorem dX12_nameMet_4 : decode cX12_nameMet 4 = .ok (.iconst 1, 1) := by decide +kernel
theorem dX12_nameMet_5 : decode cX12_nameMet 5 = .ok (.if_icmp .ne 22, 3) := by decide +kernel
theorem dX12_nameMet_8 : decode cX12_nameMet 8 = .ok (.aload_n 0, 1) := by decide +kernel
theorem dX12_nameMet_9 : decode cX12_nameMet 9 = .ok (.getfield 183, 3) := by decide +kernel
theorem dX12_nameMet_12 : decode cX12_nameMet 12 = .ok (.bipush 21, 2) := by decide +kernel
theorem dX12_nameMet_14 : decode cX12_nameMet 14 = .ok (.if_icmp .lt 13, 3) := by decide +kernel
theorem dX12_nameMet_17 : decode cX12_nameMet 17 = .ok (.aload_n 0, 1) := by decide +kernel
theorem dX12_nameMet_18 : decode cX12_nameMet 18 = .ok (.getfield 183, 3) := by decide +kernel
theorem dX12_nameMet_21 : decode cX12_nameMet 21 = .ok (.bipush 21, 2) := by decide +kernel
theorem dX12_nameMet_23 : decode cX12_nameMet 23 = .ok (.isub, 1) := by decide +kernel
theorem dX12_nameMet_24 : decode cX12_nameMet 24 = .ok (.goto 4, 3) := by decide +kernel
theorem dX12_nameMet_27 : decode cX12_nameMet 27 = .ok (.iconst (-1), 1) := by decide +kernel
theorem dX12_nameMet_28 : decode cX12_nameMet 28 = .ok (.ireturn, 1) := by decide +kernel
theorem dX12_leafRead_0 : decode cX12_leafRead 0 = .ok (.aload_n 0, 1) := by decide +kernel
theorem dX12_leafRead_1 : decode cX12_leafRead 1 = .ok (.bipush 40, 2) := by decide +kernel
theorem dX12_leafRead_3 : decode cX12_leafRead 3 = .ok (.invokevirtual 209, 3) := by decide +kernel
theorem dX12_leafRead_6 : decode cX12_leafRead 6 = .ok (.ifCond .eq 44, 3) := by decide +kernel
theorem dX12_leafRead_9 : decode cX12_leafRead 9 = .ok (.aload_n 0, 1) := by decide +kernel
theorem dX12_leafRead_10 : decode cX12_leafRead 10 = .ok (.getfield 358, 3) := by decide +kernel
theorem dX12_leafRead_13 : decode cX12_leafRead 13 = .ok (.bipush 8, 2) := by decide +kernel
theorem dX12_leafRead_15 : decode cX12_leafRead 15 = .ok (.if_icmp .ne 9, 3) := by decide +kernel
theorem dX12_leafRead_18 : decode cX12_leafRead 18 = .ok (.aload_n 0, 1) := by decide +kernel
theorem dX12_leafRead_19 : decode cX12_leafRead 19 = .ok (.iconst 2, 1) := by decide +kernel
theorem dX12_leafRead_20 : decode cX12_leafRead 20 = .ok (.invokevirtual 196, 3) := by decide +kernel
theorem dX12_leafRead_23 : decode cX12_leafRead 23 = .ok (.ireturn, 1) := by decide +kernel
theorem dX12_leafRead_24 : decode cX12_leafRead 24 = .ok (.aload_n 0, 1) := by decide +kernel
theorem dX12_leafRead_25 : decode cX12_leafRead 25 = .ok (.dup, 1) := by decide +kernel
theorem dX12_leafRead_26 : decode cX12_leafRead 26 = .ok (.getfield 358, 3) := by decide +kernel
theorem dX12_leafRead_29 : decode cX12_leafRead 29 = .ok (.iconst 1, 1) := by decide +kernel
theorem dX12_leafRead_30 : decode cX12_leafRead 30 = .ok (.iadd, 1) := by decide +kernel
theorem dX12_leafRead_31 : decode cX12_leafRead 31 = .ok (.putfield 358, 3) := by decide +kernel
theorem dX12_leafRead_34 : decode cX12_leafRead 34 = .ok (.aload_n 0, 1) := by decide +kernel
theorem dX12_leafRead_35 : decode cX12_leafRead 35 = .ok (.iconst 0, 1) := by decide +kernel
theorem dX12_leafRead_36 : decode cX12_leafRead 36 = .ok (.invokevirtual 361, 3) := by decide +kernel
theorem dX12_leafRead_39 : decode cX12_leafRead 39 = .ok (.aload_n 0, 1) := by decide +kernel
theorem dX12_leafRead_40 : decode cX12_leafRead 40 = .ok (.iconst 1, 1) := by decide +kernel
theorem dX12_leafRead_41 : decode cX12_leafRead 41 = .ok (.putfield 365, 3) := by decide +kernel
theorem dX12_leafRead_44 : decode cX12_leafRead 44 = .ok (.aload_n 0, 1) := by decide +kernel
theorem dX12_leafRead_45 : decode cX12_leafRead 45 = .ok (.invokevirtual 206, 3) := by decide +kernel
theorem dX12_leafRead_48 : decode cX12_leafRead 48 = .ok (.iconst 1, 1) := by decide +kernel
theorem dX12_leafRead_49 : decode cX12_leafRead 49 = .ok (.ireturn, 1) := by decide +kernel
theorem dX12_leafRead_50 : decode cX12_leafRead 50 = .ok (.aload_n 0, 1) := by decide +kernel
theorem dX12_leafRead_51 : decode cX12_leafRead 51 = .ok (.bipush 20, 2) := by decide +kernel
theorem dX12_leafRead_53 : decode cX12_leafRead 53 = .ok (.invokevirtual 312, 3) := by decide +kernel
theorem dX12_leafRead_56 : decode cX12_leafRead 56 = .ok (.ifCond .eq 30, 3) := by decide +kernel
theorem dX12_leafRead_59 : decode cX12_leafRead 59 = .ok (.aload_n 0, 1) := by decide +kernel
theorem dX12_leafRead_60 : decode cX12_leafRead 60 = .ok (.getfield 365, 3) := by decide +kernel
theorem dX12_leafRead_63 : decode cX12_leafRead 63 = .ok (.ifCond .eq 23, 3) := by decide +kernel
theorem dX12_leafRead_66 : decode cX12_leafRead 66 = .ok (.aload_n 0, 1) := by decide +kernel
theorem dX12_leafRead_67 : decode cX12_leafRead 67 = .ok (.invokevirtual 368, 3) := by decide +kernel
theorem dX12_leafRead_70 : decode cX12_leafRead 70 = .ok (.ifCond .ne 5, 3) := by decide +kernel
theorem dX12_leafRead_73 : decode cX12_leafRead 73 = .ok (.iconst 0, 1) := by decide +kernel
theorem dX12_leafRead_74 : decode cX12_leafRead 74 = .ok (.ireturn, 1) := by decide +kernel
theorem dX12_leafRead_75 : decode cX12_leafRead 75 = .ok (.aload_n 0, 1) := by decide +kernel
theorem dX12_leafRead_76 : decode cX12_leafRead 76 = .ok (.iconst 2, 1) := by decide +kernel
theorem dX12_leafRead_77 : decode cX12_leafRead 77 = .ok (.invokevirtual 361, 3) := by decide +kernel
theorem dX12_leafRead_80 : decode cX12_leafRead 80 = .ok (.aload_n 0, 1) := by decide +kernel
theorem dX12_leafRead_81 : decode cX12_leafRead 81 = .ok (.invokevirtual 206, 3) := by decide +kernel
theorem dX12_leafRead_84 : decode cX12_leafRead 84 = .ok (.iconst 1, 1) := by decide +kernel
theorem dX12_leafRead_85 : decode cX12_leafRead 85 = .ok (.ireturn, 1) := by decide +kernel
theorem dX12_leafRead_86 : decode cX12_leafRead 86 = .ok (.aload_n 0, 1) := by decide +kernel
theorem dX12_leafRead_87 : decode cX12_leafRead 87 = .ok (.invokevirtual 371, 3) := by decide +kernel
theorem dX12_leafRead_90 : decode cX12_leafRead 90 = .ok (.istore_n 1, 1) := by decide +kernel
theorem dX12_leafRead_91 : decode cX12_leafRead 91 = .ok (.iload_n 1, 1) := by decide +kernel
theorem dX12_leafRead_92 : decode cX12_leafRead 92 = .ok (.ifCond .ge 17, 3) := by decide +kernel
theorem dX12_leafRead_95 : decode cX12_leafRead 95 = .ok (.aload_n 0, 1) := by decide +kernel
theorem dX12_leafRead_96 : decode cX12_leafRead 96 = .ok (.getfield 172, 3) := by decide +kernel
theorem dX12_leafRead_99 : decode cX12_leafRead 99 = .ok (.iconst 3, 1) := by decide +kernel
theorem dX12_leafRead_100 : decode cX12_leafRead 100 = .ok (.if_icmp .eq 9, 3) := by decide +kernel
theorem dX12_leafRead_103 : decode cX12_leafRead 103 = .ok (.aload_n 0, 1) := by decide +kernel
theorem dX12_leafRead_104 : decode cX12_leafRead 104 = .ok (.iconst 1, 1) := by decide +kernel
theorem dX12_leafRead_105 : decode cX12_leafRead 105 = .ok (.invokevirtual 196, 3) := by decide +kernel
theorem dX12_leafRead_108 : decode cX12_leafRead 108 = .ok (.ireturn, 1) := by decide +kernel
theorem dX12_leafRead_109 : decode cX12_leafRead 109 = .ok (.iload_n 1, 1) := by decide +kernel
theorem dX12_leafRead_110 : decode cX12_leafRead 110 = .ok (.ifCond .ge 19, 3) := by decide +kernel
theorem dX12_leafRead_113 : decode cX12_leafRead 113 = .ok (.aload_n 0, 1) := by decide +kernel
theorem dX12_leafRead_114 : decode cX12_leafRead 114 = .ok (.getfield 183, 3) := by decide +kernel
theorem dX12_leafRead_117 : decode cX12_leafRead 117 = .ok (.sipush 9999, 3) := by decide +kernel
theorem dX12_leafRead_120 : decode cX12_leafRead 120 = .ok (.if_icmp .le 9, 3) := by decide +kernel
theorem dX12_leafRead_123 : decode cX12_leafRead 123 = .ok (.aload_n 0, 1) := by decide +kernel
theorem dX12_leafRead_124 : decode cX12_leafRead 124 = .ok (.iconst 2, 1) := by decide +kernel
theorem dX12_leafRead_125 : decode cX12_leafRead 125 = .ok (.invokevirtual 196, 3) := by decide +kernel
theorem dX12_leafRead_128 : decode cX12_leafRead 128 = .ok (.ireturn, 1) := by decide +kernel
theorem dX12_leafRead_129 : decode cX12_leafRead 129 = .ok (.aload_n 0, 1) := by decide +kernel
theorem dX12_leafRead_130 : decode cX12_leafRead 130 = .ok (.invokevirtual 368, 3) := by decide +kernel
theorem dX12_leafRead_133 : decode cX12_leafRead 133 = .ok (.ifCond .ne 5, 3) := by decide +kernel
theorem dX12_leafRead_136 : decode cX12_leafRead 136 = .ok (.iconst 0, 1) := by decide +kernel
theorem dX12_leafRead_137 : decode cX12_leafRead 137 = .ok (.ireturn, 1) := by decide +kernel
theorem dX12_leafRead_138 : decode cX12_leafRead 138 = .ok (.aload_n 0, 1) := by decide +kernel
theorem dX12_leafRead_139 : decode cX12_leafRead 139 = .ok (.iload_n 1, 1) := by decide +kernel
theorem dX12_leafRead_140 : decode cX12_leafRead 140 = .ok (.ifCond .lt 7, 3) := by decide +kernel
theorem dX12_leafRead_143 : decode cX12_leafRead 143 = .ok (.iconst 1, 1) := by decide +kernel
theorem dX12_leafRead_144 : decode cX12_leafRead 144 = .ok (.goto 4, 3) := by decide +kernel
theorem dX12_leafRead_147 : decode cX12_leafRead 147 = .ok (.iconst 0, 1) := by decide +kernel
theorem dX12_leafRead_148 : decode cX12_leafRead 148 = .ok (.iload_n 1, 1) := by decide +kernel
theorem dX12_leafRead_149 : decode cX12_leafRead 149 = .ok (.ifCond .lt 7, 3) := by decide +kernel
theorem dX12_leafRead_152 : decode cX12_leafRead 152 = .ok (.iload_n 1, 1) := by decide +kernel
theorem dX12_leafRead_153 : decode cX12_leafRead 153 = .ok (.goto 7, 3) := by decide +kernel
theorem dX12_leafRead_156 : decode cX12_leafRead 156 = .ok (.aload_n 0, 1) := by decide +kernel
theorem dX12_leafRead_157 : decode cX12_leafRead 157 = .ok (.getfield 183, 3) := by decide +kernel
theorem dX12_leafRead_160 : decode cX12_leafRead 160 = .ok (.iconst 0, 1) := by decide +kernel
theorem dX12_leafRead_161 : decode cX12_leafRead 161 = .ok (.invokevirtual 354, 3) := by decide +kernel
theorem dX12_leafRead_164 : decode cX12_leafRead 164 = .ok (.aload_n 0, 1) := by decide +kernel
theorem dX12_leafRead_165 : decode cX12_leafRead 165 = .ok (.iconst 0, 1) := by decide +kernel
theorem dX12_leafRead_166 : decode cX12_leafRead 166 = .ok (.putfield 374, 3) := by decide +kernel
theorem dX12_leafRead_169 : decode cX12_leafRead 169 = .ok (.aload_n 0, 1) := by decide +kernel
theorem dX12_leafRead_170 : decode cX12_leafRead 170 = .ok (.invokevirtual 206, 3) := by decide +kernel
theorem dX12_leafRead_173 : decode cX12_leafRead 173 = .ok (.iconst 1, 1) := by decide +kernel
theorem dX12_leafRead_174 : decode cX12_leafRead 174 = .ok (.ireturn, 1) := by decide +kernel
theorem dX12_signs_0 : decode cX12_signs 0 = .ok (.aload_n 0, 1) := by decide +kernel
theorem dX12_signs_1 : decode cX12_signs 1 = .ok (.bipush 41, 2) := by decide +kernel
theorem dX12_signs_3 : decode cX12_signs 3 = .ok (.invokevirtual 209, 3) := by decide +kernel
theorem dX12_signs_6 : decode cX12_signs 6 = .ok (.ifCond .eq 41, 3) := by decide +kernel
theorem dX12_signs_9 : decode cX12_signs 9 = .ok (.aload_n 0, 1) := by decide +kernel
theorem dX12_signs_10 : decode cX12_signs 10 = .ok (.getfield 358, 3) := by decide +kernel
theorem dX12_signs_13 : decode cX12_signs 13 = .ok (.ifCond .le 34, 3) := by decide +kernel
theorem dX12_signs_16 : decode cX12_signs 16 = .ok (.aload_n 0, 1) := by decide +kernel
theorem dX12_signs_17 : decode cX12_signs 17 = .ok (.iconst 1, 1) := by decide +kernel
theorem dX12_signs_18 : decode cX12_signs 18 = .ok (.invokevirtual 377, 3) := by decide +kernel
theorem dX12_signs_21 : decode cX12_signs 21 = .ok (.aload_n 0, 1) := by decide +kernel
theorem dX12_signs_22 : decode cX12_signs 22 = .ok (.dup, 1) := by decide +kernel
theorem dX12_signs_23 : decode cX12_signs 23 = .ok (.getfield 343, 3) := by decide +kernel
theorem dX12_signs_26 : decode cX12_signs 26 = .ok (.iconst 1, 1) := by decide +kernel
theorem dX12_signs_27 : decode cX12_signs 27 = .ok (.isub, 1) := by decide +kernel
theorem dX12_signs_28 : decode cX12_signs 28 = .ok (.putfield 343, 3) := by decide +kernel
theorem dX12_signs_31 : decode cX12_signs 31 = .ok (.aload_n 0, 1) := by decide +kernel
theorem dX12_signs_32 : decode cX12_signs 32 = .ok (.dup, 1) := by decide +kernel
theorem dX12_signs_33 : decode cX12_signs 33 = .ok (.getfield 358, 3) := by decide +kernel
theorem dX12_signs_36 : decode cX12_signs 36 = .ok (.iconst 1, 1) := by decide +kernel
theorem dX12_signs_37 : decode cX12_signs 37 = .ok (.isub, 1) := by decide +kernel
theorem dX12_signs_38 : decode cX12_signs 38 = .ok (.putfield 358, 3) := by decide +kernel
theorem dX12_signs_41 : decode cX12_signs 41 = .ok (.aload_n 0, 1) := by decide +kernel
theorem dX12_signs_42 : decode cX12_signs 42 = .ok (.invokevirtual 206, 3) := by decide +kernel
theorem dX12_signs_45 : decode cX12_signs 45 = .ok (.iconst 1, 1) := by decide +kernel
theorem dX12_signs_46 : decode cX12_signs 46 = .ok (.ireturn, 1) := by decide +kernel
theorem dX12_signs_47 : decode cX12_signs 47 = .ok (.aload_n 0, 1) := by decide +kernel
theorem dX12_signs_48 : decode cX12_signs 48 = .ok (.bipush 18, 2) := by decide +kernel
theorem dX12_signs_50 : decode cX12_signs 50 = .ok (.invokevirtual 312, 3) := by decide +kernel
theorem dX12_signs_53 : decode cX12_signs 53 = .ok (.ifCond .eq 7, 3) := by decide +kernel
theorem dX12_signs_56 : decode cX12_signs 56 = .ok (.iconst 3, 1) := by decide +kernel
theorem dX12_signs_57 : decode cX12_signs 57 = .ok (.goto 90, 3) := by decide +kernel
theorem dX12_signs_60 : decode cX12_signs 60 = .ok (.aload_n 0, 1) := by decide +kernel
theorem dX12_signs_61 : decode cX12_signs 61 = .ok (.bipush 19, 2) := by decide +kernel
theorem dX12_signs_63 : decode cX12_signs 63 = .ok (.invokevirtual 312, 3) := by decide +kernel
theorem dX12_signs_66 : decode cX12_signs 66 = .ok (.ifCond .eq 7, 3) := by decide +kernel
theorem dX12_signs_69 : decode cX12_signs 69 = .ok (.iconst 4, 1) := by decide +kernel
theorem dX12_signs_70 : decode cX12_signs 70 = .ok (.goto 77, 3) := by decide +kernel
theorem dX12_signs_73 : decode cX12_signs 73 = .ok (.aload_n 0, 1) := by decide +kernel
theorem dX12_signs_74 : decode cX12_signs 74 = .ok (.getfield 172, 3) := by decide +kernel
theorem dX12_signs_77 : decode cX12_signs 77 = .ok (.iconst 5, 1) := by decide +kernel
theorem dX12_signs_78 : decode cX12_signs 78 = .ok (.if_icmp .ne 12, 3) := by decide +kernel
theorem dX12_signs_81 : decode cX12_signs 81 = .ok (.iconst 5, 1) := by decide +kernel
theorem dX12_signs_82 : decode cX12_signs 82 = .ok (.aload_n 0, 1) := by decide +kernel
theorem dX12_signs_83 : decode cX12_signs 83 = .ok (.getfield 183, 3) := by decide +kernel
theorem dX12_signs_86 : decode cX12_signs 86 = .ok (.iadd, 1) := by decide +kernel
theorem dX12_signs_87 : decode cX12_signs 87 = .ok (.goto 60, 3) := by decide +kernel
theorem dX12_signs_90 : decode cX12_signs 90 = .ok (.aload_n 0, 1) := by decide +kernel
theorem dX12_signs_91 : decode cX12_signs 91 = .ok (.bipush 43, 2) := by decide +kernel
theorem dX12_signs_93 : decode cX12_signs 93 = .ok (.invokevirtual 209, 3) := by decide +kernel
theorem dX12_signs_96 : decode cX12_signs 96 = .ok (.ifCond .eq 8, 3) := by decide +kernel
theorem dX12_signs_99 : decode cX12_signs 99 = .ok (.bipush 11, 2) := by decide +kernel
theorem dX12_signs_101 : decode cX12_signs 101 = .ok (.goto 46, 3) := by decide +kernel
theorem dX12_signs_104 : decode cX12_signs 104 = .ok (.aload_n 0, 1) := by decide +kernel
theorem dX12_signs_105 : decode cX12_signs 105 = .ok (.bipush 45, 2) := by decide +kernel
theorem dX12_signs_107 : decode cX12_signs 107 = .ok (.invokevirtual 209, 3) := by decide +kernel
theorem dX12_signs_110 : decode cX12_signs 110 = .ok (.ifCond .eq 8, 3) := by decide +kernel
theorem dX12_signs_113 : decode cX12_signs 113 = .ok (.bipush 12, 2) := by decide +kernel
theorem dX12_signs_115 : decode cX12_signs 115 = .ok (.goto 32, 3) := by decide +kernel
theorem dX12_signs_118 : decode cX12_signs 118 = .ok (.aload_n 0, 1) := by decide +kernel
theorem dX12_signs_119 : decode cX12_signs 119 = .ok (.bipush 42, 2) := by decide +kernel
theorem dX12_signs_121 : decode cX12_signs 121 = .ok (.invokevirtual 209, 3) := by decide +kernel
theorem dX12_signs_124 : decode cX12_signs 124 = .ok (.ifCond .eq 8, 3) := by decide +kernel
theorem dX12_signs_127 : decode cX12_signs 127 = .ok (.bipush 13, 2) := by decide +kernel
theorem dX12_signs_129 : decode cX12_signs 129 = .ok (.goto 18, 3) := by decide +kernel
theorem dX12_signs_132 : decode cX12_signs 132 = .ok (.aload_n 0, 1) := by decide +kernel
theorem dX12_signs_133 : decode cX12_signs 133 = .ok (.bipush 47, 2) := by decide +kernel
theorem dX12_signs_135 : decode cX12_signs 135 = .ok (.invokevirtual 209, 3) := by decide +kernel
theorem dX12_signs_138 : decode cX12_signs 138 = .ok (.ifCond .eq 8, 3) := by decide +kernel
theorem dX12_signs_141 : decode cX12_signs 141 = .ok (.bipush 14, 2) := by decide +kernel
theorem dX12_signs_143 : decode cX12_signs 143 = .ok (.goto 4, 3) := by decide +kernel
theorem dX12_signs_146 : decode cX12_signs 146 = .ok (.iconst 0, 1) := by decide +kernel
theorem dX12_signs_147 : decode cX12_signs 147 = .ok (.istore_n 1, 1) := by decide +kernel
theorem dX12_signs_148 : decode cX12_signs 148 = .ok (.iload_n 1, 1) := by decide +kernel
theorem dX12_signs_149 : decode cX12_signs 149 = .ok (.ifCond .ne 9, 3) := by decide +kernel
theorem dX12_signs_152 : decode cX12_signs 152 = .ok (.aload_n 0, 1) := by decide +kernel
theorem dX12_signs_153 : decode cX12_signs 153 = .ok (.iconst 1, 1) := by decide +kernel
theorem dX12_signs_154 : decode cX12_signs 154 = .ok (.invokevirtual 196, 3) := by decide +kernel
theorem dX12_signs_157 : decode cX12_signs 157 = .ok (.ireturn, 1) := by decide +kernel
theorem dX12_signs_158 : decode cX12_signs 158 = .ok (.aload_n 0, 1) := by decide +kernel
theorem dX12_signs_159 : decode cX12_signs 159 = .ok (.iload_n 1, 1) := by decide +kernel
theorem dX12_signs_160 : decode cX12_signs 160 = .ok (.invokestatic 346, 3) := by decide +kernel
theorem dX12_signs_163 : decode cX12_signs 163 = .ok (.iconst 4, 1) := by decide +kernel
theorem dX12_signs_164 : decode cX12_signs 164 = .ok (.if_icmp .ne 7, 3) := by decide +kernel
theorem dX12_signs_167 : decode cX12_signs 167 = .ok (.iconst 5, 1) := by decide +kernel
theorem dX12_signs_168 : decode cX12_signs 168 = .ok (.goto 7, 3) := by decide +kernel
theorem dX12_signs_171 : decode cX12_signs 171 = .ok (.iload_n 1, 1) := by decide +kernel
theorem dX12_signs_172 : decode cX12_signs 172 = .ok (.invokestatic 346, 3) := by decide +kernel
theorem dX12_signs_175 : decode cX12_signs 175 = .ok (.invokevirtual 377, 3) := by decide +kernel
theorem dX12_signs_178 : decode cX12_signs 178 = .ok (.iload_n 1, 1) := by decide +kernel
theorem dX12_signs_179 : decode cX12_signs 179 = .ok (.invokestatic 346, 3) := by decide +kernel
theorem dX12_signs_182 : decode cX12_signs 182 = .ok (.iconst 4, 1) := by decide +kernel
theorem dX12_signs_183 : decode cX12_signs 183 = .ok (.if_icmp .ne 34, 3) := by decide +kernel
theorem dX12_signs_186 : decode cX12_signs 186 = .ok (.aload_n 0, 1) := by decide +kernel
theorem dX12_signs_187 : decode cX12_signs 187 = .ok (.getfield 343, 3) := by decide +kernel
theorem dX12_signs_190 : decode cX12_signs 190 = .ok (.ifCond .le 27, 3) := by decide +kernel
theorem dX12_signs_193 : decode cX12_signs 193 = .ok (.aload_n 0, 1) := by decide +kernel
theorem dX12_signs_194 : decode cX12_signs 194 = .ok (.getfield 99, 3) := by decide +kernel
theorem dX12_signs_197 : decode cX12_signs 197 = .ok (.aload_n 0, 1) := by decide +kernel
theorem dX12_signs_198 : decode cX12_signs 198 = .ok (.getfield 343, 3) := by decide +kernel
theorem dX12_signs_201 : decode cX12_signs 201 = .ok (.iconst 1, 1) := by decide +kernel
theorem dX12_signs_202 : decode cX12_signs 202 = .ok (.isub, 1) := by decide +kernel
theorem dX12_signs_203 : decode cX12_signs 203 = .ok (.iaload, 1) := by decide +kernel
theorem dX12_signs_204 : decode cX12_signs 204 = .ok (.invokestatic 346, 3) := by decide +kernel
theorem dX12_signs_207 : decode cX12_signs 207 = .ok (.iconst 4, 1) := by decide +kernel
theorem dX12_signs_208 : decode cX12_signs 208 = .ok (.if_icmp .ne 9, 3) := by decide +kernel
theorem dX12_signs_211 : decode cX12_signs 211 = .ok (.aload_n 0, 1) := by decide +kernel
theorem dX12_signs_212 : decode cX12_signs 212 = .ok (.iconst 1, 1) := by decide +kernel
theorem dX12_signs_213 : decode cX12_signs 213 = .ok (.invokevirtual 196, 3) := by decide +kernel
theorem dX12_signs_216 : decode cX12_signs 216 = .ok (.ireturn, 1) := by decide +kernel
theorem dX12_signs_217 : decode cX12_signs 217 = .ok (.aload_n 0, 1) := by decide +kernel
theorem dX12_signs_218 : decode cX12_signs 218 = .ok (.invokevirtual 368, 3) := by decide +kernel
theorem dX12_signs_221 : decode cX12_signs 221 = .ok (.ifCond .ne 5, 3) := by decide +kernel
theorem dX12_signs_224 : decode cX12_signs 224 = .ok (.iconst 0, 1) := by decide +kernel
theorem dX12_signs_225 : decode cX12_signs 225 = .ok (.ireturn, 1) := by decide +kernel
theorem dX12_signs_226 : decode cX12_signs 226 = .ok (.aload_n 0, 1) := by decide +kernel
theorem dX12_signs_227 : decode cX12_signs 227 = .ok (.iload_n 1, 1) := by decide +kernel
theorem dX12_signs_228 : decode cX12_signs 228 = .ok (.invokevirtual 361, 3) := by decide +kernel
theorem dX12_signs_231 : decode cX12_signs 231 = .ok (.aload_n 0, 1) := by decide +kernel
theorem dX12_signs_232 : decode cX12_signs 232 = .ok (.iconst 1, 1) := by decide +kernel
theorem dX12_signs_233 : decode cX12_signs 233 = .ok (.putfield 374, 3) := by decide +kernel
theorem dX12_signs_236 : decode cX12_signs 236 = .ok (.aload_n 0, 1) := by decide +kernel
theorem dX12_signs_237 : decode cX12_signs 237 = .ok (.iload_n 1, 1) := by decide +kernel
theorem dX12_signs_238 : decode cX12_signs 238 = .ok (.invokestatic 346, 3) := by decide +kernel
theorem dX12_signs_241 : decode cX12_signs 241 = .ok (.iconst 3, 1) := by decide +kernel
theorem dX12_signs_242 : decode cX12_signs 242 = .ok (.if_icmp .ge 7, 3) := by decide +kernel
theorem dX12_signs_245 : decode cX12_signs 245 = .ok (.iconst 1, 1) := by decide +kernel
theorem dX12_signs_246 : decode cX12_signs 246 = .ok (.goto 4, 3) := by decide +kernel
theorem dX12_signs_249 : decode cX12_signs 249 = .ok (.iconst 0, 1) := by decide +kernel
theorem dX12_signs_250 : decode cX12_signs 250 = .ok (.putfield 365, 3) := by decide +kernel
theorem dX12_signs_253 : decode cX12_signs 253 = .ok (.aload_n 0, 1) := by decide +kernel
theorem dX12_signs_254 : decode cX12_signs 254 = .ok (.invokevirtual 206, 3) := by decide +kernel
theorem dX12_signs_257 : decode cX12_signs 257 = .ok (.iconst 1, 1) := by decide +kernel
theorem dX12_signs_258 : decode cX12_signs 258 = .ok (.ireturn, 1) := by decide +kernel
theorem dX12_sumRead_0 : decode cX12_sumRead 0 = .ok (.aload_n 0, 1) := by decide +kernel
theorem dX12_sumRead_1 : decode cX12_sumRead 1 = .ok (.iconst 0, 1) := by decide +kernel
theorem dX12_sumRead_2 : decode cX12_sumRead 2 = .ok (.putfield 343, 3) := by decide +kernel
theorem dX12_sumRead_5 : decode cX12_sumRead 5 = .ok (.aload_n 0, 1) := by decide +kernel
theorem dX12_sumRead_6 : decode cX12_sumRead 6 = .ok (.iconst 0, 1) := by decide +kernel
theorem dX12_sumRead_7 : decode cX12_sumRead 7 = .ok (.putfield 340, 3) := by decide +kernel
theorem dX12_sumRead_10 : decode cX12_sumRead 10 = .ok (.aload_n 0, 1) := by decide +kernel
theorem dX12_sumRead_11 : decode cX12_sumRead 11 = .ok (.iconst 0, 1) := by decide +kernel
theorem dX12_sumRead_12 : decode cX12_sumRead 12 = .ok (.putfield 358, 3) := by decide +kernel
theorem dX12_sumRead_15 : decode cX12_sumRead 15 = .ok (.aload_n 0, 1) := by decide +kernel
theorem dX12_sumRead_16 : decode cX12_sumRead 16 = .ok (.iconst 1, 1) := by decide +kernel
theorem dX12_sumRead_17 : decode cX12_sumRead 17 = .ok (.putfield 374, 3) := by decide +kernel
theorem dX12_sumRead_20 : decode cX12_sumRead 20 = .ok (.aload_n 0, 1) := by decide +kernel
theorem dX12_sumRead_21 : decode cX12_sumRead 21 = .ok (.iconst 1, 1) := by decide +kernel
theorem dX12_sumRead_22 : decode cX12_sumRead 22 = .ok (.putfield 365, 3) := by decide +kernel
theorem dX12_sumRead_25 : decode cX12_sumRead 25 = .ok (.aload_n 0, 1) := by decide +kernel
theorem dX12_sumRead_26 : decode cX12_sumRead 26 = .ok (.bipush 59, 2) := by decide +kernel
theorem dX12_sumRead_28 : decode cX12_sumRead 28 = .ok (.invokevirtual 209, 3) := by decide +kernel
theorem dX12_sumRead_31 : decode cX12_sumRead 31 = .ok (.ifCond .eq 17, 3) := by decide +kernel
theorem dX12_sumRead_34 : decode cX12_sumRead 34 = .ok (.aload_n 0, 1) := by decide +kernel
theorem dX12_sumRead_35 : decode cX12_sumRead 35 = .ok (.getfield 374, 3) := by decide +kernel
theorem dX12_sumRead_38 : decode cX12_sumRead 38 = .ok (.ifCond .ne 10, 3) := by decide +kernel
theorem dX12_sumRead_41 : decode cX12_sumRead 41 = .ok (.aload_n 0, 1) := by decide +kernel
theorem dX12_sumRead_42 : decode cX12_sumRead 42 = .ok (.getfield 358, 3) := by decide +kernel
theorem dX12_sumRead_45 : decode cX12_sumRead 45 = .ok (.ifCond .le 29, 3) := by decide +kernel
theorem dX12_sumRead_48 : decode cX12_sumRead 48 = .ok (.aload_n 0, 1) := by decide +kernel
theorem dX12_sumRead_49 : decode cX12_sumRead 49 = .ok (.getfield 374, 3) := by decide +kernel
theorem dX12_sumRead_52 : decode cX12_sumRead 52 = .ok (.ifCond .eq 13, 3) := by decide +kernel
theorem dX12_sumRead_55 : decode cX12_sumRead 55 = .ok (.aload_n 0, 1) := by decide +kernel
theorem dX12_sumRead_56 : decode cX12_sumRead 56 = .ok (.invokevirtual 380, 3) := by decide +kernel
theorem dX12_sumRead_59 : decode cX12_sumRead 59 = .ok (.ifCond .eq 13, 3) := by decide +kernel
theorem dX12_sumRead_62 : decode cX12_sumRead 62 = .ok (.goto (-37), 3) := by decide +kernel
theorem dX12_sumRead_65 : decode cX12_sumRead 65 = .ok (.aload_n 0, 1) := by decide +kernel
theorem dX12_sumRead_66 : decode cX12_sumRead 66 = .ok (.invokevirtual 383, 3) := by decide +kernel
theorem dX12_sumRead_69 : decode cX12_sumRead 69 = .ok (.ifCond .ne (-44), 3) := by decide +kernel
theorem dX12_sumRead_72 : decode cX12_sumRead 72 = .ok (.iconst 0, 1) := by decide +kernel
theorem dX12_sumRead_73 : decode cX12_sumRead 73 = .ok (.ireturn, 1) := by decide +kernel
theorem dX12_sumRead_74 : decode cX12_sumRead 74 = .ok (.aload_n 0, 1) := by decide +kernel
theorem dX12_sumRead_75 : decode cX12_sumRead 75 = .ok (.iconst 1, 1) := by decide +kernel
theorem dX12_sumRead_76 : decode cX12_sumRead 76 = .ok (.invokevirtual 377, 3) := by decide +kernel
theorem dX12_sumRead_79 : decode cX12_sumRead 79 = .ok (.iconst 1, 1) := by decide +kernel
theorem dX12_sumRead_80 : decode cX12_sumRead 80 = .ok (.ireturn, 1) := by decide +kernel
theorem dX12_bounded_0 : decode cX12_bounded 0 = .ok (.aload_n 0, 1) := by decide +kernel
theorem dX12_bounded_1 : decode cX12_bounded 1 = .ok (.aload_n 0, 1) := by decide +kernel
theorem dX12_bounded_2 : decode cX12_bounded 2 = .ok (.getfield 386, 3) := by decide +kernel
theorem dX12_bounded_5 : decode cX12_bounded 5 = .ok (.ifCond .ne 19, 3) := by decide +kernel
theorem dX12_bounded_8 : decode cX12_bounded 8 = .ok (.lload_n 1, 1) := by decide +kernel
theorem dX12_bounded_9 : decode cX12_bounded 9 = .ok (.ldc2_w 389, 3) := by decide +kernel
theorem dX12_bounded_12 : decode cX12_bounded 12 = .ok (.lcmp, 1) := by decide +kernel
theorem dX12_bounded_13 : decode cX12_bounded 13 = .ok (.ifCond .gt 11, 3) := by decide +kernel
theorem dX12_bounded_16 : decode cX12_bounded 16 = .ok (.lload_n 1, 1) := by decide +kernel
theorem dX12_bounded_17 : decode cX12_bounded 17 = .ok (.ldc2_w 391, 3) := by decide +kernel
theorem dX12_bounded_20 : decode cX12_bounded 20 = .ok (.lcmp, 1) := by decide +kernel
theorem dX12_bounded_21 : decode cX12_bounded 21 = .ok (.ifCond .ge 7, 3) := by decide +kernel
theorem dX12_bounded_24 : decode cX12_bounded 24 = .ok (.iconst 1, 1) := by decide +kernel
theorem dX12_bounded_25 : decode cX12_bounded 25 = .ok (.goto 4, 3) := by decide +kernel
theorem dX12_bounded_28 : decode cX12_bounded 28 = .ok (.iconst 0, 1) := by decide +kernel
theorem dX12_bounded_29 : decode cX12_bounded 29 = .ok (.putfield 386, 3) := by decide +kernel
theorem dX12_bounded_32 : decode cX12_bounded 32 = .ok (.aload_n 0, 1) := by decide +kernel
theorem dX12_bounded_33 : decode cX12_bounded 33 = .ok (.getfield 386, 3) := by decide +kernel
theorem dX12_bounded_36 : decode cX12_bounded 36 = .ok (.ifCond .eq 7, 3) := by decide +kernel
theorem dX12_bounded_39 : decode cX12_bounded 39 = .ok (.lconst 0, 1) := by decide +kernel
theorem dX12_bounded_40 : decode cX12_bounded 40 = .ok (.goto 4, 3) := by decide +kernel
theorem dX12_bounded_43 : decode cX12_bounded 43 = .ok (.lload_n 1, 1) := by decide +kernel
theorem dX12_bounded_44 : decode cX12_bounded 44 = .ok (.lreturn, 1) := by decide +kernel
theorem dX12_compares_0 : decode cX12_compares 0 = .ok (.iload_n 0, 1) := by decide +kernel
theorem dX12_compares_1 : decode cX12_compares 1 = .ok (.tableswitch 95 5 9 #[35, 47, 59, 71, 83], 35) := by decide +kernel
theorem dX12_compares_36 : decode cX12_compares 36 = .ok (.lload_n 1, 1) := by decide +kernel
theorem dX12_compares_37 : decode cX12_compares 37 = .ok (.lload_n 3, 1) := by decide +kernel
theorem dX12_compares_38 : decode cX12_compares 38 = .ok (.lcmp, 1) := by decide +kernel
theorem dX12_compares_39 : decode cX12_compares 39 = .ok (.ifCond .ge 7, 3) := by decide +kernel
theorem dX12_compares_42 : decode cX12_compares 42 = .ok (.iconst 1, 1) := by decide +kernel
theorem dX12_compares_43 : decode cX12_compares 43 = .ok (.goto 4, 3) := by decide +kernel
theorem dX12_compares_46 : decode cX12_compares 46 = .ok (.iconst 0, 1) := by decide +kernel
theorem dX12_compares_47 : decode cX12_compares 47 = .ok (.ireturn, 1) := by decide +kernel
theorem dX12_compares_48 : decode cX12_compares 48 = .ok (.lload_n 1, 1) := by decide +kernel
theorem dX12_compares_49 : decode cX12_compares 49 = .ok (.lload_n 3, 1) := by decide +kernel
theorem dX12_compares_50 : decode cX12_compares 50 = .ok (.lcmp, 1) := by decide +kernel
theorem dX12_compares_51 : decode cX12_compares 51 = .ok (.ifCond .gt 7, 3) := by decide +kernel
theorem dX12_compares_54 : decode cX12_compares 54 = .ok (.iconst 1, 1) := by decide +kernel
theorem dX12_compares_55 : decode cX12_compares 55 = .ok (.goto 4, 3) := by decide +kernel
theorem dX12_compares_58 : decode cX12_compares 58 = .ok (.iconst 0, 1) := by decide +kernel
theorem dX12_compares_59 : decode cX12_compares 59 = .ok (.ireturn, 1) := by decide +kernel
theorem dX12_compares_60 : decode cX12_compares 60 = .ok (.lload_n 1, 1) := by decide +kernel
theorem dX12_compares_61 : decode cX12_compares 61 = .ok (.lload_n 3, 1) := by decide +kernel
theorem dX12_compares_62 : decode cX12_compares 62 = .ok (.lcmp, 1) := by decide +kernel
theorem dX12_compares_63 : decode cX12_compares 63 = .ok (.ifCond .ne 7, 3) := by decide +kernel
theorem dX12_compares_66 : decode cX12_compares 66 = .ok (.iconst 1, 1) := by decide +kernel
theorem dX12_compares_67 : decode cX12_compares 67 = .ok (.goto 4, 3) := by decide +kernel
theorem dX12_compares_70 : decode cX12_compares 70 = .ok (.iconst 0, 1) := by decide +kernel
theorem dX12_compares_71 : decode cX12_compares 71 = .ok (.ireturn, 1) := by decide +kernel
theorem dX12_compares_72 : decode cX12_compares 72 = .ok (.lload_n 1, 1) := by decide +kernel
theorem dX12_compares_73 : decode cX12_compares 73 = .ok (.lload_n 3, 1) := by decide +kernel
theorem dX12_compares_74 : decode cX12_compares 74 = .ok (.lcmp, 1) := by decide +kernel
theorem dX12_compares_75 : decode cX12_compares 75 = .ok (.ifCond .eq 7, 3) := by decide +kernel
theorem dX12_compares_78 : decode cX12_compares 78 = .ok (.iconst 1, 1) := by decide +kernel
theorem dX12_compares_79 : decode cX12_compares 79 = .ok (.goto 4, 3) := by decide +kernel
theorem dX12_compares_82 : decode cX12_compares 82 = .ok (.iconst 0, 1) := by decide +kernel
theorem dX12_compares_83 : decode cX12_compares 83 = .ok (.ireturn, 1) := by decide +kernel
theorem dX12_compares_84 : decode cX12_compares 84 = .ok (.lload_n 1, 1) := by decide +kernel
theorem dX12_compares_85 : decode cX12_compares 85 = .ok (.lload_n 3, 1) := by decide +kernel
theorem dX12_compares_86 : decode cX12_compares 86 = .ok (.lcmp, 1) := by decide +kernel
theorem dX12_compares_87 : decode cX12_compares 87 = .ok (.ifCond .lt 7, 3) := by decide +kernel
theorem dX12_compares_90 : decode cX12_compares 90 = .ok (.iconst 1, 1) := by decide +kernel
theorem dX12_compares_91 : decode cX12_compares 91 = .ok (.goto 4, 3) := by decide +kernel
theorem dX12_compares_94 : decode cX12_compares 94 = .ok (.iconst 0, 1) := by decide +kernel
theorem dX12_compares_95 : decode cX12_compares 95 = .ok (.ireturn, 1) := by decide +kernel
theorem dX12_compares_96 : decode cX12_compares 96 = .ok (.lload_n 1, 1) := by decide +kernel
theorem dX12_compares_97 : decode cX12_compares 97 = .ok (.lload_n 3, 1) := by decide +kernel
theorem dX12_compares_98 : decode cX12_compares 98 = .ok (.lcmp, 1) := by decide +kernel
theorem dX12_compares_99 : decode cX12_compares 99 = .ok (.ifCond .le 7, 3) := by decide +kernel
theorem dX12_compares_102 : decode cX12_compares 102 = .ok (.iconst 1, 1) := by decide +kernel
theorem dX12_compares_103 : decode cX12_compares 103 = .ok (.goto 4, 3) := by decide +kernel
theorem dX12_compares_106 : decode cX12_compares 106 = .ok (.iconst 0, 1) := by decide +kernel
theorem dX12_compares_107 : decode cX12_compares 107 = .ok (.ireturn, 1) := by decide +kernel
theorem dX12_times_0 : decode cX12_times 0 = .ok (.lload_n 1, 1) := by decide +kernel
theorem dX12_times_1 : decode cX12_times 1 = .ok (.lconst 0, 1) := by decide +kernel
theorem dX12_times_2 : decode cX12_times 2 = .ok (.lcmp, 1) := by decide +kernel
theorem dX12_times_3 : decode cX12_times 3 = .ok (.ifCond .eq 45, 3) := by decide +kernel
theorem dX12_times_6 : decode cX12_times 6 = .ok (.lload_n 3, 1) := by decide +kernel
theorem dX12_times_7 : decode cX12_times 7 = .ok (.lconst 0, 1) := by decide +kernel
theorem dX12_times_8 : decode cX12_times 8 = .ok (.lcmp, 1) := by decide +kernel
theorem dX12_times_9 : decode cX12_times 9 = .ok (.ifCond .eq 39, 3) := by decide +kernel
theorem dX12_times_12 : decode cX12_times 12 = .ok (.lload_n 3, 1) := by decide +kernel
theorem dX12_times_13 : decode cX12_times 13 = .ok (.lconst 0, 1) := by decide +kernel
theorem dX12_times_14 : decode cX12_times 14 = .ok (.lcmp, 1) := by decide +kernel
theorem dX12_times_15 : decode cX12_times 15 = .ok (.ifCond .ge 8, 3) := by decide +kernel
theorem dX12_times_18 : decode cX12_times 18 = .ok (.lload_n 3, 1) := by decide +kernel
theorem dX12_times_19 : decode cX12_times 19 = .ok (.lneg, 1) := by decide +kernel
theorem dX12_times_20 : decode cX12_times 20 = .ok (.goto 4, 3) := by decide +kernel
theorem dX12_times_23 : decode cX12_times 23 = .ok (.lload_n 3, 1) := by decide +kernel
theorem dX12_times_24 : decode cX12_times 24 = .ok (.ldc2_w 389, 3) := by decide +kernel
theorem dX12_times_27 : decode cX12_times 27 = .ok (.lload_n 1, 1) := by decide +kernel
theorem dX12_times_28 : decode cX12_times 28 = .ok (.lconst 0, 1) := by decide +kernel
theorem dX12_times_29 : decode cX12_times 29 = .ok (.lcmp, 1) := by decide +kernel
theorem dX12_times_30 : decode cX12_times 30 = .ok (.ifCond .ge 8, 3) := by decide +kernel
theorem dX12_times_33 : decode cX12_times 33 = .ok (.lload_n 1, 1) := by decide +kernel
theorem dX12_times_34 : decode cX12_times 34 = .ok (.lneg, 1) := by decide +kernel
theorem dX12_times_35 : decode cX12_times 35 = .ok (.goto 4, 3) := by decide +kernel
theorem dX12_times_38 : decode cX12_times 38 = .ok (.lload_n 1, 1) := by decide +kernel
theorem dX12_times_39 : decode cX12_times 39 = .ok (.ldiv, 1) := by decide +kernel
theorem dX12_times_40 : decode cX12_times 40 = .ok (.lcmp, 1) := by decide +kernel
theorem dX12_times_41 : decode cX12_times 41 = .ok (.ifCond .le 7, 3) := by decide +kernel
theorem dX12_times_44 : decode cX12_times 44 = .ok (.iconst 1, 1) := by decide +kernel
theorem dX12_times_45 : decode cX12_times 45 = .ok (.goto 4, 3) := by decide +kernel
theorem dX12_times_48 : decode cX12_times 48 = .ok (.iconst 0, 1) := by decide +kernel
theorem dX12_times_49 : decode cX12_times 49 = .ok (.istore 5, 2) := by decide +kernel
theorem dX12_times_51 : decode cX12_times 51 = .ok (.aload_n 0, 1) := by decide +kernel
theorem dX12_times_52 : decode cX12_times 52 = .ok (.aload_n 0, 1) := by decide +kernel
theorem dX12_times_53 : decode cX12_times 53 = .ok (.getfield 386, 3) := by decide +kernel
theorem dX12_times_56 : decode cX12_times 56 = .ok (.ifCond .ne 8, 3) := by decide +kernel
theorem dX12_times_59 : decode cX12_times 59 = .ok (.iload 5, 2) := by decide +kernel
theorem dX12_times_61 : decode cX12_times 61 = .ok (.ifCond .eq 7, 3) := by decide +kernel
theorem dX12_times_64 : decode cX12_times 64 = .ok (.iconst 1, 1) := by decide +kernel
theorem dX12_times_65 : decode cX12_times 65 = .ok (.goto 4, 3) := by decide +kernel
theorem dX12_times_68 : decode cX12_times 68 = .ok (.iconst 0, 1) := by decide +kernel
theorem dX12_times_69 : decode cX12_times 69 = .ok (.putfield 386, 3) := by decide +kernel
theorem dX12_times_72 : decode cX12_times 72 = .ok (.aload_n 0, 1) := by decide +kernel
theorem dX12_times_73 : decode cX12_times 73 = .ok (.getfield 386, 3) := by decide +kernel
theorem dX12_times_76 : decode cX12_times 76 = .ok (.ifCond .eq 7, 3) := by decide +kernel
theorem dX12_times_79 : decode cX12_times 79 = .ok (.lconst 0, 1) := by decide +kernel
theorem dX12_times_80 : decode cX12_times 80 = .ok (.goto 6, 3) := by decide +kernel
theorem dX12_times_83 : decode cX12_times 83 = .ok (.lload_n 1, 1) := by decide +kernel
theorem dX12_times_84 : decode cX12_times 84 = .ok (.lload_n 3, 1) := by decide +kernel
theorem dX12_times_85 : decode cX12_times 85 = .ok (.lmul, 1) := by decide +kernel
theorem dX12_times_86 : decode cX12_times 86 = .ok (.lreturn, 1) := by decide +kernel
theorem dX12_valueOf_0 : decode cX12_valueOf 0 = .ok (.aload_n 0, 1) := by decide +kernel
theorem dX12_valueOf_1 : decode cX12_valueOf 1 = .ok (.getfield 90, 3) := by decide +kernel
theorem dX12_valueOf_4 : decode cX12_valueOf 4 = .ok (.iload_n 1, 1) := by decide +kernel
theorem dX12_valueOf_5 : decode cX12_valueOf 5 = .ok (.iaload, 1) := by decide +kernel
theorem dX12_valueOf_6 : decode cX12_valueOf 6 = .ok (.ifCond .ne 11, 3) := by decide +kernel
theorem dX12_valueOf_9 : decode cX12_valueOf 9 = .ok (.aload_n 0, 1) := by decide +kernel
theorem dX12_valueOf_10 : decode cX12_valueOf 10 = .ok (.getfield 93, 3) := by decide +kernel
theorem dX12_valueOf_13 : decode cX12_valueOf 13 = .ok (.iload_n 1, 1) := by decide +kernel
theorem dX12_valueOf_14 : decode cX12_valueOf 14 = .ok (.iaload, 1) := by decide +kernel
theorem dX12_valueOf_15 : decode cX12_valueOf 15 = .ok (.i2l, 1) := by decide +kernel
theorem dX12_valueOf_16 : decode cX12_valueOf 16 = .ok (.lreturn, 1) := by decide +kernel
theorem dX12_valueOf_17 : decode cX12_valueOf 17 = .ok (.aload_n 0, 1) := by decide +kernel
theorem dX12_valueOf_18 : decode cX12_valueOf 18 = .ok (.getfield 90, 3) := by decide +kernel
theorem dX12_valueOf_21 : decode cX12_valueOf 21 = .ok (.iload_n 1, 1) := by decide +kernel
theorem dX12_valueOf_22 : decode cX12_valueOf 22 = .ok (.iaload, 1) := by decide +kernel
theorem dX12_valueOf_23 : decode cX12_valueOf 23 = .ok (.iconst 1, 1) := by decide +kernel
theorem dX12_valueOf_24 : decode cX12_valueOf 24 = .ok (.if_icmp .ne 15, 3) := by decide +kernel
theorem dX12_valueOf_27 : decode cX12_valueOf 27 = .ok (.aload_n 0, 1) := by decide +kernel
theorem dX12_valueOf_28 : decode cX12_valueOf 28 = .ok (.getfield 105, 3) := by decide +kernel
theorem dX12_valueOf_31 : decode cX12_valueOf 31 = .ok (.aload_n 0, 1) := by decide +kernel
theorem dX12_valueOf_32 : decode cX12_valueOf 32 = .ok (.getfield 93, 3) := by decide +kernel
theorem dX12_valueOf_35 : decode cX12_valueOf 35 = .ok (.iload_n 1, 1) := by decide +kernel
theorem dX12_valueOf_36 : decode cX12_valueOf 36 = .ok (.iaload, 1) := by decide +kernel
theorem dX12_valueOf_37 : decode cX12_valueOf 37 = .ok (.laload, 1) := by decide +kernel
theorem dX12_valueOf_38 : decode cX12_valueOf 38 = .ok (.lreturn, 1) := by decide +kernel
theorem dX12_valueOf_39 : decode cX12_valueOf 39 = .ok (.aload_n 0, 1) := by decide +kernel
theorem dX12_valueOf_40 : decode cX12_valueOf 40 = .ok (.getfield 109, 3) := by decide +kernel
theorem dX12_valueOf_43 : decode cX12_valueOf 43 = .ok (.aload_n 0, 1) := by decide +kernel
theorem dX12_valueOf_44 : decode cX12_valueOf 44 = .ok (.getfield 93, 3) := by decide +kernel
theorem dX12_valueOf_47 : decode cX12_valueOf 47 = .ok (.iload_n 1, 1) := by decide +kernel
theorem dX12_valueOf_48 : decode cX12_valueOf 48 = .ok (.iaload, 1) := by decide +kernel
theorem dX12_valueOf_49 : decode cX12_valueOf 49 = .ok (.laload, 1) := by decide +kernel
theorem dX12_valueOf_50 : decode cX12_valueOf 50 = .ok (.lstore_n 2, 1) := by decide +kernel
theorem dX12_valueOf_51 : decode cX12_valueOf 51 = .ok (.aload_n 0, 1) := by decide +kernel
theorem dX12_valueOf_52 : decode cX12_valueOf 52 = .ok (.getfield 90, 3) := by decide +kernel
theorem dX12_valueOf_55 : decode cX12_valueOf 55 = .ok (.iload_n 1, 1) := by decide +kernel
theorem dX12_valueOf_56 : decode cX12_valueOf 56 = .ok (.iaload, 1) := by decide +kernel
theorem dX12_valueOf_57 : decode cX12_valueOf 57 = .ok (.iconst 2, 1) := by decide +kernel
theorem dX12_valueOf_58 : decode cX12_valueOf 58 = .ok (.if_icmp .ne 15, 3) := by decide +kernel
theorem dX12_valueOf_61 : decode cX12_valueOf 61 = .ok (.lload_n 2, 1) := by decide +kernel
theorem dX12_valueOf_62 : decode cX12_valueOf 62 = .ok (.lconst 0, 1) := by decide +kernel
theorem dX12_valueOf_63 : decode cX12_valueOf 63 = .ok (.lcmp, 1) := by decide +kernel
theorem dX12_valueOf_64 : decode cX12_valueOf 64 = .ok (.ifCond .ne 7, 3) := by decide +kernel
theorem dX12_valueOf_67 : decode cX12_valueOf 67 = .ok (.lconst 1, 1) := by decide +kernel
theorem dX12_valueOf_68 : decode cX12_valueOf 68 = .ok (.goto 4, 3) := by decide +kernel
theorem dX12_valueOf_71 : decode cX12_valueOf 71 = .ok (.lconst 0, 1) := by decide +kernel
theorem dX12_valueOf_72 : decode cX12_valueOf 72 = .ok (.lreturn, 1) := by decide +kernel
theorem dX12_valueOf_73 : decode cX12_valueOf 73 = .ok (.aload_n 0, 1) := by decide +kernel
theorem dX12_valueOf_74 : decode cX12_valueOf 74 = .ok (.getfield 109, 3) := by decide +kernel
theorem dX12_valueOf_77 : decode cX12_valueOf 77 = .ok (.aload_n 0, 1) := by decide +kernel
theorem dX12_valueOf_78 : decode cX12_valueOf 78 = .ok (.getfield 96, 3) := by decide +kernel
theorem dX12_valueOf_81 : decode cX12_valueOf 81 = .ok (.iload_n 1, 1) := by decide +kernel
theorem dX12_valueOf_82 : decode cX12_valueOf 82 = .ok (.iaload, 1) := by decide +kernel
theorem dX12_valueOf_83 : decode cX12_valueOf 83 = .ok (.laload, 1) := by decide +kernel
theorem dX12_valueOf_84 : decode cX12_valueOf 84 = .ok (.lstore 4, 2) := by decide +kernel
theorem dX12_valueOf_86 : decode cX12_valueOf 86 = .ok (.aload_n 0, 1) := by decide +kernel
theorem dX12_valueOf_87 : decode cX12_valueOf 87 = .ok (.getfield 90, 3) := by decide +kernel
theorem dX12_valueOf_90 : decode cX12_valueOf 90 = .ok (.iload_n 1, 1) := by decide +kernel
theorem dX12_valueOf_91 : decode cX12_valueOf 91 = .ok (.iaload, 1) := by decide +kernel
theorem dX12_valueOf_92 : decode cX12_valueOf 92 = .ok (.tableswitch 167 3 14 #[64, 83, 167, 167, 167, 167, 167, 167, 102, 111, 120, 128], 64) := by decide +kernel
theorem dX12_valueOf_156 : decode cX12_valueOf 156 = .ok (.lload_n 2, 1) := by decide +kernel
theorem dX12_valueOf_157 : decode cX12_valueOf 157 = .ok (.lconst 0, 1) := by decide +kernel
theorem dX12_valueOf_158 : decode cX12_valueOf 158 = .ok (.lcmp, 1) := by decide +kernel
theorem dX12_valueOf_159 : decode cX12_valueOf 159 = .ok (.ifCond .eq 14, 3) := by decide +kernel
theorem dX12_valueOf_162 : decode cX12_valueOf 162 = .ok (.lload 4, 2) := by decide +kernel
theorem dX12_valueOf_164 : decode cX12_valueOf 164 = .ok (.lconst 0, 1) := by decide +kernel
theorem dX12_valueOf_165 : decode cX12_valueOf 165 = .ok (.lcmp, 1) := by decide +kernel
theorem dX12_valueOf_166 : decode cX12_valueOf 166 = .ok (.ifCond .eq 7, 3) := by decide +kernel
theorem dX12_valueOf_169 : decode cX12_valueOf 169 = .ok (.lconst 1, 1) := by decide +kernel
theorem dX12_valueOf_170 : decode cX12_valueOf 170 = .ok (.goto 4, 3) := by decide +kernel
theorem dX12_valueOf_173 : decode cX12_valueOf 173 = .ok (.lconst 0, 1) := by decide +kernel
theorem dX12_valueOf_174 : decode cX12_valueOf 174 = .ok (.lreturn, 1) := by decide +kernel
theorem dX12_valueOf_175 : decode cX12_valueOf 175 = .ok (.lload_n 2, 1) := by decide +kernel
theorem dX12_valueOf_176 : decode cX12_valueOf 176 = .ok (.lconst 0, 1) := by decide +kernel
theorem dX12_valueOf_177 : decode cX12_valueOf 177 = .ok (.lcmp, 1) := by decide +kernel
theorem dX12_valueOf_178 : decode cX12_valueOf 178 = .ok (.ifCond .ne 10, 3) := by decide +kernel
theorem dX12_valueOf_181 : decode cX12_valueOf 181 = .ok (.lload 4, 2) := by decide +kernel
theorem dX12_valueOf_183 : decode cX12_valueOf 183 = .ok (.lconst 0, 1) := by decide +kernel
theorem dX12_valueOf_184 : decode cX12_valueOf 184 = .ok (.lcmp, 1) := by decide +kernel
theorem dX12_valueOf_185 : decode cX12_valueOf 185 = .ok (.ifCond .eq 7, 3) := by decide +kernel
theorem dX12_valueOf_188 : decode cX12_valueOf 188 = .ok (.lconst 1, 1) := by decide +kernel
theorem dX12_valueOf_189 : decode cX12_valueOf 189 = .ok (.goto 4, 3) := by decide +kernel
theorem dX12_valueOf_192 : decode cX12_valueOf 192 = .ok (.lconst 0, 1) := by decide +kernel
theorem dX12_valueOf_193 : decode cX12_valueOf 193 = .ok (.lreturn, 1) := by decide +kernel
theorem dX12_valueOf_194 : decode cX12_valueOf 194 = .ok (.aload_n 0, 1) := by decide +kernel
theorem dX12_valueOf_195 : decode cX12_valueOf 195 = .ok (.lload_n 2, 1) := by decide +kernel
theorem dX12_valueOf_196 : decode cX12_valueOf 196 = .ok (.lload 4, 2) := by decide +kernel
theorem dX12_valueOf_198 : decode cX12_valueOf 198 = .ok (.ladd, 1) := by decide +kernel
theorem dX12_valueOf_199 : decode cX12_valueOf 199 = .ok (.invokevirtual 393, 3) := by decide +kernel
theorem dX12_valueOf_202 : decode cX12_valueOf 202 = .ok (.lreturn, 1) := by decide +kernel
theorem dX12_valueOf_203 : decode cX12_valueOf 203 = .ok (.aload_n 0, 1) := by decide +kernel
theorem dX12_valueOf_204 : decode cX12_valueOf 204 = .ok (.lload_n 2, 1) := by decide +kernel
theorem dX12_valueOf_205 : decode cX12_valueOf 205 = .ok (.lload 4, 2) := by decide +kernel
theorem dX12_valueOf_207 : decode cX12_valueOf 207 = .ok (.lsub, 1) := by decide +kernel
theorem dX12_valueOf_208 : decode cX12_valueOf 208 = .ok (.invokevirtual 393, 3) := by decide +kernel
theorem dX12_valueOf_211 : decode cX12_valueOf 211 = .ok (.lreturn, 1) := by decide +kernel
theorem dX12_valueOf_212 : decode cX12_valueOf 212 = .ok (.aload_n 0, 1) := by decide +kernel
theorem dX12_valueOf_213 : decode cX12_valueOf 213 = .ok (.lload_n 2, 1) := by decide +kernel
theorem dX12_valueOf_214 : decode cX12_valueOf 214 = .ok (.lload 4, 2) := by decide +kernel
theorem dX12_valueOf_216 : decode cX12_valueOf 216 = .ok (.invokevirtual 397, 3) := by decide +kernel
theorem dX12_valueOf_219 : decode cX12_valueOf 219 = .ok (.lreturn, 1) := by decide +kernel
theorem dX12_valueOf_220 : decode cX12_valueOf 220 = .ok (.aload_n 0, 1) := by decide +kernel
theorem dX12_valueOf_221 : decode cX12_valueOf 221 = .ok (.aload_n 0, 1) := by decide +kernel
theorem dX12_valueOf_222 : decode cX12_valueOf 222 = .ok (.getfield 386, 3) := by decide +kernel
theorem dX12_valueOf_225 : decode cX12_valueOf 225 = .ok (.ifCond .ne 10, 3) := by decide +kernel
theorem dX12_valueOf_228 : decode cX12_valueOf 228 = .ok (.lload 4, 2) := by decide +kernel
theorem dX12_valueOf_230 : decode cX12_valueOf 230 = .ok (.lconst 0, 1) := by decide +kernel
theorem dX12_valueOf_231 : decode cX12_valueOf 231 = .ok (.lcmp, 1) := by decide +kernel
theorem dX12_valueOf_232 : decode cX12_valueOf 232 = .ok (.ifCond .ne 7, 3) := by decide +kernel
theorem dX12_valueOf_235 : decode cX12_valueOf 235 = .ok (.iconst 1, 1) := by decide +kernel
theorem dX12_valueOf_236 : decode cX12_valueOf 236 = .ok (.goto 4, 3) := by decide +kernel
theorem dX12_valueOf_239 : decode cX12_valueOf 239 = .ok (.iconst 0, 1) := by decide +kernel
theorem dX12_valueOf_240 : decode cX12_valueOf 240 = .ok (.putfield 386, 3) := by decide +kernel
theorem dX12_valueOf_243 : decode cX12_valueOf 243 = .ok (.aload_n 0, 1) := by decide +kernel
theorem dX12_valueOf_244 : decode cX12_valueOf 244 = .ok (.getfield 386, 3) := by decide +kernel
theorem dX12_valueOf_247 : decode cX12_valueOf 247 = .ok (.ifCond .eq 7, 3) := by decide +kernel
theorem dX12_valueOf_250 : decode cX12_valueOf 250 = .ok (.lconst 0, 1) := by decide +kernel
theorem dX12_valueOf_251 : decode cX12_valueOf 251 = .ok (.goto 7, 3) := by decide +kernel
theorem dX12_valueOf_254 : decode cX12_valueOf 254 = .ok (.lload_n 2, 1) := by decide +kernel
theorem dX12_valueOf_255 : decode cX12_valueOf 255 = .ok (.lload 4, 2) := by decide +kernel
theorem dX12_valueOf_257 : decode cX12_valueOf 257 = .ok (.ldiv, 1) := by decide +kernel
theorem dX12_valueOf_258 : decode cX12_valueOf 258 = .ok (.lreturn, 1) := by decide +kernel
theorem dX12_valueOf_259 : decode cX12_valueOf 259 = .ok (.aload_n 0, 1) := by decide +kernel
theorem dX12_valueOf_260 : decode cX12_valueOf 260 = .ok (.getfield 90, 3) := by decide +kernel
theorem dX12_valueOf_263 : decode cX12_valueOf 263 = .ok (.iload_n 1, 1) := by decide +kernel
theorem dX12_valueOf_264 : decode cX12_valueOf 264 = .ok (.iaload, 1) := by decide +kernel
theorem dX12_valueOf_265 : decode cX12_valueOf 265 = .ok (.lload_n 2, 1) := by decide +kernel
theorem dX12_valueOf_266 : decode cX12_valueOf 266 = .ok (.lload 4, 2) := by decide +kernel
theorem dX12_valueOf_268 : decode cX12_valueOf 268 = .ok (.invokestatic 401, 3) := by decide +kernel
theorem dX12_valueOf_271 : decode cX12_valueOf 271 = .ok (.ifCond .eq 7, 3) := by decide +kernel
theorem dX12_valueOf_274 : decode cX12_valueOf 274 = .ok (.lconst 1, 1) := by decide +kernel
theorem dX12_valueOf_275 : decode cX12_valueOf 275 = .ok (.goto 4, 3) := by decide +kernel
theorem dX12_valueOf_278 : decode cX12_valueOf 278 = .ok (.lconst 0, 1) := by decide +kernel
theorem dX12_valueOf_279 : decode cX12_valueOf 279 = .ok (.lreturn, 1) := by decide +kernel
theorem dX12_isDamp_0 : decode cX12_isDamp 0 = .ok (.aload_n 0, 1) := by decide +kernel
theorem dX12_isDamp_1 : decode cX12_isDamp 1 = .ok (.getfield 33, 3) := by decide +kernel
theorem dX12_isDamp_4 : decode cX12_isDamp 4 = .ok (.iload_n 1, 1) := by decide +kernel
theorem dX12_isDamp_5 : decode cX12_isDamp 5 = .ok (.baload, 1) := by decide +kernel
theorem dX12_isDamp_6 : decode cX12_isDamp 6 = .ok (.ifCond .ne 10, 3) := by decide +kernel
theorem dX12_isDamp_9 : decode cX12_isDamp 9 = .ok (.aload_n 0, 1) := by decide +kernel
theorem dX12_isDamp_10 : decode cX12_isDamp 10 = .ok (.getfield 285, 3) := by decide +kernel
theorem dX12_isDamp_13 : decode cX12_isDamp 13 = .ok (.ifCond .eq 7, 3) := by decide +kernel
theorem dX12_isDamp_16 : decode cX12_isDamp 16 = .ok (.iconst 1, 1) := by decide +kernel
theorem dX12_isDamp_17 : decode cX12_isDamp 17 = .ok (.goto 4, 3) := by decide +kernel
theorem dX12_isDamp_20 : decode cX12_isDamp 20 = .ok (.iconst 0, 1) := by decide +kernel
theorem dX12_isDamp_21 : decode cX12_isDamp 21 = .ok (.ireturn, 1) := by decide +kernel
theorem dX12_slopeOf_0 : decode cX12_slopeOf 0 = .ok (.aload_n 0, 1) := by decide +kernel
theorem dX12_slopeOf_1 : decode cX12_slopeOf 1 = .ok (.getfield 405, 3) := by decide +kernel
theorem dX12_slopeOf_4 : decode cX12_slopeOf 4 = .ok (.ifCond .eq 7, 3) := by decide +kernel
theorem dX12_slopeOf_7 : decode cX12_slopeOf 7 = .ok (.iconst 0, 1) := by decide +kernel
theorem dX12_slopeOf_8 : decode cX12_slopeOf 8 = .ok (.goto 9, 3) := by decide +kernel
theorem dX12_slopeOf_11 : decode cX12_slopeOf 11 = .ok (.aload_n 0, 1) := by decide +kernel
theorem dX12_slopeOf_12 : decode cX12_slopeOf 12 = .ok (.getfield 26, 3) := by decide +kernel
theorem dX12_slopeOf_15 : decode cX12_slopeOf 15 = .ok (.iload_n 1, 1) := by decide +kernel
theorem dX12_slopeOf_16 : decode cX12_slopeOf 16 = .ok (.iaload, 1) := by decide +kernel
theorem dX12_slopeOf_17 : decode cX12_slopeOf 17 = .ok (.ireturn, 1) := by decide +kernel
theorem dX12_layNames_0 : decode cX12_layNames 0 = .ok (.aload_n 0, 1) := by decide +kernel
theorem dX12_layNames_1 : decode cX12_layNames 1 = .ok (.getfield 105, 3) := by decide +kernel
theorem dX12_layNames_4 : decode cX12_layNames 4 = .ok (.iconst 0, 1) := by decide +kernel
theorem dX12_layNames_5 : decode cX12_layNames 5 = .ok (.iload_n 2, 1) := by decide +kernel
theorem dX12_layNames_6 : decode cX12_layNames 6 = .ok (.i2l, 1) := by decide +kernel
theorem dX12_layNames_7 : decode cX12_layNames 7 = .ok (.lastore, 1) := by decide +kernel
theorem dX12_layNames_8 : decode cX12_layNames 8 = .ok (.aload_n 0, 1) := by decide +kernel
theorem dX12_layNames_9 : decode cX12_layNames 9 = .ok (.getfield 105, 3) := by decide +kernel
theorem dX12_layNames_12 : decode cX12_layNames 12 = .ok (.iconst 1, 1) := by decide +kernel
theorem dX12_layNames_13 : decode cX12_layNames 13 = .ok (.aload_n 0, 1) := by decide +kernel
theorem dX12_layNames_14 : decode cX12_layNames 14 = .ok (.iload_n 1, 1) := by decide +kernel
theorem dX12_layNames_15 : decode cX12_layNames 15 = .ok (.invokevirtual 408, 3) := by decide +kernel
theorem dX12_layNames_18 : decode cX12_layNames 18 = .ok (.i2l, 1) := by decide +kernel
theorem dX12_layNames_19 : decode cX12_layNames 19 = .ok (.lastore, 1) := by decide +kernel
theorem dX12_layNames_20 : decode cX12_layNames 20 = .ok (.aload_n 0, 1) := by decide +kernel
theorem dX12_layNames_21 : decode cX12_layNames 21 = .ok (.getfield 105, 3) := by decide +kernel
theorem dX12_layNames_24 : decode cX12_layNames 24 = .ok (.iconst 2, 1) := by decide +kernel
theorem dX12_layNames_25 : decode cX12_layNames 25 = .ok (.aload_n 0, 1) := by decide +kernel
theorem dX12_layNames_26 : decode cX12_layNames 26 = .ok (.getfield 411, 3) := by decide +kernel
theorem dX12_layNames_29 : decode cX12_layNames 29 = .ok (.i2l, 1) := by decide +kernel
theorem dX12_layNames_30 : decode cX12_layNames 30 = .ok (.lastore, 1) := by decide +kernel
theorem dX12_layNames_31 : decode cX12_layNames 31 = .ok (.aload_n 0, 1) := by decide +kernel
theorem dX12_layNames_32 : decode cX12_layNames 32 = .ok (.getfield 105, 3) := by decide +kernel
theorem dX12_layNames_35 : decode cX12_layNames 35 = .ok (.iconst 3, 1) := by decide +kernel
theorem dX12_layNames_36 : decode cX12_layNames 36 = .ok (.aload_n 0, 1) := by decide +kernel
theorem dX12_layNames_37 : decode cX12_layNames 37 = .ok (.getfield 414, 3) := by decide +kernel
theorem dX12_layNames_40 : decode cX12_layNames 40 = .ok (.i2l, 1) := by decide +kernel
theorem dX12_layNames_41 : decode cX12_layNames 41 = .ok (.lastore, 1) := by decide +kernel
theorem dX12_layNames_42 : decode cX12_layNames 42 = .ok (.aload_n 0, 1) := by decide +kernel
theorem dX12_layNames_43 : decode cX12_layNames 43 = .ok (.getfield 105, 3) := by decide +kernel
theorem dX12_layNames_46 : decode cX12_layNames 46 = .ok (.iconst 4, 1) := by decide +kernel
theorem dX12_layNames_47 : decode cX12_layNames 47 = .ok (.aload_n 0, 1) := by decide +kernel
theorem dX12_layNames_48 : decode cX12_layNames 48 = .ok (.getfield 417, 3) := by decide +kernel
theorem dX12_layNames_51 : decode cX12_layNames 51 = .ok (.i2l, 1) := by decide +kernel
theorem dX12_layNames_52 : decode cX12_layNames 52 = .ok (.lastore, 1) := by decide +kernel
theorem dX12_layNames_53 : decode cX12_layNames 53 = .ok (.aload_n 0, 1) := by decide +kernel
theorem dX12_layNames_54 : decode cX12_layNames 54 = .ok (.getfield 105, 3) := by decide +kernel
theorem dX12_layNames_57 : decode cX12_layNames 57 = .ok (.iconst 5, 1) := by decide +kernel
theorem dX12_layNames_58 : decode cX12_layNames 58 = .ok (.aload_n 0, 1) := by decide +kernel
theorem dX12_layNames_59 : decode cX12_layNames 59 = .ok (.getfield 420, 3) := by decide +kernel
theorem dX12_layNames_62 : decode cX12_layNames 62 = .ok (.i2l, 1) := by decide +kernel
theorem dX12_layNames_63 : decode cX12_layNames 63 = .ok (.lastore, 1) := by decide +kernel
theorem dX12_layNames_64 : decode cX12_layNames 64 = .ok (.aload_n 0, 1) := by decide +kernel
theorem dX12_layNames_65 : decode cX12_layNames 65 = .ok (.getfield 105, 3) := by decide +kernel
theorem dX12_layNames_68 : decode cX12_layNames 68 = .ok (.bipush 6, 2) := by decide +kernel
theorem dX12_layNames_70 : decode cX12_layNames 70 = .ok (.aload_n 0, 1) := by decide +kernel
theorem dX12_layNames_71 : decode cX12_layNames 71 = .ok (.iload_n 1, 1) := by decide +kernel
theorem dX12_layNames_72 : decode cX12_layNames 72 = .ok (.invokevirtual 423, 3) := by decide +kernel
theorem dX12_layNames_75 : decode cX12_layNames 75 = .ok (.ifCond .eq 7, 3) := by decide +kernel
theorem dX12_layNames_78 : decode cX12_layNames 78 = .ok (.lconst 1, 1) := by decide +kernel
theorem dX12_layNames_79 : decode cX12_layNames 79 = .ok (.goto 4, 3) := by decide +kernel
theorem dX12_layNames_82 : decode cX12_layNames 82 = .ok (.lconst 0, 1) := by decide +kernel
theorem dX12_layNames_83 : decode cX12_layNames 83 = .ok (.lastore, 1) := by decide +kernel
theorem dX12_layNames_84 : decode cX12_layNames 84 = .ok (.aload_n 0, 1) := by decide +kernel
theorem dX12_layNames_85 : decode cX12_layNames 85 = .ok (.getfield 105, 3) := by decide +kernel
theorem dX12_layNames_88 : decode cX12_layNames 88 = .ok (.bipush 7, 2) := by decide +kernel
theorem dX12_layNames_90 : decode cX12_layNames 90 = .ok (.aload_n 0, 1) := by decide +kernel
theorem dX12_layNames_91 : decode cX12_layNames 91 = .ok (.getfield 29, 3) := by decide +kernel
theorem dX12_layNames_94 : decode cX12_layNames 94 = .ok (.iload_n 1, 1) := by decide +kernel
theorem dX12_layNames_95 : decode cX12_layNames 95 = .ok (.baload, 1) := by decide +kernel
theorem dX12_layNames_96 : decode cX12_layNames 96 = .ok (.ifCond .eq 7, 3) := by decide +kernel
theorem dX12_layNames_99 : decode cX12_layNames 99 = .ok (.lconst 1, 1) := by decide +kernel
theorem dX12_layNames_100 : decode cX12_layNames 100 = .ok (.goto 4, 3) := by decide +kernel
theorem dX12_layNames_103 : decode cX12_layNames 103 = .ok (.lconst 0, 1) := by decide +kernel
theorem dX12_layNames_104 : decode cX12_layNames 104 = .ok (.lastore, 1) := by decide +kernel
theorem dX12_layNames_105 : decode cX12_layNames 105 = .ok (.return_, 1) := by decide +kernel
theorem dX12_lawOf_0 : decode cX12_lawOf 0 = .ok (.aload_n 0, 1) := by decide +kernel
theorem dX12_lawOf_1 : decode cX12_lawOf 1 = .ok (.iconst 0, 1) := by decide +kernel
theorem dX12_lawOf_2 : decode cX12_lawOf 2 = .ok (.putfield 386, 3) := by decide +kernel
theorem dX12_lawOf_5 : decode cX12_lawOf 5 = .ok (.aload_n 0, 1) := by decide +kernel
theorem dX12_lawOf_6 : decode cX12_lawOf 6 = .ok (.getfield 84, 3) := by decide +kernel
theorem dX12_lawOf_9 : decode cX12_lawOf 9 = .ok (.iload_n 1, 1) := by decide +kernel
theorem dX12_lawOf_10 : decode cX12_lawOf 10 = .ok (.iaload, 1) := by decide +kernel
theorem dX12_lawOf_11 : decode cX12_lawOf 11 = .ok (.istore_n 2, 1) := by decide +kernel
theorem dX12_lawOf_12 : decode cX12_lawOf 12 = .ok (.iload_n 2, 1) := by decide +kernel
theorem dX12_lawOf_13 : decode cX12_lawOf 13 = .ok (.aload_n 0, 1) := by decide +kernel
theorem dX12_lawOf_14 : decode cX12_lawOf 14 = .ok (.getfield 87, 3) := by decide +kernel
theorem dX12_lawOf_17 : decode cX12_lawOf 17 = .ok (.iload_n 1, 1) := by decide +kernel
theorem dX12_lawOf_18 : decode cX12_lawOf 18 = .ok (.iaload, 1) := by decide +kernel
theorem dX12_lawOf_19 : decode cX12_lawOf 19 = .ok (.if_icmp .ge 20, 3) := by decide +kernel
theorem dX12_lawOf_22 : decode cX12_lawOf 22 = .ok (.aload_n 0, 1) := by decide +kernel
theorem dX12_lawOf_23 : decode cX12_lawOf 23 = .ok (.getfield 109, 3) := by decide +kernel
theorem dX12_lawOf_26 : decode cX12_lawOf 26 = .ok (.iload_n 2, 1) := by decide +kernel
theorem dX12_lawOf_27 : decode cX12_lawOf 27 = .ok (.aload_n 0, 1) := by decide +kernel
theorem dX12_lawOf_28 : decode cX12_lawOf 28 = .ok (.iload_n 2, 1) := by decide +kernel
theorem dX12_lawOf_29 : decode cX12_lawOf 29 = .ok (.invokevirtual 426, 3) := by decide +kernel
theorem dX12_lawOf_32 : decode cX12_lawOf 32 = .ok (.lastore, 1) := by decide +kernel
theorem dX12_lawOf_33 : decode cX12_lawOf 33 = .ok (.iinc 2 1, 3) := by decide +kernel
theorem dX12_lawOf_36 : decode cX12_lawOf 36 = .ok (.goto (-24), 3) := by decide +kernel
theorem dX12_lawOf_39 : decode cX12_lawOf 39 = .ok (.aload_n 0, 1) := by decide +kernel
theorem dX12_lawOf_40 : decode cX12_lawOf 40 = .ok (.getfield 386, 3) := by decide +kernel
theorem dX12_lawOf_43 : decode cX12_lawOf 43 = .ok (.ifCond .eq 7, 3) := by decide +kernel
theorem dX12_lawOf_46 : decode cX12_lawOf 46 = .ok (.lconst 0, 1) := by decide +kernel
theorem dX12_lawOf_47 : decode cX12_lawOf 47 = .ok (.goto 16, 3) := by decide +kernel
theorem dX12_lawOf_50 : decode cX12_lawOf 50 = .ok (.aload_n 0, 1) := by decide +kernel
theorem dX12_lawOf_51 : decode cX12_lawOf 51 = .ok (.getfield 109, 3) := by decide +kernel
theorem dX12_lawOf_54 : decode cX12_lawOf 54 = .ok (.aload_n 0, 1) := by decide +kernel
theorem dX12_lawOf_55 : decode cX12_lawOf 55 = .ok (.getfield 87, 3) := by decide +kernel
theorem dX12_lawOf_58 : decode cX12_lawOf 58 = .ok (.iload_n 1, 1) := by decide +kernel
theorem dX12_lawOf_59 : decode cX12_lawOf 59 = .ok (.iaload, 1) := by decide +kernel
theorem dX12_lawOf_60 : decode cX12_lawOf 60 = .ok (.iconst 1, 1) := by decide +kernel
theorem dX12_lawOf_61 : decode cX12_lawOf 61 = .ok (.isub, 1) := by decide +kernel
theorem dX12_lawOf_62 : decode cX12_lawOf 62 = .ok (.laload, 1) := by decide +kernel
theorem dX12_lawOf_63 : decode cX12_lawOf 63 = .ok (.lreturn, 1) := by decide +kernel
theorem dX12_boundLaw_0 : decode cX12_boundLaw 0 = .ok (.aload_n 0, 1) := by decide +kernel
theorem dX12_boundLaw_1 : decode cX12_boundLaw 1 = .ok (.getfield 81, 3) := by decide +kernel
theorem dX12_boundLaw_4 : decode cX12_boundLaw 4 = .ok (.iload_n 1, 1) := by decide +kernel
theorem dX12_boundLaw_5 : decode cX12_boundLaw 5 = .ok (.baload, 1) := by decide +kernel
theorem dX12_boundLaw_6 : decode cX12_boundLaw 6 = .ok (.ifCond .ne 5, 3) := by decide +kernel
theorem dX12_boundLaw_9 : decode cX12_boundLaw 9 = .ok (.iload_n 2, 1) := by decide +kernel
theorem dX12_boundLaw_10 : decode cX12_boundLaw 10 = .ok (.ireturn, 1) := by decide +kernel
theorem dX12_boundLaw_11 : decode cX12_boundLaw 11 = .ok (.aload_n 0, 1) := by decide +kernel
theorem dX12_boundLaw_12 : decode cX12_boundLaw 12 = .ok (.iload_n 1, 1) := by decide +kernel
theorem dX12_boundLaw_13 : decode cX12_boundLaw 13 = .ok (.invokevirtual 430, 3) := by decide +kernel
theorem dX12_boundLaw_16 : decode cX12_boundLaw 16 = .ok (.lstore 5, 2) := by decide +kernel
theorem dX12_boundLaw_18 : decode cX12_boundLaw 18 = .ok (.aload_n 0, 1) := by decide +kernel
theorem dX12_boundLaw_19 : decode cX12_boundLaw 19 = .ok (.getfield 386, 3) := by decide +kernel
theorem dX12_boundLaw_22 : decode cX12_boundLaw 22 = .ok (.ifCond .eq 5, 3) := by decide +kernel
theorem dX12_boundLaw_25 : decode cX12_boundLaw 25 = .ok (.iload_n 2, 1) := by decide +kernel
theorem dX12_boundLaw_26 : decode cX12_boundLaw 26 = .ok (.ireturn, 1) := by decide +kernel
theorem dX12_boundLaw_27 : decode cX12_boundLaw 27 = .ok (.lload 5, 2) := by decide +kernel
theorem dX12_boundLaw_29 : decode cX12_boundLaw 29 = .ok (.iload_n 3, 1) := by decide +kernel
theorem dX12_boundLaw_30 : decode cX12_boundLaw 30 = .ok (.i2l, 1) := by decide +kernel
theorem dX12_boundLaw_31 : decode cX12_boundLaw 31 = .ok (.lcmp, 1) := by decide +kernel
theorem dX12_boundLaw_32 : decode cX12_boundLaw 32 = .ok (.ifCond .ge 5, 3) := by decide +kernel
theorem dX12_boundLaw_35 : decode cX12_boundLaw 35 = .ok (.iload_n 3, 1) := by decide +kernel
theorem dX12_boundLaw_36 : decode cX12_boundLaw 36 = .ok (.ireturn, 1) := by decide +kernel
theorem dX12_boundLaw_37 : decode cX12_boundLaw 37 = .ok (.lload 5, 2) := by decide +kernel
theorem dX12_boundLaw_39 : decode cX12_boundLaw 39 = .ok (.iload 4, 2) := by decide +kernel
theorem dX12_boundLaw_41 : decode cX12_boundLaw 41 = .ok (.i2l, 1) := by decide +kernel
theorem dX12_boundLaw_42 : decode cX12_boundLaw 42 = .ok (.lcmp, 1) := by decide +kernel
theorem dX12_boundLaw_43 : decode cX12_boundLaw 43 = .ok (.ifCond .le 8, 3) := by decide +kernel
theorem dX12_boundLaw_46 : decode cX12_boundLaw 46 = .ok (.iload 4, 2) := by decide +kernel
theorem dX12_boundLaw_48 : decode cX12_boundLaw 48 = .ok (.goto 6, 3) := by decide +kernel
theorem dX12_boundLaw_51 : decode cX12_boundLaw 51 = .ok (.lload 5, 2) := by decide +kernel
theorem dX12_boundLaw_53 : decode cX12_boundLaw 53 = .ok (.l2i, 1) := by decide +kernel
theorem dX12_boundLaw_54 : decode cX12_boundLaw 54 = .ok (.ireturn, 1) := by decide +kernel
theorem dX12_step_0 : decode cX12_step 0 = .ok (.aload_n 0, 1) := by decide +kernel
theorem dX12_step_1 : decode cX12_step 1 = .ok (.getfield 417, 3) := by decide +kernel
theorem dX12_step_4 : decode cX12_step 4 = .ok (.ifCond .ne 7, 3) := by decide +kernel
theorem dX12_step_7 : decode cX12_step 7 = .ok (.iconst 1, 1) := by decide +kernel
theorem dX12_step_8 : decode cX12_step 8 = .ok (.goto 4, 3) := by decide +kernel
theorem dX12_step_11 : decode cX12_step 11 = .ok (.iload_n 3, 1) := by decide +kernel
theorem dX12_step_12 : decode cX12_step 12 = .ok (.istore 4, 2) := by decide +kernel
theorem dX12_step_14 : decode cX12_step 14 = .ok (.aload_n 0, 1) := by decide +kernel
theorem dX12_step_15 : decode cX12_step 15 = .ok (.iload_n 1, 1) := by decide +kernel
theorem dX12_step_16 : decode cX12_step 16 = .ok (.iload 4, 2) := by decide +kernel
theorem dX12_step_18 : decode cX12_step 18 = .ok (.invokevirtual 433, 3) := by decide +kernel
theorem dX12_step_21 : decode cX12_step 21 = .ok (.aload_n 0, 1) := by decide +kernel
theorem dX12_step_22 : decode cX12_step 22 = .ok (.iconst 0, 1) := by decide +kernel
theorem dX12_step_23 : decode cX12_step 23 = .ok (.bipush 10, 2) := by decide +kernel
theorem dX12_step_25 : decode cX12_step 25 = .ok (.iload 4, 2) := by decide +kernel
theorem dX12_step_27 : decode cX12_step 27 = .ok (.isub, 1) := by decide +kernel
theorem dX12_step_28 : decode cX12_step 28 = .ok (.iconst 1, 1) := by decide +kernel
theorem dX12_step_29 : decode cX12_step 29 = .ok (.bipush 99, 2) := by decide +kernel
theorem dX12_step_31 : decode cX12_step 31 = .ok (.invokevirtual 437, 3) := by decide +kernel
theorem dX12_step_34 : decode cX12_step 34 = .ok (.istore 5, 2) := by decide +kernel
theorem dX12_step_36 : decode cX12_step 36 = .ok (.aload_n 0, 1) := by decide +kernel
theorem dX12_step_37 : decode cX12_step 37 = .ok (.iconst 1, 1) := by decide +kernel
theorem dX12_step_38 : decode cX12_step 38 = .ok (.iload 4, 2) := by decide +kernel
theorem dX12_step_40 : decode cX12_step 40 = .ok (.aload_n 0, 1) := by decide +kernel
theorem dX12_step_41 : decode cX12_step 41 = .ok (.iload_n 1, 1) := by decide +kernel
theorem dX12_step_42 : decode cX12_step 42 = .ok (.invokevirtual 408, 3) := by decide +kernel
theorem dX12_step_45 : decode cX12_step 45 = .ok (.iadd, 1) := by decide +kernel
theorem dX12_step_46 : decode cX12_step 46 = .ok (.iconst 4, 1) := by decide +kernel
theorem dX12_step_47 : decode cX12_step 47 = .ok (.isub, 1) := by decide +kernel
theorem dX12_step_48 : decode cX12_step 48 = .ok (.bipush (-20), 2) := by decide +kernel
theorem dX12_step_50 : decode cX12_step 50 = .ok (.bipush 20, 2) := by decide +kernel
theorem dX12_step_52 : decode cX12_step 52 = .ok (.invokevirtual 437, 3) := by decide +kernel
theorem dX12_step_55 : decode cX12_step 55 = .ok (.aload_n 0, 1) := by decide +kernel
theorem dX12_step_56 : decode cX12_step 56 = .ok (.getfield 51, 3) := by decide +kernel
theorem dX12_step_59 : decode cX12_step 59 = .ok (.iload_n 2, 1) := by decide +kernel
theorem dX12_step_60 : decode cX12_step 60 = .ok (.iaload, 1) := by decide +kernel
theorem dX12_step_61 : decode cX12_step 61 = .ok (.iadd, 1) := by decide +kernel
theorem dX12_step_62 : decode cX12_step 62 = .ok (.istore 6, 2) := by decide +kernel
theorem dX12_step_64 : decode cX12_step 64 = .ok (.aload_n 0, 1) := by decide +kernel
theorem dX12_step_65 : decode cX12_step 65 = .ok (.iconst 2, 1) := by decide +kernel
theorem dX12_step_66 : decode cX12_step 66 = .ok (.iconst 0, 1) := by decide +kernel
theorem dX12_step_67 : decode cX12_step 67 = .ok (.iconst 0, 1) := by decide +kernel
theorem dX12_step_68 : decode cX12_step 68 = .ok (.bipush 20, 2) := by decide +kernel
theorem dX12_step_70 : decode cX12_step 70 = .ok (.invokevirtual 437, 3) := by decide +kernel
theorem dX12_step_73 : decode cX12_step 73 = .ok (.istore 7, 2) := by decide +kernel
theorem dX12_step_75 : decode cX12_step 75 = .ok (.aload_n 0, 1) := by decide +kernel
theorem dX12_step_76 : decode cX12_step 76 = .ok (.dup, 1) := by decide +kernel
theorem dX12_step_77 : decode cX12_step 77 = .ok (.getfield 441, 3) := by decide +kernel
theorem dX12_step_80 : decode cX12_step 80 = .ok (.iload 5, 2) := by decide +kernel
theorem dX12_step_82 : decode cX12_step 82 = .ok (.iadd, 1) := by decide +kernel
theorem dX12_step_83 : decode cX12_step 83 = .ok (.putfield 441, 3) := by decide +kernel
theorem dX12_step_86 : decode cX12_step 86 = .ok (.aload_n 0, 1) := by decide +kernel
theorem dX12_step_87 : decode cX12_step 87 = .ok (.dup, 1) := by decide +kernel
theorem dX12_step_88 : decode cX12_step 88 = .ok (.getfield 417, 3) := by decide +kernel
theorem dX12_step_91 : decode cX12_step 91 = .ok (.iload 6, 2) := by decide +kernel
theorem dX12_step_93 : decode cX12_step 93 = .ok (.isub, 1) := by decide +kernel
theorem dX12_step_94 : decode cX12_step 94 = .ok (.putfield 417, 3) := by decide +kernel
theorem dX12_step_97 : decode cX12_step 97 = .ok (.aload_n 0, 1) := by decide +kernel
theorem dX12_step_98 : decode cX12_step 98 = .ok (.aload_n 0, 1) := by decide +kernel
theorem dX12_step_99 : decode cX12_step 99 = .ok (.getfield 417, 3) := by decide +kernel
theorem dX12_step_102 : decode cX12_step 102 = .ok (.ifCond .ge 7, 3) := by decide +kernel
theorem dX12_step_105 : decode cX12_step 105 = .ok (.iconst 0, 1) := by decide +kernel
theorem dX12_step_106 : decode cX12_step 106 = .ok (.goto 25, 3) := by decide +kernel
theorem dX12_step_109 : decode cX12_step 109 = .ok (.aload_n 0, 1) := by decide +kernel
theorem dX12_step_110 : decode cX12_step 110 = .ok (.getfield 417, 3) := by decide +kernel
theorem dX12_step_113 : decode cX12_step 113 = .ok (.aload_n 0, 1) := by decide +kernel
theorem dX12_step_114 : decode cX12_step 114 = .ok (.getfield 444, 3) := by decide +kernel
theorem dX12_step_117 : decode cX12_step 117 = .ok (.if_icmp .le 10, 3) := by decide +kernel
theorem dX12_step_120 : decode cX12_step 120 = .ok (.aload_n 0, 1) := by decide +kernel
theorem dX12_step_121 : decode cX12_step 121 = .ok (.getfield 444, 3) := by decide +kernel
theorem dX12_step_124 : decode cX12_step 124 = .ok (.goto 7, 3) := by decide +kernel
theorem dX12_step_127 : decode cX12_step 127 = .ok (.aload_n 0, 1) := by decide +kernel
theorem dX12_step_128 : decode cX12_step 128 = .ok (.getfield 417, 3) := by decide +kernel
theorem dX12_step_131 : decode cX12_step 131 = .ok (.putfield 417, 3) := by decide +kernel
theorem dX12_step_134 : decode cX12_step 134 = .ok (.aload_n 0, 1) := by decide +kernel
theorem dX12_step_135 : decode cX12_step 135 = .ok (.aload_n 0, 1) := by decide +kernel
theorem dX12_step_136 : decode cX12_step 136 = .ok (.getfield 420, 3) := by decide +kernel
theorem dX12_step_139 : decode cX12_step 139 = .ok (.iload 7, 2) := by decide +kernel
theorem dX12_step_141 : decode cX12_step 141 = .ok (.if_icmp .ge 7, 3) := by decide +kernel
theorem dX12_step_144 : decode cX12_step 144 = .ok (.iconst 0, 1) := by decide +kernel
theorem dX12_step_145 : decode cX12_step 145 = .ok (.goto 10, 3) := by decide +kernel
theorem dX12_step_148 : decode cX12_step 148 = .ok (.aload_n 0, 1) := by decide +kernel
theorem dX12_step_149 : decode cX12_step 149 = .ok (.getfield 420, 3) := by decide +kernel
theorem dX12_step_152 : decode cX12_step 152 = .ok (.iload 7, 2) := by decide +kernel
theorem dX12_step_154 : decode cX12_step 154 = .ok (.isub, 1) := by decide +kernel
theorem dX12_step_155 : decode cX12_step 155 = .ok (.putfield 420, 3) := by decide +kernel
theorem dX12_step_158 : decode cX12_step 158 = .ok (.aload_n 0, 1) := by decide +kernel
theorem dX12_step_159 : decode cX12_step 159 = .ok (.dup, 1) := by decide +kernel
theorem dX12_step_160 : decode cX12_step 160 = .ok (.getfield 447, 3) := by decide +kernel
theorem dX12_step_163 : decode cX12_step 163 = .ok (.iconst 1, 1) := by decide +kernel
theorem dX12_step_164 : decode cX12_step 164 = .ok (.iadd, 1) := by decide +kernel
theorem dX12_step_165 : decode cX12_step 165 = .ok (.putfield 447, 3) := by decide +kernel
theorem dX12_step_168 : decode cX12_step 168 = .ok (.return_, 1) := by decide +kernel
theorem dX12_begins_0 : decode cX12_begins 0 = .ok (.aload_n 0, 1) := by decide +kernel
theorem dX12_begins_1 : decode cX12_begins 1 = .ok (.aload_n 0, 1) := by decide +kernel
theorem dX12_begins_2 : decode cX12_begins 2 = .ok (.getfield 45, 3) := by decide +kernel
theorem dX12_begins_5 : decode cX12_begins 5 = .ok (.iload_n 1, 1) := by decide +kernel
theorem dX12_begins_6 : decode cX12_begins 6 = .ok (.iaload, 1) := by decide +kernel
theorem dX12_begins_7 : decode cX12_begins 7 = .ok (.putfield 414, 3) := by decide +kernel
theorem dX12_begins_10 : decode cX12_begins 10 = .ok (.aload_n 0, 1) := by decide +kernel
theorem dX12_begins_11 : decode cX12_begins 11 = .ok (.aload_n 0, 1) := by decide +kernel
theorem dX12_begins_12 : decode cX12_begins 12 = .ok (.getfield 282, 3) := by decide +kernel
theorem dX12_begins_15 : decode cX12_begins 15 = .ok (.putfield 411, 3) := by decide +kernel
theorem dX12_begins_18 : decode cX12_begins 18 = .ok (.aload_n 0, 1) := by decide +kernel
theorem dX12_begins_19 : decode cX12_begins 19 = .ok (.iconst 0, 1) := by decide +kernel
theorem dX12_begins_20 : decode cX12_begins 20 = .ok (.putfield 405, 3) := by decide +kernel
theorem dX12_begins_23 : decode cX12_begins 23 = .ok (.aload_n 0, 1) := by decide +kernel
theorem dX12_begins_24 : decode cX12_begins 24 = .ok (.aload_n 0, 1) := by decide +kernel
theorem dX12_begins_25 : decode cX12_begins 25 = .ok (.getfield 39, 3) := by decide +kernel
theorem dX12_begins_28 : decode cX12_begins 28 = .ok (.iload_n 1, 1) := by decide +kernel
theorem dX12_begins_29 : decode cX12_begins 29 = .ok (.iaload, 1) := by decide +kernel
theorem dX12_begins_30 : decode cX12_begins 30 = .ok (.putfield 444, 3) := by decide +kernel
theorem dX12_begins_33 : decode cX12_begins 33 = .ok (.aload_n 0, 1) := by decide +kernel
theorem dX12_begins_34 : decode cX12_begins 34 = .ok (.aload_n 0, 1) := by decide +kernel
theorem dX12_begins_35 : decode cX12_begins 35 = .ok (.getfield 39, 3) := by decide +kernel
theorem dX12_begins_38 : decode cX12_begins 38 = .ok (.iload_n 1, 1) := by decide +kernel
theorem dX12_begins_39 : decode cX12_begins 39 = .ok (.iaload, 1) := by decide +kernel
theorem dX12_begins_40 : decode cX12_begins 40 = .ok (.putfield 417, 3) := by decide +kernel
theorem dX12_begins_43 : decode cX12_begins 43 = .ok (.aload_n 0, 1) := by decide +kernel
theorem dX12_begins_44 : decode cX12_begins 44 = .ok (.aload_n 0, 1) := by decide +kernel
theorem dX12_begins_45 : decode cX12_begins 45 = .ok (.getfield 42, 3) := by decide +kernel
theorem dX12_begins_48 : decode cX12_begins 48 = .ok (.iload_n 1, 1) := by decide +kernel
theorem dX12_begins_49 : decode cX12_begins 49 = .ok (.iaload, 1) := by decide +kernel
theorem dX12_begins_50 : decode cX12_begins 50 = .ok (.putfield 420, 3) := by decide +kernel
theorem dX12_begins_53 : decode cX12_begins 53 = .ok (.aload_n 0, 1) := by decide +kernel
theorem dX12_begins_54 : decode cX12_begins 54 = .ok (.iconst 0, 1) := by decide +kernel
theorem dX12_begins_55 : decode cX12_begins 55 = .ok (.putfield 441, 3) := by decide +kernel
theorem dX12_begins_58 : decode cX12_begins 58 = .ok (.aload_n 0, 1) := by decide +kernel
theorem dX12_begins_59 : decode cX12_begins 59 = .ok (.iconst 0, 1) := by decide +kernel
theorem dX12_begins_60 : decode cX12_begins 60 = .ok (.putfield 447, 3) := by decide +kernel
theorem dX12_begins_63 : decode cX12_begins 63 = .ok (.return_, 1) := by decide +kernel
theorem dX12_isLane_0 : decode cX12_isLane 0 = .ok (.iload_n 1, 1) := by decide +kernel
theorem dX12_isLane_1 : decode cX12_isLane 1 = .ok (.ifCond .lt 15, 3) := by decide +kernel
theorem dX12_isLane_4 : decode cX12_isLane 4 = .ok (.iload_n 1, 1) := by decide +kernel
theorem dX12_isLane_5 : decode cX12_isLane 5 = .ok (.aload_n 0, 1) := by decide +kernel
theorem dX12_isLane_6 : decode cX12_isLane 6 = .ok (.getfield 250, 3) := by decide +kernel
theorem dX12_isLane_9 : decode cX12_isLane 9 = .ok (.if_icmp .ge 7, 3) := by decide +kernel
theorem dX12_isLane_12 : decode cX12_isLane 12 = .ok (.iconst 1, 1) := by decide +kernel
theorem dX12_isLane_13 : decode cX12_isLane 13 = .ok (.goto 4, 3) := by decide +kernel
theorem dX12_isLane_16 : decode cX12_isLane 16 = .ok (.iconst 0, 1) := by decide +kernel
theorem dX12_isLane_17 : decode cX12_isLane 17 = .ok (.ireturn, 1) := by decide +kernel
theorem dX12_isMan_0 : decode cX12_isMan 0 = .ok (.iload_n 1, 1) := by decide +kernel
theorem dX12_isMan_1 : decode cX12_isMan 1 = .ok (.ifCond .lt 15, 3) := by decide +kernel
theorem dX12_isMan_4 : decode cX12_isMan 4 = .ok (.iload_n 1, 1) := by decide +kernel
theorem dX12_isMan_5 : decode cX12_isMan 5 = .ok (.aload_n 0, 1) := by decide +kernel
theorem dX12_isMan_6 : decode cX12_isMan 6 = .ok (.getfield 253, 3) := by decide +kernel
theorem dX12_isMan_9 : decode cX12_isMan 9 = .ok (.if_icmp .ge 7, 3) := by decide +kernel
theorem dX12_isMan_12 : decode cX12_isMan 12 = .ok (.iconst 1, 1) := by decide +kernel
theorem dX12_isMan_13 : decode cX12_isMan 13 = .ok (.goto 4, 3) := by decide +kernel
theorem dX12_isMan_16 : decode cX12_isMan 16 = .ok (.iconst 0, 1) := by decide +kernel
theorem dX12_isMan_17 : decode cX12_isMan 17 = .ok (.ireturn, 1) := by decide +kernel
theorem dX12_isHold_0 : decode cX12_isHold 0 = .ok (.iload_n 1, 1) := by decide +kernel
theorem dX12_isHold_1 : decode cX12_isHold 1 = .ok (.ifCond .lt 15, 3) := by decide +kernel
theorem dX12_isHold_4 : decode cX12_isHold 4 = .ok (.iload_n 1, 1) := by decide +kernel
theorem dX12_isHold_5 : decode cX12_isHold 5 = .ok (.aload_n 0, 1) := by decide +kernel
theorem dX12_isHold_6 : decode cX12_isHold 6 = .ok (.getfield 256, 3) := by decide +kernel
theorem dX12_isHold_9 : decode cX12_isHold 9 = .ok (.if_icmp .ge 7, 3) := by decide +kernel
theorem dX12_isHold_12 : decode cX12_isHold 12 = .ok (.iconst 1, 1) := by decide +kernel
theorem dX12_isHold_13 : decode cX12_isHold 13 = .ok (.goto 4, 3) := by decide +kernel
theorem dX12_isHold_16 : decode cX12_isHold 16 = .ok (.iconst 0, 1) := by decide +kernel
theorem dX12_isHold_17 : decode cX12_isHold 17 = .ok (.ireturn, 1) := by decide +kernel
theorem dX12_isPlan_0 : decode cX12_isPlan 0 = .ok (.iload_n 1, 1) := by decide +kernel
theorem dX12_isPlan_1 : decode cX12_isPlan 1 = .ok (.ifCond .lt 15, 3) := by decide +kernel
theorem dX12_isPlan_4 : decode cX12_isPlan 4 = .ok (.iload_n 1, 1) := by decide +kernel
theorem dX12_isPlan_5 : decode cX12_isPlan 5 = .ok (.aload_n 0, 1) := by decide +kernel
theorem dX12_isPlan_6 : decode cX12_isPlan 6 = .ok (.getfield 259, 3) := by decide +kernel
theorem dX12_isPlan_9 : decode cX12_isPlan 9 = .ok (.if_icmp .ge 7, 3) := by decide +kernel
theorem dX12_isPlan_12 : decode cX12_isPlan 12 = .ok (.iconst 1, 1) := by decide +kernel
theorem dX12_isPlan_13 : decode cX12_isPlan 13 = .ok (.goto 4, 3) := by decide +kernel
theorem dX12_isPlan_16 : decode cX12_isPlan 16 = .ok (.iconst 0, 1) := by decide +kernel
theorem dX12_isPlan_17 : decode cX12_isPlan 17 = .ok (.ireturn, 1) := by decide +kernel
theorem dX12_fails_0 : decode cX12_fails 0 = .ok (.aload_n 0, 1) := by decide +kernel
theorem dX12_fails_1 : decode cX12_fails 1 = .ok (.iload_n 1, 1) := by decide +kernel
theorem dX12_fails_2 : decode cX12_fails 2 = .ok (.putfield 154, 3) := by decide +kernel
theorem dX12_fails_5 : decode cX12_fails 5 = .ok (.iconst 0, 1) := by decide +kernel
theorem dX12_fails_6 : decode cX12_fails 6 = .ok (.ireturn, 1) := by decide +kernel
theorem dX12_look_0 : decode cX12_look 0 = .ok (.aload_n 0, 1) := by decide +kernel
theorem dX12_look_1 : decode cX12_look 1 = .ok (.iconst 0, 1) := by decide +kernel
theorem dX12_look_2 : decode cX12_look 2 = .ok (.putfield 154, 3) := by decide +kernel
theorem dX12_look_5 : decode cX12_look 5 = .ok (.aload_n 0, 1) := by decide +kernel
theorem dX12_look_6 : decode cX12_look 6 = .ok (.iload_n 1, 1) := by decide +kernel
theorem dX12_look_7 : decode cX12_look 7 = .ok (.invokevirtual 450, 3) := by decide +kernel
theorem dX12_look_10 : decode cX12_look 10 = .ok (.ifCond .ne 9, 3) := by decide +kernel
theorem dX12_look_13 : decode cX12_look 13 = .ok (.aload_n 0, 1) := by decide +kernel
theorem dX12_look_14 : decode cX12_look 14 = .ok (.iconst 1, 1) := by decide +kernel
theorem dX12_look_15 : decode cX12_look 15 = .ok (.invokevirtual 453, 3) := by decide +kernel
theorem dX12_look_18 : decode cX12_look 18 = .ok (.ireturn, 1) := by decide +kernel
theorem dX12_look_19 : decode cX12_look 19 = .ok (.iload_n 2, 1) := by decide +kernel
theorem dX12_look_20 : decode cX12_look 20 = .ok (.tableswitch 75 0 3 #[32, 39, 46, 61], 32) := by decide +kernel
theorem dX12_look_52 : decode cX12_look 52 = .ok (.aload_n 0, 1) := by decide +kernel
theorem dX12_look_53 : decode cX12_look 53 = .ok (.getfield 23, 3) := by decide +kernel
theorem dX12_look_56 : decode cX12_look 56 = .ok (.iload_n 1, 1) := by decide +kernel
theorem dX12_look_57 : decode cX12_look 57 = .ok (.iaload, 1) := by decide +kernel
theorem dX12_look_58 : decode cX12_look 58 = .ok (.ireturn, 1) := by decide +kernel
theorem dX12_look_59 : decode cX12_look 59 = .ok (.aload_n 0, 1) := by decide +kernel
theorem dX12_look_60 : decode cX12_look 60 = .ok (.getfield 26, 3) := by decide +kernel
theorem dX12_look_63 : decode cX12_look 63 = .ok (.iload_n 1, 1) := by decide +kernel
theorem dX12_look_64 : decode cX12_look 64 = .ok (.iaload, 1) := by decide +kernel
theorem dX12_look_65 : decode cX12_look 65 = .ok (.ireturn, 1) := by decide +kernel
theorem dX12_look_66 : decode cX12_look 66 = .ok (.aload_n 0, 1) := by decide +kernel
theorem dX12_look_67 : decode cX12_look 67 = .ok (.getfield 29, 3) := by decide +kernel
theorem dX12_look_70 : decode cX12_look 70 = .ok (.iload_n 1, 1) := by decide +kernel
theorem dX12_look_71 : decode cX12_look 71 = .ok (.baload, 1) := by decide +kernel
theorem dX12_look_72 : decode cX12_look 72 = .ok (.ifCond .eq 7, 3) := by decide +kernel
theorem dX12_look_75 : decode cX12_look 75 = .ok (.iconst 1, 1) := by decide +kernel
theorem dX12_look_76 : decode cX12_look 76 = .ok (.goto 4, 3) := by decide +kernel
theorem dX12_look_79 : decode cX12_look 79 = .ok (.iconst 0, 1) := by decide +kernel
theorem dX12_look_80 : decode cX12_look 80 = .ok (.ireturn, 1) := by decide +kernel
theorem dX12_look_81 : decode cX12_look 81 = .ok (.aload_n 0, 1) := by decide +kernel
theorem dX12_look_82 : decode cX12_look 82 = .ok (.iload_n 1, 1) := by decide +kernel
theorem dX12_look_83 : decode cX12_look 83 = .ok (.invokevirtual 423, 3) := by decide +kernel
theorem dX12_look_86 : decode cX12_look 86 = .ok (.ifCond .eq 7, 3) := by decide +kernel
theorem dX12_look_89 : decode cX12_look 89 = .ok (.iconst 1, 1) := by decide +kernel
theorem dX12_look_90 : decode cX12_look 90 = .ok (.goto 4, 3) := by decide +kernel
theorem dX12_look_93 : decode cX12_look 93 = .ok (.iconst 0, 1) := by decide +kernel
theorem dX12_look_94 : decode cX12_look 94 = .ok (.ireturn, 1) := by decide +kernel
theorem dX12_look_95 : decode cX12_look 95 = .ok (.aload_n 0, 1) := by decide +kernel
theorem dX12_look_96 : decode cX12_look 96 = .ok (.iconst 2, 1) := by decide +kernel
theorem dX12_look_97 : decode cX12_look 97 = .ok (.invokevirtual 453, 3) := by decide +kernel
theorem dX12_look_100 : decode cX12_look 100 = .ok (.ireturn, 1) := by decide +kernel
theorem dX12_paceOf_0 : decode cX12_paceOf 0 = .ok (.aload_n 0, 1) := by decide +kernel
theorem dX12_paceOf_1 : decode cX12_paceOf 1 = .ok (.getfield 69, 3) := by decide +kernel
theorem dX12_paceOf_4 : decode cX12_paceOf 4 = .ok (.bipush 6, 2) := by decide +kernel
theorem dX12_paceOf_6 : decode cX12_paceOf 6 = .ok (.iload_n 1, 1) := by decide +kernel
theorem dX12_paceOf_7 : decode cX12_paceOf 7 = .ok (.imul, 1) := by decide +kernel
theorem dX12_paceOf_8 : decode cX12_paceOf 8 = .ok (.iload_n 2, 1) := by decide +kernel
theorem dX12_paceOf_9 : decode cX12_paceOf 9 = .ok (.aload_n 0, 1) := by decide +kernel
theorem dX12_paceOf_10 : decode cX12_paceOf 10 = .ok (.getfield 66, 3) := by decide +kernel
theorem dX12_paceOf_13 : decode cX12_paceOf 13 = .ok (.iload_n 1, 1) := by decide +kernel
theorem dX12_paceOf_14 : decode cX12_paceOf 14 = .ok (.iaload, 1) := by decide +kernel
theorem dX12_paceOf_15 : decode cX12_paceOf 15 = .ok (.if_icmp .ge 7, 3) := by decide +kernel
theorem dX12_paceOf_18 : decode cX12_paceOf 18 = .ok (.iload_n 2, 1) := by decide +kernel
theorem dX12_paceOf_19 : decode cX12_paceOf 19 = .ok (.goto 11, 3) := by decide +kernel
theorem dX12_paceOf_22 : decode cX12_paceOf 22 = .ok (.aload_n 0, 1) := by decide +kernel
theorem dX12_paceOf_23 : decode cX12_paceOf 23 = .ok (.getfield 66, 3) := by decide +kernel
theorem dX12_paceOf_26 : decode cX12_paceOf 26 = .ok (.iload_n 1, 1) := by decide +kernel
theorem dX12_paceOf_27 : decode cX12_paceOf 27 = .ok (.iaload, 1) := by decide +kernel
theorem dX12_paceOf_28 : decode cX12_paceOf 28 = .ok (.iconst 1, 1) := by decide +kernel
theorem dX12_paceOf_29 : decode cX12_paceOf 29 = .ok (.isub, 1) := by decide +kernel
theorem dX12_paceOf_30 : decode cX12_paceOf 30 = .ok (.iadd, 1) := by decide +kernel
theorem dX12_paceOf_31 : decode cX12_paceOf 31 = .ok (.iaload, 1) := by decide +kernel
theorem dX12_paceOf_32 : decode cX12_paceOf 32 = .ok (.ireturn, 1) := by decide +kernel
theorem dX12_pace_0 : decode cX12_pace 0 = .ok (.aload_n 0, 1) := by decide +kernel
theorem dX12_pace_1 : decode cX12_pace 1 = .ok (.iconst 0, 1) := by decide +kernel
theorem dX12_pace_2 : decode cX12_pace 2 = .ok (.putfield 154, 3) := by decide +kernel
theorem dX12_pace_5 : decode cX12_pace 5 = .ok (.aload_n 0, 1) := by decide +kernel
theorem dX12_pace_6 : decode cX12_pace 6 = .ok (.iload_n 1, 1) := by decide +kernel
theorem dX12_pace_7 : decode cX12_pace 7 = .ok (.invokevirtual 456, 3) := by decide +kernel
theorem dX12_pace_10 : decode cX12_pace 10 = .ok (.ifCond .ne 7, 3) := by decide +kernel
theorem dX12_pace_13 : decode cX12_pace 13 = .ok (.iconst (-1), 1) := by decide +kernel
theorem dX12_pace_14 : decode cX12_pace 14 = .ok (.goto 35, 3) := by decide +kernel
theorem dX12_pace_17 : decode cX12_pace 17 = .ok (.iload_n 2, 1) := by decide +kernel
theorem dX12_pace_18 : decode cX12_pace 18 = .ok (.iconst (-1), 1) := by decide +kernel
theorem dX12_pace_19 : decode cX12_pace 19 = .ok (.if_icmp .ne 12, 3) := by decide +kernel
theorem dX12_pace_22 : decode cX12_pace 22 = .ok (.aload_n 0, 1) := by decide +kernel
theorem dX12_pace_23 : decode cX12_pace 23 = .ok (.getfield 63, 3) := by decide +kernel
theorem dX12_pace_26 : decode cX12_pace 26 = .ok (.iload_n 1, 1) := by decide +kernel
theorem dX12_pace_27 : decode cX12_pace 27 = .ok (.iaload, 1) := by decide +kernel
theorem dX12_pace_28 : decode cX12_pace 28 = .ok (.goto 21, 3) := by decide +kernel
theorem dX12_pace_31 : decode cX12_pace 31 = .ok (.aload_n 0, 1) := by decide +kernel
theorem dX12_pace_32 : decode cX12_pace 32 = .ok (.iload_n 2, 1) := by decide +kernel
theorem dX12_pace_33 : decode cX12_pace 33 = .ok (.invokevirtual 450, 3) := by decide +kernel
theorem dX12_pace_36 : decode cX12_pace 36 = .ok (.ifCond .eq 12, 3) := by decide +kernel
theorem dX12_pace_39 : decode cX12_pace 39 = .ok (.aload_n 0, 1) := by decide +kernel
theorem dX12_pace_40 : decode cX12_pace 40 = .ok (.iload_n 1, 1) := by decide +kernel
theorem dX12_pace_41 : decode cX12_pace 41 = .ok (.iload_n 2, 1) := by decide +kernel
theorem dX12_pace_42 : decode cX12_pace 42 = .ok (.invokevirtual 459, 3) := by decide +kernel
theorem dX12_pace_45 : decode cX12_pace 45 = .ok (.goto 4, 3) := by decide +kernel
theorem dX12_pace_48 : decode cX12_pace 48 = .ok (.iconst (-1), 1) := by decide +kernel
theorem dX12_pace_49 : decode cX12_pace 49 = .ok (.ireturn, 1) := by decide +kernel
theorem dX12_law_0 : decode cX12_law 0 = .ok (.aload_n 0, 1) := by decide +kernel
theorem dX12_law_1 : decode cX12_law 1 = .ok (.iconst 0, 1) := by decide +kernel
theorem dX12_law_2 : decode cX12_law 2 = .ok (.putfield 154, 3) := by decide +kernel
theorem dX12_law_5 : decode cX12_law 5 = .ok (.iload_n 1, 1) := by decide +kernel
theorem dX12_law_6 : decode cX12_law 6 = .ok (.iconst 0, 1) := by decide +kernel
theorem dX12_law_7 : decode cX12_law 7 = .ok (.iconst 2, 1) := by decide +kernel
theorem dX12_law_8 : decode cX12_law 8 = .ok (.invokestatic 199, 3) := by decide +kernel
theorem dX12_law_11 : decode cX12_law 11 = .ok (.ifCond .eq 39, 3) := by decide +kernel
theorem dX12_law_14 : decode cX12_law 14 = .ok (.aload_n 0, 1) := by decide +kernel
theorem dX12_law_15 : decode cX12_law 15 = .ok (.getfield 81, 3) := by decide +kernel
theorem dX12_law_18 : decode cX12_law 18 = .ok (.iload_n 1, 1) := by decide +kernel
theorem dX12_law_19 : decode cX12_law 19 = .ok (.baload, 1) := by decide +kernel
theorem dX12_law_20 : decode cX12_law 20 = .ok (.ifCond .eq 30, 3) := by decide +kernel
theorem dX12_law_23 : decode cX12_law 23 = .ok (.aload_n 0, 1) := by decide +kernel
theorem dX12_law_24 : decode cX12_law 24 = .ok (.iload_n 2, 1) := by decide +kernel
theorem dX12_law_25 : decode cX12_law 25 = .ok (.invokevirtual 462, 3) := by decide +kernel
theorem dX12_law_28 : decode cX12_law 28 = .ok (.ifCond .eq 22, 3) := by decide +kernel
theorem dX12_law_31 : decode cX12_law 31 = .ok (.aload_n 0, 1) := by decide +kernel
theorem dX12_law_32 : decode cX12_law 32 = .ok (.iload_n 3, 1) := by decide +kernel
theorem dX12_law_33 : decode cX12_law 33 = .ok (.invokevirtual 450, 3) := by decide +kernel
theorem dX12_law_36 : decode cX12_law 36 = .ok (.ifCond .eq 14, 3) := by decide +kernel
theorem dX12_law_39 : decode cX12_law 39 = .ok (.iload 4, 2) := by decide +kernel
theorem dX12_law_41 : decode cX12_law 41 = .ok (.iconst 1, 1) := by decide +kernel
theorem dX12_law_42 : decode cX12_law 42 = .ok (.bipush 9, 2) := by decide +kernel
theorem dX12_law_44 : decode cX12_law 44 = .ok (.invokestatic 199, 3) := by decide +kernel
theorem dX12_law_47 : decode cX12_law 47 = .ok (.ifCond .ne 7, 3) := by decide +kernel
theorem dX12_law_50 : decode cX12_law 50 = .ok (.ldc2_w 465, 3) := by decide +kernel
theorem dX12_law_53 : decode cX12_law 53 = .ok (.lreturn, 1) := by decide +kernel
theorem dX12_law_54 : decode cX12_law 54 = .ok (.aload_n 0, 1) := by decide +kernel
theorem dX12_law_55 : decode cX12_law 55 = .ok (.iload_n 2, 1) := by decide +kernel
theorem dX12_law_56 : decode cX12_law 56 = .ok (.invokevirtual 467, 3) := by decide +kernel
theorem dX12_law_59 : decode cX12_law 59 = .ok (.aload_n 0, 1) := by decide +kernel
theorem dX12_law_60 : decode cX12_law 60 = .ok (.iload_n 3, 1) := by decide +kernel
theorem dX12_law_61 : decode cX12_law 61 = .ok (.iload 4, 2) := by decide +kernel
theorem dX12_law_63 : decode cX12_law 63 = .ok (.invokevirtual 433, 3) := by decide +kernel
theorem dX12_law_66 : decode cX12_law 66 = .ok (.aload_n 0, 1) := by decide +kernel
theorem dX12_law_67 : decode cX12_law 67 = .ok (.iload_n 1, 1) := by decide +kernel
theorem dX12_law_68 : decode cX12_law 68 = .ok (.invokevirtual 430, 3) := by decide +kernel
theorem dX12_law_71 : decode cX12_law 71 = .ok (.lstore 5, 2) := by decide +kernel
theorem dX12_law_73 : decode cX12_law 73 = .ok (.aload_n 0, 1) := by decide +kernel
theorem dX12_law_74 : decode cX12_law 74 = .ok (.getfield 386, 3) := by decide +kernel
theorem dX12_law_77 : decode cX12_law 77 = .ok (.ifCond .eq 9, 3) := by decide +kernel
theorem dX12_law_80 : decode cX12_law 80 = .ok (.ldc2_w 465, 3) := by decide +kernel
theorem dX12_law_83 : decode cX12_law 83 = .ok (.goto 5, 3) := by decide +kernel
theorem dX12_law_86 : decode cX12_law 86 = .ok (.lload 5, 2) := by decide +kernel
theorem dX12_law_88 : decode cX12_law 88 = .ok (.lreturn, 1) := by decide +kernel
theorem dX12_runs_0 : decode cX12_runs 0 = .ok (.iconst 0, 1) := by decide +kernel
theorem dX12_runs_1 : decode cX12_runs 1 = .ok (.istore_n 3, 1) := by decide +kernel
theorem dX12_runs_2 : decode cX12_runs 2 = .ok (.iload_n 3, 1) := by decide +kernel
theorem dX12_runs_3 : decode cX12_runs 3 = .ok (.iload_n 2, 1) := by decide +kernel
theorem dX12_runs_4 : decode cX12_runs 4 = .ok (.if_icmp .gt 55, 3) := by decide +kernel
theorem dX12_runs_7 : decode cX12_runs 7 = .ok (.iconst 0, 1) := by decide +kernel
theorem dX12_runs_8 : decode cX12_runs 8 = .ok (.istore 4, 2) := by decide +kernel
theorem dX12_runs_10 : decode cX12_runs 10 = .ok (.iload 4, 2) := by decide +kernel
theorem dX12_runs_12 : decode cX12_runs 12 = .ok (.aload_n 0, 1) := by decide +kernel
theorem dX12_runs_13 : decode cX12_runs 13 = .ok (.getfield 23, 3) := by decide +kernel
theorem dX12_runs_16 : decode cX12_runs 16 = .ok (.iload_n 3, 1) := by decide +kernel
theorem dX12_runs_17 : decode cX12_runs 17 = .ok (.iaload, 1) := by decide +kernel
theorem dX12_runs_18 : decode cX12_runs 18 = .ok (.if_icmp .ge 35, 3) := by decide +kernel
theorem dX12_runs_21 : decode cX12_runs 21 = .ok (.aload_n 0, 1) := by decide +kernel
theorem dX12_runs_22 : decode cX12_runs 22 = .ok (.iload_n 3, 1) := by decide +kernel
theorem dX12_runs_23 : decode cX12_runs 23 = .ok (.aload_n 0, 1) := by decide +kernel
theorem dX12_runs_24 : decode cX12_runs 24 = .ok (.getfield 63, 3) := by decide +kernel
theorem dX12_runs_27 : decode cX12_runs 27 = .ok (.iload_n 1, 1) := by decide +kernel
theorem dX12_runs_28 : decode cX12_runs 28 = .ok (.iaload, 1) := by decide +kernel
theorem dX12_runs_29 : decode cX12_runs 29 = .ok (.aload_n 0, 1) := by decide +kernel
theorem dX12_runs_30 : decode cX12_runs 30 = .ok (.iload_n 1, 1) := by decide +kernel
theorem dX12_runs_31 : decode cX12_runs 31 = .ok (.iload_n 3, 1) := by decide +kernel
theorem dX12_runs_32 : decode cX12_runs 32 = .ok (.invokevirtual 459, 3) := by decide +kernel
theorem dX12_runs_35 : decode cX12_runs 35 = .ok (.invokevirtual 470, 3) := by decide +kernel
theorem dX12_runs_38 : decode cX12_runs 38 = .ok (.aload_n 0, 1) := by decide +kernel
theorem dX12_runs_39 : decode cX12_runs 39 = .ok (.getfield 420, 3) := by decide +kernel
theorem dX12_runs_42 : decode cX12_runs 42 = .ok (.ifCond .ne 5, 3) := by decide +kernel
theorem dX12_runs_45 : decode cX12_runs 45 = .ok (.iconst 0, 1) := by decide +kernel
theorem dX12_runs_46 : decode cX12_runs 46 = .ok (.ireturn, 1) := by decide +kernel
theorem dX12_runs_47 : decode cX12_runs 47 = .ok (.iinc 4 1, 3) := by decide +kernel
theorem dX12_runs_50 : decode cX12_runs 50 = .ok (.goto (-40), 3) := by decide +kernel
theorem dX12_runs_53 : decode cX12_runs 53 = .ok (.iinc 3 1, 3) := by decide +kernel
theorem dX12_runs_56 : decode cX12_runs 56 = .ok (.goto (-54), 3) := by decide +kernel
theorem dX12_runs_59 : decode cX12_runs 59 = .ok (.iconst 1, 1) := by decide +kernel
theorem dX12_runs_60 : decode cX12_runs 60 = .ok (.ireturn, 1) := by decide +kernel
theorem dX12_run_0 : decode cX12_run 0 = .ok (.aload_n 0, 1) := by decide +kernel
theorem dX12_run_1 : decode cX12_run 1 = .ok (.iconst 0, 1) := by decide +kernel
theorem dX12_run_2 : decode cX12_run 2 = .ok (.putfield 154, 3) := by decide +kernel
theorem dX12_run_5 : decode cX12_run 5 = .ok (.aload_n 0, 1) := by decide +kernel
theorem dX12_run_6 : decode cX12_run 6 = .ok (.iload_n 1, 1) := by decide +kernel
theorem dX12_run_7 : decode cX12_run 7 = .ok (.invokevirtual 462, 3) := by decide +kernel
theorem dX12_run_10 : decode cX12_run 10 = .ok (.ifCond .eq 20, 3) := by decide +kernel
theorem dX12_run_13 : decode cX12_run 13 = .ok (.aload_n 0, 1) := by decide +kernel
theorem dX12_run_14 : decode cX12_run 14 = .ok (.iload_n 2, 1) := by decide +kernel
theorem dX12_run_15 : decode cX12_run 15 = .ok (.invokevirtual 456, 3) := by decide +kernel
theorem dX12_run_18 : decode cX12_run 18 = .ok (.ifCond .eq 12, 3) := by decide +kernel
theorem dX12_run_21 : decode cX12_run 21 = .ok (.iload_n 3, 1) := by decide +kernel
theorem dX12_run_22 : decode cX12_run 22 = .ok (.iconst 0, 1) := by decide +kernel
theorem dX12_run_23 : decode cX12_run 23 = .ok (.iconst 3, 1) := by decide +kernel
theorem dX12_run_24 : decode cX12_run 24 = .ok (.invokestatic 199, 3) := by decide +kernel
theorem dX12_run_27 : decode cX12_run 27 = .ok (.ifCond .ne 5, 3) := by decide +kernel
theorem dX12_run_30 : decode cX12_run 30 = .ok (.iconst (-1), 1) := by decide +kernel
theorem dX12_run_31 : decode cX12_run 31 = .ok (.ireturn, 1) := by decide +kernel
theorem dX12_run_32 : decode cX12_run 32 = .ok (.aload_n 0, 1) := by decide +kernel
theorem dX12_run_33 : decode cX12_run 33 = .ok (.iload_n 1, 1) := by decide +kernel
theorem dX12_run_34 : decode cX12_run 34 = .ok (.invokevirtual 467, 3) := by decide +kernel
theorem dX12_run_37 : decode cX12_run 37 = .ok (.aload_n 0, 1) := by decide +kernel
theorem dX12_run_38 : decode cX12_run 38 = .ok (.iload_n 2, 1) := by decide +kernel
theorem dX12_run_39 : decode cX12_run 39 = .ok (.aload_n 0, 1) := by decide +kernel
theorem dX12_run_40 : decode cX12_run 40 = .ok (.getfield 250, 3) := by decide +kernel
theorem dX12_run_43 : decode cX12_run 43 = .ok (.iconst 1, 1) := by decide +kernel
theorem dX12_run_44 : decode cX12_run 44 = .ok (.isub, 1) := by decide +kernel
theorem dX12_run_45 : decode cX12_run 45 = .ok (.invokevirtual 473, 3) := by decide +kernel
theorem dX12_run_48 : decode cX12_run 48 = .ok (.istore 4, 2) := by decide +kernel
theorem dX12_run_50 : decode cX12_run 50 = .ok (.iload_n 3, 1) := by decide +kernel
theorem dX12_run_51 : decode cX12_run 51 = .ok (.iconst 3, 1) := by decide +kernel
theorem dX12_run_52 : decode cX12_run 52 = .ok (.if_icmp .ne 8, 3) := by decide +kernel
theorem dX12_run_55 : decode cX12_run 55 = .ok (.aload_n 0, 1) := by decide +kernel
theorem dX12_run_56 : decode cX12_run 56 = .ok (.getfield 447, 3) := by decide +kernel
theorem dX12_run_59 : decode cX12_run 59 = .ok (.ireturn, 1) := by decide +kernel
theorem dX12_run_60 : decode cX12_run 60 = .ok (.iload 4, 2) := by decide +kernel
theorem dX12_run_62 : decode cX12_run 62 = .ok (.ifCond .ne 8, 3) := by decide +kernel
theorem dX12_run_65 : decode cX12_run 65 = .ok (.bipush (-2), 2) := by decide +kernel
theorem dX12_run_67 : decode cX12_run 67 = .ok (.goto 30, 3) := by decide +kernel
theorem dX12_run_70 : decode cX12_run 70 = .ok (.iload_n 3, 1) := by decide +kernel
theorem dX12_run_71 : decode cX12_run 71 = .ok (.ifCond .ne 10, 3) := by decide +kernel
theorem dX12_run_74 : decode cX12_run 74 = .ok (.aload_n 0, 1) := by decide +kernel
theorem dX12_run_75 : decode cX12_run 75 = .ok (.getfield 441, 3) := by decide +kernel
theorem dX12_run_78 : decode cX12_run 78 = .ok (.goto 19, 3) := by decide +kernel
theorem dX12_run_81 : decode cX12_run 81 = .ok (.iload_n 3, 1) := by decide +kernel
theorem dX12_run_82 : decode cX12_run 82 = .ok (.iconst 1, 1) := by decide +kernel
theorem dX12_run_83 : decode cX12_run 83 = .ok (.if_icmp .ne 10, 3) := by decide +kernel
theorem dX12_run_86 : decode cX12_run 86 = .ok (.aload_n 0, 1) := by decide +kernel
theorem dX12_run_87 : decode cX12_run 87 = .ok (.getfield 417, 3) := by decide +kernel
theorem dX12_run_90 : decode cX12_run 90 = .ok (.goto 7, 3) := by decide +kernel
theorem dX12_run_93 : decode cX12_run 93 = .ok (.aload_n 0, 1) := by decide +kernel
theorem dX12_run_94 : decode cX12_run 94 = .ok (.getfield 420, 3) := by decide +kernel
theorem dX12_run_97 : decode cX12_run 97 = .ok (.ireturn, 1) := by decide +kernel
theorem dX12_led_0 : decode cX12_led 0 = .ok (.aload_n 0, 1) := by decide +kernel
theorem dX12_led_1 : decode cX12_led 1 = .ok (.iconst 0, 1) := by decide +kernel
theorem dX12_led_2 : decode cX12_led 2 = .ok (.putfield 154, 3) := by decide +kernel
theorem dX12_led_5 : decode cX12_led 5 = .ok (.aload_n 0, 1) := by decide +kernel
theorem dX12_led_6 : decode cX12_led 6 = .ok (.iload_n 1, 1) := by decide +kernel
theorem dX12_led_7 : decode cX12_led 7 = .ok (.invokevirtual 462, 3) := by decide +kernel
theorem dX12_led_10 : decode cX12_led 10 = .ok (.ifCond .eq 33, 3) := by decide +kernel
theorem dX12_led_13 : decode cX12_led 13 = .ok (.aload_n 0, 1) := by decide +kernel
theorem dX12_led_14 : decode cX12_led 14 = .ok (.iload_n 2, 1) := by decide +kernel
theorem dX12_led_15 : decode cX12_led 15 = .ok (.invokevirtual 456, 3) := by decide +kernel
theorem dX12_led_18 : decode cX12_led 18 = .ok (.ifCond .eq 25, 3) := by decide +kernel
theorem dX12_led_21 : decode cX12_led 21 = .ok (.iload_n 3, 1) := by decide +kernel
theorem dX12_led_22 : decode cX12_led 22 = .ok (.iconst 0, 1) := by decide +kernel
theorem dX12_led_23 : decode cX12_led 23 = .ok (.aload_n 0, 1) := by decide +kernel
theorem dX12_led_24 : decode cX12_led 24 = .ok (.invokevirtual 476, 3) := by decide +kernel
theorem dX12_led_27 : decode cX12_led 27 = .ok (.invokestatic 199, 3) := by decide +kernel
theorem dX12_led_30 : decode cX12_led 30 = .ok (.ifCond .eq 13, 3) := by decide +kernel
theorem dX12_led_33 : decode cX12_led 33 = .ok (.iload 4, 2) := by decide +kernel
theorem dX12_led_35 : decode cX12_led 35 = .ok (.iconst 0, 1) := by decide +kernel
theorem dX12_led_36 : decode cX12_led 36 = .ok (.iconst 2, 1) := by decide +kernel
theorem dX12_led_37 : decode cX12_led 37 = .ok (.invokestatic 199, 3) := by decide +kernel
theorem dX12_led_40 : decode cX12_led 40 = .ok (.ifCond .ne 5, 3) := by decide +kernel
theorem dX12_led_43 : decode cX12_led 43 = .ok (.iconst (-1), 1) := by decide +kernel
theorem dX12_led_44 : decode cX12_led 44 = .ok (.ireturn, 1) := by decide +kernel
theorem dX12_led_45 : decode cX12_led 45 = .ok (.aload_n 0, 1) := by decide +kernel
theorem dX12_led_46 : decode cX12_led 46 = .ok (.iload_n 1, 1) := by decide +kernel
theorem dX12_led_47 : decode cX12_led 47 = .ok (.invokevirtual 467, 3) := by decide +kernel
theorem dX12_led_50 : decode cX12_led 50 = .ok (.aload_n 0, 1) := by decide +kernel
theorem dX12_led_51 : decode cX12_led 51 = .ok (.getfield 447, 3) := by decide +kernel
theorem dX12_led_54 : decode cX12_led 54 = .ok (.iload_n 3, 1) := by decide +kernel
theorem dX12_led_55 : decode cX12_led 55 = .ok (.if_icmp .ge 45, 3) := by decide +kernel
theorem dX12_led_58 : decode cX12_led 58 = .ok (.aload_n 0, 1) := by decide +kernel
theorem dX12_led_59 : decode cX12_led 59 = .ok (.aload_n 0, 1) := by decide +kernel
theorem dX12_led_60 : decode cX12_led 60 = .ok (.getfield 447, 3) := by decide +kernel
theorem dX12_led_63 : decode cX12_led 63 = .ok (.invokevirtual 479, 3) := by decide +kernel
theorem dX12_led_66 : decode cX12_led 66 = .ok (.istore 5, 2) := by decide +kernel
theorem dX12_led_68 : decode cX12_led 68 = .ok (.aload_n 0, 1) := by decide +kernel
theorem dX12_led_69 : decode cX12_led 69 = .ok (.iload 5, 2) := by decide +kernel
theorem dX12_led_71 : decode cX12_led 71 = .ok (.aload_n 0, 1) := by decide +kernel
theorem dX12_led_72 : decode cX12_led 72 = .ok (.getfield 63, 3) := by decide +kernel
theorem dX12_led_75 : decode cX12_led 75 = .ok (.iload_n 2, 1) := by decide +kernel
theorem dX12_led_76 : decode cX12_led 76 = .ok (.iaload, 1) := by decide +kernel
theorem dX12_led_77 : decode cX12_led 77 = .ok (.aload_n 0, 1) := by decide +kernel
theorem dX12_led_78 : decode cX12_led 78 = .ok (.iload_n 2, 1) := by decide +kernel
theorem dX12_led_79 : decode cX12_led 79 = .ok (.iload 5, 2) := by decide +kernel
theorem dX12_led_81 : decode cX12_led 81 = .ok (.invokevirtual 459, 3) := by decide +kernel
theorem dX12_led_84 : decode cX12_led 84 = .ok (.invokevirtual 470, 3) := by decide +kernel
theorem dX12_led_87 : decode cX12_led 87 = .ok (.aload_n 0, 1) := by decide +kernel
theorem dX12_led_88 : decode cX12_led 88 = .ok (.getfield 420, 3) := by decide +kernel
theorem dX12_led_91 : decode cX12_led 91 = .ok (.ifCond .ne 6, 3) := by decide +kernel
theorem dX12_led_94 : decode cX12_led 94 = .ok (.bipush (-2), 2) := by decide +kernel
theorem dX12_led_96 : decode cX12_led 96 = .ok (.ireturn, 1) := by decide +kernel
theorem dX12_led_97 : decode cX12_led 97 = .ok (.goto (-47), 3) := by decide +kernel
theorem dX12_led_100 : decode cX12_led 100 = .ok (.iload 4, 2) := by decide +kernel
theorem dX12_led_102 : decode cX12_led 102 = .ok (.ifCond .ne 10, 3) := by decide +kernel
theorem dX12_led_105 : decode cX12_led 105 = .ok (.aload_n 0, 1) := by decide +kernel
theorem dX12_led_106 : decode cX12_led 106 = .ok (.getfield 441, 3) := by decide +kernel
theorem dX12_led_109 : decode cX12_led 109 = .ok (.goto 20, 3) := by decide +kernel
theorem dX12_led_112 : decode cX12_led 112 = .ok (.iload 4, 2) := by decide +kernel
theorem dX12_led_114 : decode cX12_led 114 = .ok (.iconst 1, 1) := by decide +kernel
theorem dX12_led_115 : decode cX12_led 115 = .ok (.if_icmp .ne 10, 3) := by decide +kernel
theorem dX12_led_118 : decode cX12_led 118 = .ok (.aload_n 0, 1) := by decide +kernel
theorem dX12_led_119 : decode cX12_led 119 = .ok (.getfield 417, 3) := by decide +kernel
theorem dX12_led_122 : decode cX12_led 122 = .ok (.goto 7, 3) := by decide +kernel
theorem dX12_led_125 : decode cX12_led 125 = .ok (.aload_n 0, 1) := by decide +kernel
theorem dX12_led_126 : decode cX12_led 126 = .ok (.getfield 420, 3) := by decide +kernel
theorem dX12_led_129 : decode cX12_led 129 = .ok (.ireturn, 1) := by decide +kernel
theorem dX12_split_0 : decode cX12_split 0 = .ok (.aload_n 0, 1) := by decide +kernel
theorem dX12_split_1 : decode cX12_split 1 = .ok (.iconst 0, 1) := by decide +kernel
theorem dX12_split_2 : decode cX12_split 2 = .ok (.putfield 154, 3) := by decide +kernel
theorem dX12_split_5 : decode cX12_split 5 = .ok (.aload_n 0, 1) := by decide +kernel
theorem dX12_split_6 : decode cX12_split 6 = .ok (.iload_n 1, 1) := by decide +kernel
theorem dX12_split_7 : decode cX12_split 7 = .ok (.invokevirtual 462, 3) := by decide +kernel
theorem dX12_split_10 : decode cX12_split 10 = .ok (.ifCond .eq 19, 3) := by decide +kernel
theorem dX12_split_13 : decode cX12_split 13 = .ok (.aload_n 0, 1) := by decide +kernel
theorem dX12_split_14 : decode cX12_split 14 = .ok (.iload_n 2, 1) := by decide +kernel
theorem dX12_split_15 : decode cX12_split 15 = .ok (.invokevirtual 456, 3) := by decide +kernel
theorem dX12_split_18 : decode cX12_split 18 = .ok (.ifCond .eq 11, 3) := by decide +kernel
theorem dX12_split_21 : decode cX12_split 21 = .ok (.aload_n 0, 1) := by decide +kernel
theorem dX12_split_22 : decode cX12_split 22 = .ok (.iload_n 3, 1) := by decide +kernel
theorem dX12_split_23 : decode cX12_split 23 = .ok (.invokevirtual 450, 3) := by decide +kernel
theorem dX12_split_26 : decode cX12_split 26 = .ok (.ifCond .ne 5, 3) := by decide +kernel
theorem dX12_split_29 : decode cX12_split 29 = .ok (.iconst (-1), 1) := by decide +kernel
theorem dX12_split_30 : decode cX12_split 30 = .ok (.ireturn, 1) := by decide +kernel
theorem dX12_split_31 : decode cX12_split 31 = .ok (.aload_n 0, 1) := by decide +kernel
theorem dX12_split_32 : decode cX12_split 32 = .ok (.iload_n 1, 1) := by decide +kernel
theorem dX12_split_33 : decode cX12_split 33 = .ok (.invokevirtual 467, 3) := by decide +kernel
theorem dX12_split_36 : decode cX12_split 36 = .ok (.aload_n 0, 1) := by decide +kernel
theorem dX12_split_37 : decode cX12_split 37 = .ok (.iload_n 2, 1) := by decide +kernel
theorem dX12_split_38 : decode cX12_split 38 = .ok (.iload_n 3, 1) := by decide +kernel
theorem dX12_split_39 : decode cX12_split 39 = .ok (.invokevirtual 473, 3) := by decide +kernel
theorem dX12_split_42 : decode cX12_split 42 = .ok (.ifCond .eq 10, 3) := by decide +kernel
theorem dX12_split_45 : decode cX12_split 45 = .ok (.aload_n 0, 1) := by decide +kernel
theorem dX12_split_46 : decode cX12_split 46 = .ok (.getfield 441, 3) := by decide +kernel
theorem dX12_split_49 : decode cX12_split 49 = .ok (.goto 5, 3) := by decide +kernel
theorem dX12_split_52 : decode cX12_split 52 = .ok (.bipush (-2), 2) := by decide +kernel
theorem dX12_split_54 : decode cX12_split 54 = .ok (.ireturn, 1) := by decide +kernel
theorem dX12_allSteps_0 : decode cX12_allSteps 0 = .ok (.iconst 0, 1) := by decide +kernel
theorem dX12_allSteps_1 : decode cX12_allSteps 1 = .ok (.istore_n 1, 1) := by decide +kernel
theorem dX12_allSteps_2 : decode cX12_allSteps 2 = .ok (.iconst 0, 1) := by decide +kernel
theorem dX12_allSteps_3 : decode cX12_allSteps 3 = .ok (.istore_n 2, 1) := by decide +kernel
theorem dX12_allSteps_4 : decode cX12_allSteps 4 = .ok (.iload_n 2, 1) := by decide +kernel
theorem dX12_allSteps_5 : decode cX12_allSteps 5 = .ok (.aload_n 0, 1) := by decide +kernel
theorem dX12_allSteps_6 : decode cX12_allSteps 6 = .ok (.getfield 250, 3) := by decide +kernel
theorem dX12_allSteps_9 : decode cX12_allSteps 9 = .ok (.if_icmp .ge 18, 3) := by decide +kernel
theorem dX12_allSteps_12 : decode cX12_allSteps 12 = .ok (.iload_n 1, 1) := by decide +kernel
theorem dX12_allSteps_13 : decode cX12_allSteps 13 = .ok (.aload_n 0, 1) := by decide +kernel
theorem dX12_allSteps_14 : decode cX12_allSteps 14 = .ok (.getfield 23, 3) := by decide +kernel
theorem dX12_allSteps_17 : decode cX12_allSteps 17 = .ok (.iload_n 2, 1) := by decide +kernel
theorem dX12_allSteps_18 : decode cX12_allSteps 18 = .ok (.iaload, 1) := by decide +kernel
theorem dX12_allSteps_19 : decode cX12_allSteps 19 = .ok (.iadd, 1) := by decide +kernel
theorem dX12_allSteps_20 : decode cX12_allSteps 20 = .ok (.istore_n 1, 1) := by decide +kernel
theorem dX12_allSteps_21 : decode cX12_allSteps 21 = .ok (.iinc 2 1, 3) := by decide +kernel
theorem dX12_allSteps_24 : decode cX12_allSteps 24 = .ok (.goto (-20), 3) := by decide +kernel
theorem dX12_allSteps_27 : decode cX12_allSteps 27 = .ok (.iload_n 1, 1) := by decide +kernel
theorem dX12_allSteps_28 : decode cX12_allSteps 28 = .ok (.ireturn, 1) := by decide +kernel
theorem dX12_laneAt_0 : decode cX12_laneAt 0 = .ok (.iconst 0, 1) := by decide +kernel
theorem dX12_laneAt_1 : decode cX12_laneAt 1 = .ok (.istore_n 2, 1) := by decide +kernel
theorem dX12_laneAt_2 : decode cX12_laneAt 2 = .ok (.iload_n 1, 1) := by decide +kernel
theorem dX12_laneAt_3 : decode cX12_laneAt 3 = .ok (.istore_n 3, 1) := by decide +kernel
theorem dX12_laneAt_4 : decode cX12_laneAt 4 = .ok (.iload_n 2, 1) := by decide +kernel
theorem dX12_laneAt_5 : decode cX12_laneAt 5 = .ok (.aload_n 0, 1) := by decide +kernel
theorem dX12_laneAt_6 : decode cX12_laneAt 6 = .ok (.getfield 250, 3) := by decide +kernel
theorem dX12_laneAt_9 : decode cX12_laneAt 9 = .ok (.if_icmp .ge 28, 3) := by decide +kernel
theorem dX12_laneAt_12 : decode cX12_laneAt 12 = .ok (.iload_n 3, 1) := by decide +kernel
theorem dX12_laneAt_13 : decode cX12_laneAt 13 = .ok (.aload_n 0, 1) := by decide +kernel
theorem dX12_laneAt_14 : decode cX12_laneAt 14 = .ok (.getfield 23, 3) := by decide +kernel
theorem dX12_laneAt_17 : decode cX12_laneAt 17 = .ok (.iload_n 2, 1) := by decide +kernel
theorem dX12_laneAt_18 : decode cX12_laneAt 18 = .ok (.iaload, 1) := by decide +kernel
theorem dX12_laneAt_19 : decode cX12_laneAt 19 = .ok (.if_icmp .lt 18, 3) := by decide +kernel
theorem dX12_laneAt_22 : decode cX12_laneAt 22 = .ok (.iload_n 3, 1) := by decide +kernel
theorem dX12_laneAt_23 : decode cX12_laneAt 23 = .ok (.aload_n 0, 1) := by decide +kernel
theorem dX12_laneAt_24 : decode cX12_laneAt 24 = .ok (.getfield 23, 3) := by decide +kernel
theorem dX12_laneAt_27 : decode cX12_laneAt 27 = .ok (.iload_n 2, 1) := by decide +kernel
theorem dX12_laneAt_28 : decode cX12_laneAt 28 = .ok (.iaload, 1) := by decide +kernel
theorem dX12_laneAt_29 : decode cX12_laneAt 29 = .ok (.isub, 1) := by decide +kernel
theorem dX12_laneAt_30 : decode cX12_laneAt 30 = .ok (.istore_n 3, 1) := by decide +kernel
theorem dX12_laneAt_31 : decode cX12_laneAt 31 = .ok (.iinc 2 1, 3) := by decide +kernel
theorem dX12_laneAt_34 : decode cX12_laneAt 34 = .ok (.goto (-30), 3) := by decide +kernel
theorem dX12_laneAt_37 : decode cX12_laneAt 37 = .ok (.iload_n 2, 1) := by decide +kernel
theorem dX12_laneAt_38 : decode cX12_laneAt 38 = .ok (.ireturn, 1) := by decide +kernel
theorem dX12_drawn1_0 : decode cX12_drawn1 0 = .ok (.aload_n 0, 1) := by decide +kernel
theorem dX12_drawn1_1 : decode cX12_drawn1 1 = .ok (.aload_n 0, 1) := by decide +kernel
theorem dX12_drawn1_2 : decode cX12_drawn1 2 = .ok (.getfield 288, 3) := by decide +kernel
theorem dX12_drawn1_5 : decode cX12_drawn1 5 = .ok (.ldc2_w 482, 3) := by decide +kernel
theorem dX12_drawn1_8 : decode cX12_drawn1 8 = .ok (.lmul, 1) := by decide +kernel
theorem dX12_drawn1_9 : decode cX12_drawn1 9 = .ok (.ldc2_w 484, 3) := by decide +kernel
theorem dX12_drawn1_12 : decode cX12_drawn1 12 = .ok (.ladd, 1) := by decide +kernel
theorem dX12_drawn1_13 : decode cX12_drawn1 13 = .ok (.ldc2_w 486, 3) := by decide +kernel
theorem dX12_drawn1_16 : decode cX12_drawn1 16 = .ok (.land, 1) := by decide +kernel
theorem dX12_drawn1_17 : decode cX12_drawn1 17 = .ok (.putfield 288, 3) := by decide +kernel
theorem dX12_drawn1_20 : decode cX12_drawn1 20 = .ok (.aload_n 0, 1) := by decide +kernel
theorem dX12_drawn1_21 : decode cX12_drawn1 21 = .ok (.getfield 288, 3) := by decide +kernel
theorem dX12_drawn1_24 : decode cX12_drawn1 24 = .ok (.ldc2_w 488, 3) := by decide +kernel
theorem dX12_drawn1_27 : decode cX12_drawn1 27 = .ok (.ldiv, 1) := by decide +kernel
theorem dX12_drawn1_28 : decode cX12_drawn1 28 = .ok (.iload_n 1, 1) := by decide +kernel
theorem dX12_drawn1_29 : decode cX12_drawn1 29 = .ok (.i2l, 1) := by decide +kernel
theorem dX12_drawn1_30 : decode cX12_drawn1 30 = .ok (.lrem, 1) := by decide +kernel
theorem dX12_drawn1_31 : decode cX12_drawn1 31 = .ok (.l2i, 1) := by decide +kernel
theorem dX12_drawn1_32 : decode cX12_drawn1 32 = .ok (.ireturn, 1) := by decide +kernel
theorem dX12_slips_0 : decode cX12_slips 0 = .ok (.aload_n 0, 1) := by decide +kernel
theorem dX12_slips_1 : decode cX12_slips 1 = .ok (.bipush 100, 2) := by decide +kernel
theorem dX12_slips_3 : decode cX12_slips 3 = .ok (.invokevirtual 490, 3) := by decide +kernel
theorem dX12_slips_6 : decode cX12_slips 6 = .ok (.aload_n 0, 1) := by decide +kernel
theorem dX12_slips_7 : decode cX12_slips 7 = .ok (.getfield 54, 3) := by decide +kernel
theorem dX12_slips_10 : decode cX12_slips 10 = .ok (.iload_n 2, 1) := by decide +kernel
theorem dX12_slips_11 : decode cX12_slips 11 = .ok (.iaload, 1) := by decide +kernel
theorem dX12_slips_12 : decode cX12_slips 12 = .ok (.aload_n 0, 1) := by decide +kernel
theorem dX12_slips_13 : decode cX12_slips 13 = .ok (.iload_n 1, 1) := by decide +kernel
theorem dX12_slips_14 : decode cX12_slips 14 = .ok (.invokevirtual 423, 3) := by decide +kernel
theorem dX12_slips_17 : decode cX12_slips 17 = .ok (.ifCond .eq 8, 3) := by decide +kernel
theorem dX12_slips_20 : decode cX12_slips 20 = .ok (.bipush 10, 2) := by decide +kernel
theorem dX12_slips_22 : decode cX12_slips 22 = .ok (.goto 4, 3) := by decide +kernel
theorem dX12_slips_25 : decode cX12_slips 25 = .ok (.iconst 0, 1) := by decide +kernel
theorem dX12_slips_26 : decode cX12_slips 26 = .ok (.iadd, 1) := by decide +kernel
theorem dX12_slips_27 : decode cX12_slips 27 = .ok (.if_icmp .ge 7, 3) := by decide +kernel
theorem dX12_slips_30 : decode cX12_slips 30 = .ok (.iconst 1, 1) := by decide +kernel
theorem dX12_slips_31 : decode cX12_slips 31 = .ok (.goto 4, 3) := by decide +kernel
theorem dX12_slips_34 : decode cX12_slips 34 = .ok (.iconst 0, 1) := by decide +kernel
theorem dX12_slips_35 : decode cX12_slips 35 = .ok (.ireturn, 1) := by decide +kernel
theorem dX12_race_0 : decode cX12_race 0 = .ok (.aload_n 0, 1) := by decide +kernel
theorem dX12_race_1 : decode cX12_race 1 = .ok (.iconst 0, 1) := by decide +kernel
theorem dX12_race_2 : decode cX12_race 2 = .ok (.putfield 154, 3) := by decide +kernel
theorem dX12_race_5 : decode cX12_race 5 = .ok (.aload_n 0, 1) := by decide +kernel
theorem dX12_race_6 : decode cX12_race 6 = .ok (.iload_n 1, 1) := by decide +kernel
theorem dX12_race_7 : decode cX12_race 7 = .ok (.invokevirtual 462, 3) := by decide +kernel
theorem dX12_race_10 : decode cX12_race 10 = .ok (.ifCond .eq 11, 3) := by decide +kernel
theorem dX12_race_13 : decode cX12_race 13 = .ok (.aload_n 0, 1) := by decide +kernel
theorem dX12_race_14 : decode cX12_race 14 = .ok (.iload_n 2, 1) := by decide +kernel
theorem dX12_race_15 : decode cX12_race 15 = .ok (.invokevirtual 456, 3) := by decide +kernel
theorem dX12_race_18 : decode cX12_race 18 = .ok (.ifCond .ne 5, 3) := by decide +kernel
theorem dX12_race_21 : decode cX12_race 21 = .ok (.iconst 0, 1) := by decide +kernel
theorem dX12_race_22 : decode cX12_race 22 = .ok (.ireturn, 1) := by decide +kernel
theorem dX12_race_23 : decode cX12_race 23 = .ok (.aload_n 0, 1) := by decide +kernel
theorem dX12_race_24 : decode cX12_race 24 = .ok (.iconst 1, 1) := by decide +kernel
theorem dX12_race_25 : decode cX12_race 25 = .ok (.putfield 292, 3) := by decide +kernel
theorem dX12_race_28 : decode cX12_race 28 = .ok (.aload_n 0, 1) := by decide +kernel
theorem dX12_race_29 : decode cX12_race 29 = .ok (.iload_n 1, 1) := by decide +kernel
theorem dX12_race_30 : decode cX12_race 30 = .ok (.putfield 493, 3) := by decide +kernel
theorem dX12_race_33 : decode cX12_race 33 = .ok (.aload_n 0, 1) := by decide +kernel
theorem dX12_race_34 : decode cX12_race 34 = .ok (.iload_n 2, 1) := by decide +kernel
theorem dX12_race_35 : decode cX12_race 35 = .ok (.putfield 496, 3) := by decide +kernel
theorem dX12_race_38 : decode cX12_race 38 = .ok (.aload_n 0, 1) := by decide +kernel
theorem dX12_race_39 : decode cX12_race 39 = .ok (.getfield 112, 3) := by decide +kernel
theorem dX12_race_42 : decode cX12_race 42 = .ok (.iconst 0, 1) := by decide +kernel
theorem dX12_race_43 : decode cX12_race 43 = .ok (.iconst 0, 1) := by decide +kernel
theorem dX12_race_44 : decode cX12_race 44 = .ok (.iastore, 1) := by decide +kernel
theorem dX12_race_45 : decode cX12_race 45 = .ok (.aload_n 0, 1) := by decide +kernel
theorem dX12_race_46 : decode cX12_race 46 = .ok (.getfield 112, 3) := by decide +kernel
theorem dX12_race_49 : decode cX12_race 49 = .ok (.iconst 1, 1) := by decide +kernel
theorem dX12_race_50 : decode cX12_race 50 = .ok (.iconst 0, 1) := by decide +kernel
theorem dX12_race_51 : decode cX12_race 51 = .ok (.iastore, 1) := by decide +kernel
theorem dX12_race_52 : decode cX12_race 52 = .ok (.aload_n 0, 1) := by decide +kernel
theorem dX12_race_53 : decode cX12_race 53 = .ok (.getfield 112, 3) := by decide +kernel
theorem dX12_race_56 : decode cX12_race 56 = .ok (.iconst 2, 1) := by decide +kernel
theorem dX12_race_57 : decode cX12_race 57 = .ok (.aload_n 0, 1) := by decide +kernel
theorem dX12_race_58 : decode cX12_race 58 = .ok (.getfield 39, 3) := by decide +kernel
theorem dX12_race_61 : decode cX12_race 61 = .ok (.iload_n 1, 1) := by decide +kernel
theorem dX12_race_62 : decode cX12_race 62 = .ok (.iaload, 1) := by decide +kernel
theorem dX12_race_63 : decode cX12_race 63 = .ok (.iastore, 1) := by decide +kernel
theorem dX12_race_64 : decode cX12_race 64 = .ok (.aload_n 0, 1) := by decide +kernel
theorem dX12_race_65 : decode cX12_race 65 = .ok (.getfield 112, 3) := by decide +kernel
theorem dX12_race_68 : decode cX12_race 68 = .ok (.iconst 3, 1) := by decide +kernel
theorem dX12_race_69 : decode cX12_race 69 = .ok (.aload_n 0, 1) := by decide +kernel
theorem dX12_race_70 : decode cX12_race 70 = .ok (.getfield 42, 3) := by decide +kernel
theorem dX12_race_73 : decode cX12_race 73 = .ok (.iload_n 1, 1) := by decide +kernel
theorem dX12_race_74 : decode cX12_race 74 = .ok (.iaload, 1) := by decide +kernel
theorem dX12_race_75 : decode cX12_race 75 = .ok (.iastore, 1) := by decide +kernel
theorem dX12_race_76 : decode cX12_race 76 = .ok (.aload_n 0, 1) := by decide +kernel
theorem dX12_race_77 : decode cX12_race 77 = .ok (.getfield 112, 3) := by decide +kernel
theorem dX12_race_80 : decode cX12_race 80 = .ok (.iconst 4, 1) := by decide +kernel
theorem dX12_race_81 : decode cX12_race 81 = .ok (.iconst 0, 1) := by decide +kernel
theorem dX12_race_82 : decode cX12_race 82 = .ok (.iastore, 1) := by decide +kernel
theorem dX12_race_83 : decode cX12_race 83 = .ok (.aload_n 0, 1) := by decide +kernel
theorem dX12_race_84 : decode cX12_race 84 = .ok (.getfield 112, 3) := by decide +kernel
theorem dX12_race_87 : decode cX12_race 87 = .ok (.iconst 5, 1) := by decide +kernel
theorem dX12_race_88 : decode cX12_race 88 = .ok (.iconst 0, 1) := by decide +kernel
theorem dX12_race_89 : decode cX12_race 89 = .ok (.iastore, 1) := by decide +kernel
theorem dX12_race_90 : decode cX12_race 90 = .ok (.aload_n 0, 1) := by decide +kernel
theorem dX12_race_91 : decode cX12_race 91 = .ok (.getfield 112, 3) := by decide +kernel
theorem dX12_race_94 : decode cX12_race 94 = .ok (.bipush 6, 2) := by decide +kernel
theorem dX12_race_96 : decode cX12_race 96 = .ok (.aload_n 0, 1) := by decide +kernel
theorem dX12_race_97 : decode cX12_race 97 = .ok (.getfield 63, 3) := by decide +kernel
theorem dX12_race_100 : decode cX12_race 100 = .ok (.iload_n 2, 1) := by decide +kernel
theorem dX12_race_101 : decode cX12_race 101 = .ok (.iaload, 1) := by decide +kernel
theorem dX12_race_102 : decode cX12_race 102 = .ok (.iastore, 1) := by decide +kernel
theorem dX12_race_103 : decode cX12_race 103 = .ok (.aload_n 0, 1) := by decide +kernel
theorem dX12_race_104 : decode cX12_race 104 = .ok (.iconst 0, 1) := by decide +kernel
theorem dX12_race_105 : decode cX12_race 105 = .ok (.putfield 295, 3) := by decide +kernel
theorem dX12_race_108 : decode cX12_race 108 = .ok (.iconst 1, 1) := by decide +kernel
theorem dX12_race_109 : decode cX12_race 109 = .ok (.ireturn, 1) := by decide +kernel
theorem dX12_isGoing_0 : decode cX12_isGoing 0 = .ok (.aload_n 0, 1) := by decide +kernel
theorem dX12_isGoing_1 : decode cX12_isGoing 1 = .ok (.getfield 292, 3) := by decide +kernel
theorem dX12_isGoing_4 : decode cX12_isGoing 4 = .ok (.ifCond .eq 29, 3) := by decide +kernel
theorem dX12_isGoing_7 : decode cX12_isGoing 7 = .ok (.aload_n 0, 1) := by decide +kernel
theorem dX12_isGoing_8 : decode cX12_isGoing 8 = .ok (.getfield 112, 3) := by decide +kernel
theorem dX12_isGoing_11 : decode cX12_isGoing 11 = .ok (.iconst 3, 1) := by decide +kernel
theorem dX12_isGoing_12 : decode cX12_isGoing 12 = .ok (.iaload, 1) := by decide +kernel
theorem dX12_isGoing_13 : decode cX12_isGoing 13 = .ok (.ifCond .le 20, 3) := by decide +kernel
theorem dX12_isGoing_16 : decode cX12_isGoing 16 = .ok (.aload_n 0, 1) := by decide +kernel
theorem dX12_isGoing_17 : decode cX12_isGoing 17 = .ok (.getfield 112, 3) := by decide +kernel
theorem dX12_isGoing_20 : decode cX12_isGoing 20 = .ok (.iconst 0, 1) := by decide +kernel
theorem dX12_isGoing_21 : decode cX12_isGoing 21 = .ok (.iaload, 1) := by decide +kernel
theorem dX12_isGoing_22 : decode cX12_isGoing 22 = .ok (.aload_n 0, 1) := by decide +kernel
theorem dX12_isGoing_23 : decode cX12_isGoing 23 = .ok (.invokevirtual 476, 3) := by decide +kernel
theorem dX12_isGoing_26 : decode cX12_isGoing 26 = .ok (.if_icmp .ge 7, 3) := by decide +kernel
theorem dX12_isGoing_29 : decode cX12_isGoing 29 = .ok (.iconst 1, 1) := by decide +kernel
theorem dX12_isGoing_30 : decode cX12_isGoing 30 = .ok (.goto 4, 3) := by decide +kernel
theorem dX12_isGoing_33 : decode cX12_isGoing 33 = .ok (.iconst 0, 1) := by decide +kernel
theorem dX12_isGoing_34 : decode cX12_isGoing 34 = .ok (.ireturn, 1) := by decide +kernel
theorem dX12_racePace_0 : decode cX12_racePace 0 = .ok (.aload_n 0, 1) := by decide +kernel
theorem dX12_racePace_1 : decode cX12_racePace 1 = .ok (.getfield 112, 3) := by decide +kernel
theorem dX12_racePace_4 : decode cX12_racePace 4 = .ok (.iconst 5, 1) := by decide +kernel
theorem dX12_racePace_5 : decode cX12_racePace 5 = .ok (.iaload, 1) := by decide +kernel
theorem dX12_racePace_6 : decode cX12_racePace 6 = .ok (.ifCond .le 12, 3) := by decide +kernel
theorem dX12_racePace_9 : decode cX12_racePace 9 = .ok (.aload_n 0, 1) := by decide +kernel
theorem dX12_racePace_10 : decode cX12_racePace 10 = .ok (.getfield 112, 3) := by decide +kernel
theorem dX12_racePace_13 : decode cX12_racePace 13 = .ok (.iconst 5, 1) := by decide +kernel
theorem dX12_racePace_14 : decode cX12_racePace 14 = .ok (.iaload, 1) := by decide +kernel
theorem dX12_racePace_15 : decode cX12_racePace 15 = .ok (.goto 21, 3) := by decide +kernel
theorem dX12_racePace_18 : decode cX12_racePace 18 = .ok (.aload_n 0, 1) := by decide +kernel
theorem dX12_racePace_19 : decode cX12_racePace 19 = .ok (.aload_n 0, 1) := by decide +kernel
theorem dX12_racePace_20 : decode cX12_racePace 20 = .ok (.getfield 496, 3) := by decide +kernel
theorem dX12_racePace_23 : decode cX12_racePace 23 = .ok (.aload_n 0, 1) := by decide +kernel
theorem dX12_racePace_24 : decode cX12_racePace 24 = .ok (.aload_n 0, 1) := by decide +kernel
theorem dX12_racePace_25 : decode cX12_racePace 25 = .ok (.getfield 112, 3) := by decide +kernel
theorem dX12_racePace_28 : decode cX12_racePace 28 = .ok (.iconst 0, 1) := by decide +kernel
theorem dX12_racePace_29 : decode cX12_racePace 29 = .ok (.iaload, 1) := by decide +kernel
theorem dX12_racePace_30 : decode cX12_racePace 30 = .ok (.invokevirtual 479, 3) := by decide +kernel
theorem dX12_racePace_33 : decode cX12_racePace 33 = .ok (.invokevirtual 459, 3) := by decide +kernel
theorem dX12_racePace_36 : decode cX12_racePace 36 = .ok (.ireturn, 1) := by decide +kernel
theorem dX12_remember_0 : decode cX12_remember 0 = .ok (.aload_n 0, 1) := by decide +kernel
theorem dX12_remember_1 : decode cX12_remember 1 = .ok (.getfield 295, 3) := by decide +kernel
theorem dX12_remember_4 : decode cX12_remember 4 = .ok (.bipush 20, 2) := by decide +kernel
theorem dX12_remember_6 : decode cX12_remember 6 = .ok (.if_icmp .ne 43, 3) := by decide +kernel
theorem dX12_remember_9 : decode cX12_remember 9 = .ok (.iconst 0, 1) := by decide +kernel
theorem dX12_remember_10 : decode cX12_remember 10 = .ok (.istore_n 1, 1) := by decide +kernel
theorem dX12_remember_11 : decode cX12_remember 11 = .ok (.iload_n 1, 1) := by decide +kernel
theorem dX12_remember_12 : decode cX12_remember 12 = .ok (.sipush 152, 3) := by decide +kernel
theorem dX12_remember_15 : decode cX12_remember 15 = .ok (.if_icmp .ge 24, 3) := by decide +kernel
theorem dX12_remember_18 : decode cX12_remember 18 = .ok (.aload_n 0, 1) := by decide +kernel
theorem dX12_remember_19 : decode cX12_remember 19 = .ok (.getfield 115, 3) := by decide +kernel
theorem dX12_remember_22 : decode cX12_remember 22 = .ok (.iload_n 1, 1) := by decide +kernel
theorem dX12_remember_23 : decode cX12_remember 23 = .ok (.aload_n 0, 1) := by decide +kernel
theorem dX12_remember_24 : decode cX12_remember 24 = .ok (.getfield 115, 3) := by decide +kernel
theorem dX12_remember_27 : decode cX12_remember 27 = .ok (.iload_n 1, 1) := by decide +kernel
theorem dX12_remember_28 : decode cX12_remember 28 = .ok (.bipush 8, 2) := by decide +kernel
theorem dX12_remember_30 : decode cX12_remember 30 = .ok (.iadd, 1) := by decide +kernel
theorem dX12_remember_31 : decode cX12_remember 31 = .ok (.iaload, 1) := by decide +kernel
theorem dX12_remember_32 : decode cX12_remember 32 = .ok (.iastore, 1) := by decide +kernel
theorem dX12_remember_33 : decode cX12_remember 33 = .ok (.iinc 1 1, 3) := by decide +kernel
theorem dX12_remember_36 : decode cX12_remember 36 = .ok (.goto (-25), 3) := by decide +kernel
theorem dX12_remember_39 : decode cX12_remember 39 = .ok (.aload_n 0, 1) := by decide +kernel
theorem dX12_remember_40 : decode cX12_remember 40 = .ok (.dup, 1) := by decide +kernel
theorem dX12_remember_41 : decode cX12_remember 41 = .ok (.getfield 295, 3) := by decide +kernel
theorem dX12_remember_44 : decode cX12_remember 44 = .ok (.iconst 1, 1) := by decide +kernel
theorem dX12_remember_45 : decode cX12_remember 45 = .ok (.isub, 1) := by decide +kernel
theorem dX12_remember_46 : decode cX12_remember 46 = .ok (.putfield 295, 3) := by decide +kernel
theorem dX12_remember_49 : decode cX12_remember 49 = .ok (.iconst 0, 1) := by decide +kernel
theorem dX12_remember_50 : decode cX12_remember 50 = .ok (.istore_n 1, 1) := by decide +kernel
theorem dX12_remember_51 : decode cX12_remember 51 = .ok (.iload_n 1, 1) := by decide +kernel
theorem dX12_remember_52 : decode cX12_remember 52 = .ok (.bipush 7, 2) := by decide +kernel
theorem dX12_remember_54 : decode cX12_remember 54 = .ok (.if_icmp .ge 29, 3) := by decide +kernel
theorem dX12_remember_57 : decode cX12_remember 57 = .ok (.aload_n 0, 1) := by decide +kernel
theorem dX12_remember_58 : decode cX12_remember 58 = .ok (.getfield 115, 3) := by decide +kernel
theorem dX12_remember_61 : decode cX12_remember 61 = .ok (.bipush 8, 2) := by decide +kernel
theorem dX12_remember_63 : decode cX12_remember 63 = .ok (.aload_n 0, 1) := by decide +kernel
theorem dX12_remember_64 : decode cX12_remember 64 = .ok (.getfield 295, 3) := by decide +kernel
theorem dX12_remember_67 : decode cX12_remember 67 = .ok (.imul, 1) := by decide +kernel
theorem dX12_remember_68 : decode cX12_remember 68 = .ok (.iload_n 1, 1) := by decide +kernel
theorem dX12_remember_69 : decode cX12_remember 69 = .ok (.iadd, 1) := by decide +kernel
theorem dX12_remember_70 : decode cX12_remember 70 = .ok (.aload_n 0, 1) := by decide +kernel
theorem dX12_remember_71 : decode cX12_remember 71 = .ok (.getfield 112, 3) := by decide +kernel
theorem dX12_remember_74 : decode cX12_remember 74 = .ok (.iload_n 1, 1) := by decide +kernel
theorem dX12_remember_75 : decode cX12_remember 75 = .ok (.iaload, 1) := by decide +kernel
theorem dX12_remember_76 : decode cX12_remember 76 = .ok (.iastore, 1) := by decide +kernel
theorem dX12_remember_77 : decode cX12_remember 77 = .ok (.iinc 1 1, 3) := by decide +kernel
theorem dX12_remember_80 : decode cX12_remember 80 = .ok (.goto (-29), 3) := by decide +kernel
theorem dX12_remember_83 : decode cX12_remember 83 = .ok (.aload_n 0, 1) := by decide +kernel
theorem dX12_remember_84 : decode cX12_remember 84 = .ok (.getfield 115, 3) := by decide +kernel
theorem dX12_remember_87 : decode cX12_remember 87 = .ok (.bipush 8, 2) := by decide +kernel
theorem dX12_remember_89 : decode cX12_remember 89 = .ok (.aload_n 0, 1) := by decide +kernel
theorem dX12_remember_90 : decode cX12_remember 90 = .ok (.getfield 295, 3) := by decide +kernel
theorem dX12_remember_93 : decode cX12_remember 93 = .ok (.imul, 1) := by decide +kernel
theorem dX12_remember_94 : decode cX12_remember 94 = .ok (.bipush 7, 2) := by decide +kernel
theorem dX12_remember_96 : decode cX12_remember 96 = .ok (.iadd, 1) := by decide +kernel
theorem dX12_remember_97 : decode cX12_remember 97 = .ok (.aload_n 0, 1) := by decide +kernel
theorem dX12_remember_98 : decode cX12_remember 98 = .ok (.getfield 288, 3) := by decide +kernel
theorem dX12_remember_101 : decode cX12_remember 101 = .ok (.l2i, 1) := by decide +kernel
theorem dX12_remember_102 : decode cX12_remember 102 = .ok (.iastore, 1) := by decide +kernel
theorem dX12_remember_103 : decode cX12_remember 103 = .ok (.aload_n 0, 1) := by decide +kernel
theorem dX12_remember_104 : decode cX12_remember 104 = .ok (.dup, 1) := by decide +kernel
theorem dX12_remember_105 : decode cX12_remember 105 = .ok (.getfield 295, 3) := by decide +kernel
theorem dX12_remember_108 : decode cX12_remember 108 = .ok (.iconst 1, 1) := by decide +kernel
theorem dX12_remember_109 : decode cX12_remember 109 = .ok (.iadd, 1) := by decide +kernel
theorem dX12_remember_110 : decode cX12_remember 110 = .ok (.putfield 295, 3) := by decide +kernel
theorem dX12_remember_113 : decode cX12_remember 113 = .ok (.return_, 1) := by decide +kernel
theorem dX12_raceStep_0 : decode cX12_raceStep 0 = .ok (.aload_n 0, 1) := by decide +kernel
theorem dX12_raceStep_1 : decode cX12_raceStep 1 = .ok (.invokevirtual 499, 3) := by decide +kernel
theorem dX12_raceStep_4 : decode cX12_raceStep 4 = .ok (.aload_n 0, 1) := by decide +kernel
theorem dX12_raceStep_5 : decode cX12_raceStep 5 = .ok (.aload_n 0, 1) := by decide +kernel
theorem dX12_raceStep_6 : decode cX12_raceStep 6 = .ok (.getfield 493, 3) := by decide +kernel
theorem dX12_raceStep_9 : decode cX12_raceStep 9 = .ok (.invokevirtual 467, 3) := by decide +kernel
theorem dX12_raceStep_12 : decode cX12_raceStep 12 = .ok (.aload_n 0, 1) := by decide +kernel
theorem dX12_raceStep_13 : decode cX12_raceStep 13 = .ok (.aload_n 0, 1) := by decide +kernel
theorem dX12_raceStep_14 : decode cX12_raceStep 14 = .ok (.getfield 112, 3) := by decide +kernel
theorem dX12_raceStep_17 : decode cX12_raceStep 17 = .ok (.iconst 0, 1) := by decide +kernel
theorem dX12_raceStep_18 : decode cX12_raceStep 18 = .ok (.iaload, 1) := by decide +kernel
theorem dX12_raceStep_19 : decode cX12_raceStep 19 = .ok (.putfield 447, 3) := by decide +kernel
theorem dX12_raceStep_22 : decode cX12_raceStep 22 = .ok (.aload_n 0, 1) := by decide +kernel
theorem dX12_raceStep_23 : decode cX12_raceStep 23 = .ok (.aload_n 0, 1) := by decide +kernel
theorem dX12_raceStep_24 : decode cX12_raceStep 24 = .ok (.getfield 112, 3) := by decide +kernel
theorem dX12_raceStep_27 : decode cX12_raceStep 27 = .ok (.iconst 1, 1) := by decide +kernel
theorem dX12_raceStep_28 : decode cX12_raceStep 28 = .ok (.iaload, 1) := by decide +kernel
theorem dX12_raceStep_29 : decode cX12_raceStep 29 = .ok (.putfield 441, 3) := by decide +kernel
theorem dX12_raceStep_32 : decode cX12_raceStep 32 = .ok (.aload_n 0, 1) := by decide +kernel
theorem dX12_raceStep_33 : decode cX12_raceStep 33 = .ok (.aload_n 0, 1) := by decide +kernel
theorem dX12_raceStep_34 : decode cX12_raceStep 34 = .ok (.getfield 112, 3) := by decide +kernel
theorem dX12_raceStep_37 : decode cX12_raceStep 37 = .ok (.iconst 2, 1) := by decide +kernel
theorem dX12_raceStep_38 : decode cX12_raceStep 38 = .ok (.iaload, 1) := by decide +kernel
theorem dX12_raceStep_39 : decode cX12_raceStep 39 = .ok (.putfield 417, 3) := by decide +kernel
theorem dX12_raceStep_42 : decode cX12_raceStep 42 = .ok (.aload_n 0, 1) := by decide +kernel
theorem dX12_raceStep_43 : decode cX12_raceStep 43 = .ok (.aload_n 0, 1) := by decide +kernel
theorem dX12_raceStep_44 : decode cX12_raceStep 44 = .ok (.getfield 112, 3) := by decide +kernel
theorem dX12_raceStep_47 : decode cX12_raceStep 47 = .ok (.iconst 3, 1) := by decide +kernel
theorem dX12_raceStep_48 : decode cX12_raceStep 48 = .ok (.iaload, 1) := by decide +kernel
theorem dX12_raceStep_49 : decode cX12_raceStep 49 = .ok (.putfield 420, 3) := by decide +kernel
theorem dX12_raceStep_52 : decode cX12_raceStep 52 = .ok (.aload_n 0, 1) := by decide +kernel
theorem dX12_raceStep_53 : decode cX12_raceStep 53 = .ok (.aload_n 0, 1) := by decide +kernel
theorem dX12_raceStep_54 : decode cX12_raceStep 54 = .ok (.getfield 447, 3) := by decide +kernel
theorem dX12_raceStep_57 : decode cX12_raceStep 57 = .ok (.invokevirtual 479, 3) := by decide +kernel
theorem dX12_raceStep_60 : decode cX12_raceStep 60 = .ok (.istore_n 1, 1) := by decide +kernel
theorem dX12_raceStep_61 : decode cX12_raceStep 61 = .ok (.aload_n 0, 1) := by decide +kernel
theorem dX12_raceStep_62 : decode cX12_raceStep 62 = .ok (.iload_n 1, 1) := by decide +kernel
theorem dX12_raceStep_63 : decode cX12_raceStep 63 = .ok (.aload_n 0, 1) := by decide +kernel
theorem dX12_raceStep_64 : decode cX12_raceStep 64 = .ok (.getfield 112, 3) := by decide +kernel
theorem dX12_raceStep_67 : decode cX12_raceStep 67 = .ok (.bipush 6, 2) := by decide +kernel
theorem dX12_raceStep_69 : decode cX12_raceStep 69 = .ok (.iaload, 1) := by decide +kernel
theorem dX12_raceStep_70 : decode cX12_raceStep 70 = .ok (.aload_n 0, 1) := by decide +kernel
theorem dX12_raceStep_71 : decode cX12_raceStep 71 = .ok (.invokevirtual 502, 3) := by decide +kernel
theorem dX12_raceStep_74 : decode cX12_raceStep 74 = .ok (.invokevirtual 470, 3) := by decide +kernel
theorem dX12_raceStep_77 : decode cX12_raceStep 77 = .ok (.aload_n 0, 1) := by decide +kernel
theorem dX12_raceStep_78 : decode cX12_raceStep 78 = .ok (.iload_n 1, 1) := by decide +kernel
theorem dX12_raceStep_79 : decode cX12_raceStep 79 = .ok (.aload_n 0, 1) := by decide +kernel
theorem dX12_raceStep_80 : decode cX12_raceStep 80 = .ok (.getfield 112, 3) := by decide +kernel
theorem dX12_raceStep_83 : decode cX12_raceStep 83 = .ok (.bipush 6, 2) := by decide +kernel
theorem dX12_raceStep_85 : decode cX12_raceStep 85 = .ok (.iaload, 1) := by decide +kernel
theorem dX12_raceStep_86 : decode cX12_raceStep 86 = .ok (.invokevirtual 505, 3) := by decide +kernel
theorem dX12_raceStep_89 : decode cX12_raceStep 89 = .ok (.ifCond .eq 34, 3) := by decide +kernel
theorem dX12_raceStep_92 : decode cX12_raceStep 92 = .ok (.aload_n 0, 1) := by decide +kernel
theorem dX12_raceStep_93 : decode cX12_raceStep 93 = .ok (.dup, 1) := by decide +kernel
theorem dX12_raceStep_94 : decode cX12_raceStep 94 = .ok (.getfield 441, 3) := by decide +kernel
theorem dX12_raceStep_97 : decode cX12_raceStep 97 = .ok (.aload_n 0, 1) := by decide +kernel
theorem dX12_raceStep_98 : decode cX12_raceStep 98 = .ok (.getfield 57, 3) := by decide +kernel
theorem dX12_raceStep_101 : decode cX12_raceStep 101 = .ok (.aload_n 0, 1) := by decide +kernel
theorem dX12_raceStep_102 : decode cX12_raceStep 102 = .ok (.getfield 112, 3) := by decide +kernel
theorem dX12_raceStep_105 : decode cX12_raceStep 105 = .ok (.bipush 6, 2) := by decide +kernel
theorem dX12_raceStep_107 : decode cX12_raceStep 107 = .ok (.iaload, 1) := by decide +kernel
theorem dX12_raceStep_108 : decode cX12_raceStep 108 = .ok (.iaload, 1) := by decide +kernel
theorem dX12_raceStep_109 : decode cX12_raceStep 109 = .ok (.iadd, 1) := by decide +kernel
theorem dX12_raceStep_110 : decode cX12_raceStep 110 = .ok (.putfield 441, 3) := by decide +kernel
theorem dX12_raceStep_113 : decode cX12_raceStep 113 = .ok (.aload_n 0, 1) := by decide +kernel
theorem dX12_raceStep_114 : decode cX12_raceStep 114 = .ok (.getfield 112, 3) := by decide +kernel
theorem dX12_raceStep_117 : decode cX12_raceStep 117 = .ok (.iconst 4, 1) := by decide +kernel
theorem dX12_raceStep_118 : decode cX12_raceStep 118 = .ok (.dup2, 1) := by decide +kernel
theorem dX12_raceStep_119 : decode cX12_raceStep 119 = .ok (.iaload, 1) := by decide +kernel
theorem dX12_raceStep_120 : decode cX12_raceStep 120 = .ok (.iconst 1, 1) := by decide +kernel
theorem dX12_raceStep_121 : decode cX12_raceStep 121 = .ok (.iadd, 1) := by decide +kernel
theorem dX12_raceStep_122 : decode cX12_raceStep 122 = .ok (.iastore, 1) := by decide +kernel
theorem dX12_raceStep_123 : decode cX12_raceStep 123 = .ok (.aload_n 0, 1) := by decide +kernel
theorem dX12_raceStep_124 : decode cX12_raceStep 124 = .ok (.getfield 112, 3) := by decide +kernel
theorem dX12_raceStep_127 : decode cX12_raceStep 127 = .ok (.iconst 0, 1) := by decide +kernel
theorem dX12_raceStep_128 : decode cX12_raceStep 128 = .ok (.aload_n 0, 1) := by decide +kernel
theorem dX12_raceStep_129 : decode cX12_raceStep 129 = .ok (.getfield 447, 3) := by decide +kernel
theorem dX12_raceStep_132 : decode cX12_raceStep 132 = .ok (.iastore, 1) := by decide +kernel
theorem dX12_raceStep_133 : decode cX12_raceStep 133 = .ok (.aload_n 0, 1) := by decide +kernel
theorem dX12_raceStep_134 : decode cX12_raceStep 134 = .ok (.getfield 112, 3) := by decide +kernel
theorem dX12_raceStep_137 : decode cX12_raceStep 137 = .ok (.iconst 1, 1) := by decide +kernel
theorem dX12_raceStep_138 : decode cX12_raceStep 138 = .ok (.aload_n 0, 1) := by decide +kernel
theorem dX12_raceStep_139 : decode cX12_raceStep 139 = .ok (.getfield 441, 3) := by decide +kernel
theorem dX12_raceStep_142 : decode cX12_raceStep 142 = .ok (.iastore, 1) := by decide +kernel
theorem dX12_raceStep_143 : decode cX12_raceStep 143 = .ok (.aload_n 0, 1) := by decide +kernel
theorem dX12_raceStep_144 : decode cX12_raceStep 144 = .ok (.getfield 112, 3) := by decide +kernel
theorem dX12_raceStep_147 : decode cX12_raceStep 147 = .ok (.iconst 2, 1) := by decide +kernel
theorem dX12_raceStep_148 : decode cX12_raceStep 148 = .ok (.aload_n 0, 1) := by decide +kernel
theorem dX12_raceStep_149 : decode cX12_raceStep 149 = .ok (.getfield 417, 3) := by decide +kernel
theorem dX12_raceStep_152 : decode cX12_raceStep 152 = .ok (.iastore, 1) := by decide +kernel
theorem dX12_raceStep_153 : decode cX12_raceStep 153 = .ok (.aload_n 0, 1) := by decide +kernel
theorem dX12_raceStep_154 : decode cX12_raceStep 154 = .ok (.getfield 112, 3) := by decide +kernel
theorem dX12_raceStep_157 : decode cX12_raceStep 157 = .ok (.iconst 3, 1) := by decide +kernel
theorem dX12_raceStep_158 : decode cX12_raceStep 158 = .ok (.aload_n 0, 1) := by decide +kernel
theorem dX12_raceStep_159 : decode cX12_raceStep 159 = .ok (.getfield 420, 3) := by decide +kernel
theorem dX12_raceStep_162 : decode cX12_raceStep 162 = .ok (.iastore, 1) := by decide +kernel
theorem dX12_raceStep_163 : decode cX12_raceStep 163 = .ok (.return_, 1) := by decide +kernel
theorem dX12_go_0 : decode cX12_go 0 = .ok (.aload_n 0, 1) := by decide +kernel
theorem dX12_go_1 : decode cX12_go 1 = .ok (.iconst 0, 1) := by decide +kernel
theorem dX12_go_2 : decode cX12_go 2 = .ok (.putfield 154, 3) := by decide +kernel
theorem dX12_go_5 : decode cX12_go 5 = .ok (.aload_n 0, 1) := by decide +kernel
theorem dX12_go_6 : decode cX12_go 6 = .ok (.getfield 292, 3) := by decide +kernel
theorem dX12_go_9 : decode cX12_go 9 = .ok (.ifCond .eq 13, 3) := by decide +kernel
theorem dX12_go_12 : decode cX12_go 12 = .ok (.iload_n 1, 1) := by decide +kernel
theorem dX12_go_13 : decode cX12_go 13 = .ok (.iconst 0, 1) := by decide +kernel
theorem dX12_go_14 : decode cX12_go 14 = .ok (.bipush 120, 2) := by decide +kernel
theorem dX12_go_16 : decode cX12_go 16 = .ok (.invokestatic 199, 3) := by decide +kernel
theorem dX12_go_19 : decode cX12_go 19 = .ok (.ifCond .ne 5, 3) := by decide +kernel
theorem dX12_go_22 : decode cX12_go 22 = .ok (.iconst (-1), 1) := by decide +kernel
theorem dX12_go_23 : decode cX12_go 23 = .ok (.ireturn, 1) := by decide +kernel
theorem dX12_go_24 : decode cX12_go 24 = .ok (.iconst 0, 1) := by decide +kernel
theorem dX12_go_25 : decode cX12_go 25 = .ok (.istore_n 2, 1) := by decide +kernel
theorem dX12_go_26 : decode cX12_go 26 = .ok (.iload_n 2, 1) := by decide +kernel
theorem dX12_go_27 : decode cX12_go 27 = .ok (.iload_n 1, 1) := by decide +kernel
theorem dX12_go_28 : decode cX12_go 28 = .ok (.if_icmp .ge 20, 3) := by decide +kernel
theorem dX12_go_31 : decode cX12_go 31 = .ok (.aload_n 0, 1) := by decide +kernel
theorem dX12_go_32 : decode cX12_go 32 = .ok (.invokevirtual 508, 3) := by decide +kernel
theorem dX12_go_35 : decode cX12_go 35 = .ok (.ifCond .eq 13, 3) := by decide +kernel
theorem dX12_go_38 : decode cX12_go 38 = .ok (.aload_n 0, 1) := by decide +kernel
theorem dX12_go_39 : decode cX12_go 39 = .ok (.invokevirtual 511, 3) := by decide +kernel
theorem dX12_go_42 : decode cX12_go 42 = .ok (.iinc 2 1, 3) := by decide +kernel
theorem dX12_go_45 : decode cX12_go 45 = .ok (.goto (-19), 3) := by decide +kernel
theorem dX12_go_48 : decode cX12_go 48 = .ok (.iload_n 2, 1) := by decide +kernel
theorem dX12_go_49 : decode cX12_go 49 = .ok (.ireturn, 1) := by decide +kernel
theorem dX12_now_0 : decode cX12_now 0 = .ok (.aload_n 0, 1) := by decide +kernel
theorem dX12_now_1 : decode cX12_now 1 = .ok (.iconst 0, 1) := by decide +kernel
theorem dX12_now_2 : decode cX12_now 2 = .ok (.putfield 154, 3) := by decide +kernel
theorem dX12_now_5 : decode cX12_now 5 = .ok (.aload_n 0, 1) := by decide +kernel
theorem dX12_now_6 : decode cX12_now 6 = .ok (.getfield 292, 3) := by decide +kernel
theorem dX12_now_9 : decode cX12_now 9 = .ok (.ifCond .ne 5, 3) := by decide +kernel
theorem dX12_now_12 : decode cX12_now 12 = .ok (.iconst (-1), 1) := by decide +kernel
theorem dX12_now_13 : decode cX12_now 13 = .ok (.ireturn, 1) := by decide +kernel
theorem dX12_now_14 : decode cX12_now 14 = .ok (.iload_n 1, 1) := by decide +kernel
theorem dX12_now_15 : decode cX12_now 15 = .ok (.tableswitch 115 0 7 #[45, 45, 45, 45, 45, 52, 78, 107], 45) := by decide +kernel
theorem dX12_now_60 : decode cX12_now 60 = .ok (.aload_n 0, 1) := by decide +kernel
theorem dX12_now_61 : decode cX12_now 61 = .ok (.getfield 112, 3) := by decide +kernel
theorem dX12_now_64 : decode cX12_now 64 = .ok (.iload_n 1, 1) := by decide +kernel
theorem dX12_now_65 : decode cX12_now 65 = .ok (.iaload, 1) := by decide +kernel
theorem dX12_now_66 : decode cX12_now 66 = .ok (.ireturn, 1) := by decide +kernel
theorem dX12_now_67 : decode cX12_now 67 = .ok (.aload_n 0, 1) := by decide +kernel
theorem dX12_now_68 : decode cX12_now 68 = .ok (.getfield 112, 3) := by decide +kernel
theorem dX12_now_71 : decode cX12_now 71 = .ok (.iconst 3, 1) := by decide +kernel
theorem dX12_now_72 : decode cX12_now 72 = .ok (.iaload, 1) := by decide +kernel
theorem dX12_now_73 : decode cX12_now 73 = .ok (.ifCond .ne 7, 3) := by decide +kernel
theorem dX12_now_76 : decode cX12_now 76 = .ok (.iconst 2, 1) := by decide +kernel
theorem dX12_now_77 : decode cX12_now 77 = .ok (.goto 15, 3) := by decide +kernel
theorem dX12_now_80 : decode cX12_now 80 = .ok (.aload_n 0, 1) := by decide +kernel
theorem dX12_now_81 : decode cX12_now 81 = .ok (.invokevirtual 508, 3) := by decide +kernel
theorem dX12_now_84 : decode cX12_now 84 = .ok (.ifCond .eq 7, 3) := by decide +kernel
theorem dX12_now_87 : decode cX12_now 87 = .ok (.iconst 0, 1) := by decide +kernel
theorem dX12_now_88 : decode cX12_now 88 = .ok (.goto 4, 3) := by decide +kernel
theorem dX12_now_91 : decode cX12_now 91 = .ok (.iconst 1, 1) := by decide +kernel
theorem dX12_now_92 : decode cX12_now 92 = .ok (.ireturn, 1) := by decide +kernel
theorem dX12_now_93 : decode cX12_now 93 = .ok (.aload_n 0, 1) := by decide +kernel
theorem dX12_now_94 : decode cX12_now 94 = .ok (.invokevirtual 508, 3) := by decide +kernel
theorem dX12_now_97 : decode cX12_now 97 = .ok (.ifCond .ne 7, 3) := by decide +kernel
theorem dX12_now_100 : decode cX12_now 100 = .ok (.iconst 0, 1) := by decide +kernel
theorem dX12_now_101 : decode cX12_now 101 = .ok (.goto 20, 3) := by decide +kernel
theorem dX12_now_104 : decode cX12_now 104 = .ok (.aload_n 0, 1) := by decide +kernel
theorem dX12_now_105 : decode cX12_now 105 = .ok (.getfield 112, 3) := by decide +kernel
theorem dX12_now_108 : decode cX12_now 108 = .ok (.iconst 2, 1) := by decide +kernel
theorem dX12_now_109 : decode cX12_now 109 = .ok (.iaload, 1) := by decide +kernel
theorem dX12_now_110 : decode cX12_now 110 = .ok (.ifCond .ne 7, 3) := by decide +kernel
theorem dX12_now_113 : decode cX12_now 113 = .ok (.iconst 1, 1) := by decide +kernel
theorem dX12_now_114 : decode cX12_now 114 = .ok (.goto 7, 3) := by decide +kernel
theorem dX12_now_117 : decode cX12_now 117 = .ok (.aload_n 0, 1) := by decide +kernel
theorem dX12_now_118 : decode cX12_now 118 = .ok (.invokevirtual 502, 3) := by decide +kernel
theorem dX12_now_121 : decode cX12_now 121 = .ok (.ireturn, 1) := by decide +kernel
theorem dX12_now_122 : decode cX12_now 122 = .ok (.aload_n 0, 1) := by decide +kernel
theorem dX12_now_123 : decode cX12_now 123 = .ok (.getfield 112, 3) := by decide +kernel
theorem dX12_now_126 : decode cX12_now 126 = .ok (.bipush 6, 2) := by decide +kernel
theorem dX12_now_128 : decode cX12_now 128 = .ok (.iaload, 1) := by decide +kernel
theorem dX12_now_129 : decode cX12_now 129 = .ok (.ireturn, 1) := by decide +kernel
theorem dX12_now_130 : decode cX12_now 130 = .ok (.iconst (-1), 1) := by decide +kernel
theorem dX12_now_131 : decode cX12_now 131 = .ok (.ireturn, 1) := by decide +kernel
theorem dX12_paced_0 : decode cX12_paced 0 = .ok (.aload_n 0, 1) := by decide +kernel
theorem dX12_paced_1 : decode cX12_paced 1 = .ok (.iconst 0, 1) := by decide +kernel
theorem dX12_paced_2 : decode cX12_paced 2 = .ok (.putfield 154, 3) := by decide +kernel
theorem dX12_paced_5 : decode cX12_paced 5 = .ok (.aload_n 0, 1) := by decide +kernel
theorem dX12_paced_6 : decode cX12_paced 6 = .ok (.invokevirtual 508, 3) := by decide +kernel
theorem dX12_paced_9 : decode cX12_paced 9 = .ok (.ifCond .eq 13, 3) := by decide +kernel
theorem dX12_paced_12 : decode cX12_paced 12 = .ok (.iload_n 1, 1) := by decide +kernel
theorem dX12_paced_13 : decode cX12_paced 13 = .ok (.iconst 0, 1) := by decide +kernel
theorem dX12_paced_14 : decode cX12_paced 14 = .ok (.bipush 9, 2) := by decide +kernel
theorem dX12_paced_16 : decode cX12_paced 16 = .ok (.invokestatic 199, 3) := by decide +kernel
theorem dX12_paced_19 : decode cX12_paced 19 = .ok (.ifCond .ne 5, 3) := by decide +kernel
theorem dX12_paced_22 : decode cX12_paced 22 = .ok (.iconst 0, 1) := by decide +kernel
theorem dX12_paced_23 : decode cX12_paced 23 = .ok (.ireturn, 1) := by decide +kernel
theorem dX12_paced_24 : decode cX12_paced 24 = .ok (.aload_n 0, 1) := by decide +kernel
theorem dX12_paced_25 : decode cX12_paced 25 = .ok (.getfield 112, 3) := by decide +kernel
theorem dX12_paced_28 : decode cX12_paced 28 = .ok (.iconst 5, 1) := by decide +kernel
theorem dX12_paced_29 : decode cX12_paced 29 = .ok (.iload_n 1, 1) := by decide +kernel
theorem dX12_paced_30 : decode cX12_paced 30 = .ok (.iastore, 1) := by decide +kernel
theorem dX12_paced_31 : decode cX12_paced 31 = .ok (.iconst 1, 1) := by decide +kernel
theorem dX12_paced_32 : decode cX12_paced 32 = .ok (.ireturn, 1) := by decide +kernel
theorem dX12_shift_0 : decode cX12_shift 0 = .ok (.aload_n 0, 1) := by decide +kernel
theorem dX12_shift_1 : decode cX12_shift 1 = .ok (.iconst 0, 1) := by decide +kernel
theorem dX12_shift_2 : decode cX12_shift 2 = .ok (.putfield 154, 3) := by decide +kernel
theorem dX12_shift_5 : decode cX12_shift 5 = .ok (.aload_n 0, 1) := by decide +kernel
theorem dX12_shift_6 : decode cX12_shift 6 = .ok (.invokevirtual 508, 3) := by decide +kernel
theorem dX12_shift_9 : decode cX12_shift 9 = .ok (.ifCond .eq 22, 3) := by decide +kernel
theorem dX12_shift_12 : decode cX12_shift 12 = .ok (.aload_n 0, 1) := by decide +kernel
theorem dX12_shift_13 : decode cX12_shift 13 = .ok (.iload_n 1, 1) := by decide +kernel
theorem dX12_shift_14 : decode cX12_shift 14 = .ok (.invokevirtual 514, 3) := by decide +kernel
theorem dX12_shift_17 : decode cX12_shift 17 = .ok (.ifCond .eq 14, 3) := by decide +kernel
theorem dX12_shift_20 : decode cX12_shift 20 = .ok (.aload_n 0, 1) := by decide +kernel
theorem dX12_shift_21 : decode cX12_shift 21 = .ok (.getfield 112, 3) := by decide +kernel
theorem dX12_shift_24 : decode cX12_shift 24 = .ok (.bipush 6, 2) := by decide +kernel
theorem dX12_shift_26 : decode cX12_shift 26 = .ok (.iaload, 1) := by decide +kernel
theorem dX12_shift_27 : decode cX12_shift 27 = .ok (.iload_n 1, 1) := by decide +kernel
theorem dX12_shift_28 : decode cX12_shift 28 = .ok (.if_icmp .ne 5, 3) := by decide +kernel
theorem dX12_shift_31 : decode cX12_shift 31 = .ok (.iconst (-1), 1) := by decide +kernel
theorem dX12_shift_32 : decode cX12_shift 32 = .ok (.ireturn, 1) := by decide +kernel
theorem dX12_shift_33 : decode cX12_shift 33 = .ok (.aload_n 0, 1) := by decide +kernel
theorem dX12_shift_34 : decode cX12_shift 34 = .ok (.getfield 112, 3) := by decide +kernel
theorem dX12_shift_37 : decode cX12_shift 37 = .ok (.bipush 6, 2) := by decide +kernel
theorem dX12_shift_39 : decode cX12_shift 39 = .ok (.iload_n 1, 1) := by decide +kernel
theorem dX12_shift_40 : decode cX12_shift 40 = .ok (.iastore, 1) := by decide +kernel
theorem dX12_shift_41 : decode cX12_shift 41 = .ok (.aload_n 0, 1) := by decide +kernel
theorem dX12_shift_42 : decode cX12_shift 42 = .ok (.getfield 112, 3) := by decide +kernel
theorem dX12_shift_45 : decode cX12_shift 45 = .ok (.iconst 1, 1) := by decide +kernel
theorem dX12_shift_46 : decode cX12_shift 46 = .ok (.dup2, 1) := by decide +kernel
theorem dX12_shift_47 : decode cX12_shift 47 = .ok (.iaload, 1) := by decide +kernel
theorem dX12_shift_48 : decode cX12_shift 48 = .ok (.aload_n 0, 1) := by decide +kernel
theorem dX12_shift_49 : decode cX12_shift 49 = .ok (.getfield 57, 3) := by decide +kernel
theorem dX12_shift_52 : decode cX12_shift 52 = .ok (.iload_n 1, 1) := by decide +kernel
theorem dX12_shift_53 : decode cX12_shift 53 = .ok (.iaload, 1) := by decide +kernel
theorem dX12_shift_54 : decode cX12_shift 54 = .ok (.iadd, 1) := by decide +kernel
theorem dX12_shift_55 : decode cX12_shift 55 = .ok (.iastore, 1) := by decide +kernel
theorem dX12_shift_56 : decode cX12_shift 56 = .ok (.aload_n 0, 1) := by decide +kernel
theorem dX12_shift_57 : decode cX12_shift 57 = .ok (.getfield 57, 3) := by decide +kernel
theorem dX12_shift_60 : decode cX12_shift 60 = .ok (.iload_n 1, 1) := by decide +kernel
theorem dX12_shift_61 : decode cX12_shift 61 = .ok (.iaload, 1) := by decide +kernel
theorem dX12_shift_62 : decode cX12_shift 62 = .ok (.ireturn, 1) := by decide +kernel
theorem dX12_undo_0 : decode cX12_undo 0 = .ok (.aload_n 0, 1) := by decide +kernel
theorem dX12_undo_1 : decode cX12_undo 1 = .ok (.iconst 0, 1) := by decide +kernel
theorem dX12_undo_2 : decode cX12_undo 2 = .ok (.putfield 154, 3) := by decide +kernel
theorem dX12_undo_5 : decode cX12_undo 5 = .ok (.aload_n 0, 1) := by decide +kernel
theorem dX12_undo_6 : decode cX12_undo 6 = .ok (.getfield 295, 3) := by decide +kernel
theorem dX12_undo_9 : decode cX12_undo 9 = .ok (.ifCond .ne 5, 3) := by decide +kernel
theorem dX12_undo_12 : decode cX12_undo 12 = .ok (.iconst (-1), 1) := by decide +kernel
theorem dX12_undo_13 : decode cX12_undo 13 = .ok (.ireturn, 1) := by decide +kernel
theorem dX12_undo_14 : decode cX12_undo 14 = .ok (.aload_n 0, 1) := by decide +kernel
theorem dX12_undo_15 : decode cX12_undo 15 = .ok (.dup, 1) := by decide +kernel
theorem dX12_undo_16 : decode cX12_undo 16 = .ok (.getfield 295, 3) := by decide +kernel
theorem dX12_undo_19 : decode cX12_undo 19 = .ok (.iconst 1, 1) := by decide +kernel
theorem dX12_undo_20 : decode cX12_undo 20 = .ok (.isub, 1) := by decide +kernel
theorem dX12_undo_21 : decode cX12_undo 21 = .ok (.putfield 295, 3) := by decide +kernel
theorem dX12_undo_24 : decode cX12_undo 24 = .ok (.iconst 0, 1) := by decide +kernel
theorem dX12_undo_25 : decode cX12_undo 25 = .ok (.istore_n 1, 1) := by decide +kernel
theorem dX12_undo_26 : decode cX12_undo 26 = .ok (.iload_n 1, 1) := by decide +kernel
theorem dX12_undo_27 : decode cX12_undo 27 = .ok (.bipush 7, 2) := by decide +kernel
theorem dX12_undo_29 : decode cX12_undo 29 = .ok (.if_icmp .ge 29, 3) := by decide +kernel
theorem dX12_undo_32 : decode cX12_undo 32 = .ok (.aload_n 0, 1) := by decide +kernel
theorem dX12_undo_33 : decode cX12_undo 33 = .ok (.getfield 112, 3) := by decide +kernel
theorem dX12_undo_36 : decode cX12_undo 36 = .ok (.iload_n 1, 1) := by decide +kernel
theorem dX12_undo_37 : decode cX12_undo 37 = .ok (.aload_n 0, 1) := by decide +kernel
theorem dX12_undo_38 : decode cX12_undo 38 = .ok (.getfield 115, 3) := by decide +kernel
theorem dX12_undo_41 : decode cX12_undo 41 = .ok (.bipush 8, 2) := by decide +kernel
theorem dX12_undo_43 : decode cX12_undo 43 = .ok (.aload_n 0, 1) := by decide +kernel
theorem dX12_undo_44 : decode cX12_undo 44 = .ok (.getfield 295, 3) := by decide +kernel
theorem dX12_undo_47 : decode cX12_undo 47 = .ok (.imul, 1) := by decide +kernel
theorem dX12_undo_48 : decode cX12_undo 48 = .ok (.iload_n 1, 1) := by decide +kernel
theorem dX12_undo_49 : decode cX12_undo 49 = .ok (.iadd, 1) := by decide +kernel
theorem dX12_undo_50 : decode cX12_undo 50 = .ok (.iaload, 1) := by decide +kernel
theorem dX12_undo_51 : decode cX12_undo 51 = .ok (.iastore, 1) := by decide +kernel
theorem dX12_undo_52 : decode cX12_undo 52 = .ok (.iinc 1 1, 3) := by decide +kernel
theorem dX12_undo_55 : decode cX12_undo 55 = .ok (.goto (-29), 3) := by decide +kernel
theorem dX12_undo_58 : decode cX12_undo 58 = .ok (.aload_n 0, 1) := by decide +kernel
theorem dX12_undo_59 : decode cX12_undo 59 = .ok (.aload_n 0, 1) := by decide +kernel
theorem dX12_undo_60 : decode cX12_undo 60 = .ok (.getfield 115, 3) := by decide +kernel
theorem dX12_undo_63 : decode cX12_undo 63 = .ok (.bipush 8, 2) := by decide +kernel
theorem dX12_undo_65 : decode cX12_undo 65 = .ok (.aload_n 0, 1) := by decide +kernel
theorem dX12_undo_66 : decode cX12_undo 66 = .ok (.getfield 295, 3) := by decide +kernel
theorem dX12_undo_69 : decode cX12_undo 69 = .ok (.imul, 1) := by decide +kernel
theorem dX12_undo_70 : decode cX12_undo 70 = .ok (.bipush 7, 2) := by decide +kernel
theorem dX12_undo_72 : decode cX12_undo 72 = .ok (.iadd, 1) := by decide +kernel
theorem dX12_undo_73 : decode cX12_undo 73 = .ok (.iaload, 1) := by decide +kernel
theorem dX12_undo_74 : decode cX12_undo 74 = .ok (.i2l, 1) := by decide +kernel
theorem dX12_undo_75 : decode cX12_undo 75 = .ok (.putfield 288, 3) := by decide +kernel
theorem dX12_undo_78 : decode cX12_undo 78 = .ok (.aload_n 0, 1) := by decide +kernel
theorem dX12_undo_79 : decode cX12_undo 79 = .ok (.getfield 295, 3) := by decide +kernel
theorem dX12_undo_82 : decode cX12_undo 82 = .ok (.ireturn, 1) := by decide +kernel
theorem dX12_sack_0 : decode cX12_sack 0 = .ok (.aload_n 0, 1) := by decide +kernel
theorem dX12_sack_1 : decode cX12_sack 1 = .ok (.iconst 0, 1) := by decide +kernel
theorem dX12_sack_2 : decode cX12_sack 2 = .ok (.putfield 154, 3) := by decide +kernel
theorem dX12_sack_5 : decode cX12_sack 5 = .ok (.iload_n 1, 1) := by decide +kernel
theorem dX12_sack_6 : decode cX12_sack 6 = .ok (.iconst 0, 1) := by decide +kernel
theorem dX12_sack_7 : decode cX12_sack 7 = .ok (.bipush 30, 2) := by decide +kernel
theorem dX12_sack_9 : decode cX12_sack 9 = .ok (.invokestatic 199, 3) := by decide +kernel
theorem dX12_sack_12 : decode cX12_sack 12 = .ok (.ifCond .ne 5, 3) := by decide +kernel
theorem dX12_sack_15 : decode cX12_sack 15 = .ok (.iconst 0, 1) := by decide +kernel
theorem dX12_sack_16 : decode cX12_sack 16 = .ok (.ireturn, 1) := by decide +kernel
theorem dX12_sack_17 : decode cX12_sack 17 = .ok (.aload_n 0, 1) := by decide +kernel
theorem dX12_sack_18 : decode cX12_sack 18 = .ok (.iload_n 1, 1) := by decide +kernel
theorem dX12_sack_19 : decode cX12_sack 19 = .ok (.putfield 282, 3) := by decide +kernel
theorem dX12_sack_22 : decode cX12_sack 22 = .ok (.iconst 1, 1) := by decide +kernel
theorem dX12_sack_23 : decode cX12_sack 23 = .ok (.ireturn, 1) := by decide +kernel
theorem dX12_rain_0 : decode cX12_rain 0 = .ok (.aload_n 0, 1) := by decide +kernel
theorem dX12_rain_1 : decode cX12_rain 1 = .ok (.iconst 0, 1) := by decide +kernel
theorem dX12_rain_2 : decode cX12_rain 2 = .ok (.putfield 154, 3) := by decide +kernel
theorem dX12_rain_5 : decode cX12_rain 5 = .ok (.aload_n 0, 1) := by decide +kernel
theorem dX12_rain_6 : decode cX12_rain 6 = .ok (.iload_n 1, 1) := by decide +kernel
theorem dX12_rain_7 : decode cX12_rain 7 = .ok (.putfield 285, 3) := by decide +kernel
theorem dX12_rain_10 : decode cX12_rain 10 = .ok (.iconst 0, 1) := by decide +kernel
theorem dX12_rain_11 : decode cX12_rain 11 = .ok (.istore_n 2, 1) := by decide +kernel
theorem dX12_rain_12 : decode cX12_rain 12 = .ok (.iconst 0, 1) := by decide +kernel
theorem dX12_rain_13 : decode cX12_rain 13 = .ok (.istore_n 3, 1) := by decide +kernel
theorem dX12_rain_14 : decode cX12_rain 14 = .ok (.iload_n 3, 1) := by decide +kernel
theorem dX12_rain_15 : decode cX12_rain 15 = .ok (.aload_n 0, 1) := by decide +kernel
theorem dX12_rain_16 : decode cX12_rain 16 = .ok (.getfield 250, 3) := by decide +kernel
theorem dX12_rain_19 : decode cX12_rain 19 = .ok (.if_icmp .ge 25, 3) := by decide +kernel
theorem dX12_rain_22 : decode cX12_rain 22 = .ok (.iload_n 2, 1) := by decide +kernel
theorem dX12_rain_23 : decode cX12_rain 23 = .ok (.aload_n 0, 1) := by decide +kernel
theorem dX12_rain_24 : decode cX12_rain 24 = .ok (.iload_n 3, 1) := by decide +kernel
theorem dX12_rain_25 : decode cX12_rain 25 = .ok (.invokevirtual 423, 3) := by decide +kernel
theorem dX12_rain_28 : decode cX12_rain 28 = .ok (.ifCond .eq 7, 3) := by decide +kernel
theorem dX12_rain_31 : decode cX12_rain 31 = .ok (.iconst 1, 1) := by decide +kernel
theorem dX12_rain_32 : decode cX12_rain 32 = .ok (.goto 4, 3) := by decide +kernel
theorem dX12_rain_35 : decode cX12_rain 35 = .ok (.iconst 0, 1) := by decide +kernel
theorem dX12_rain_36 : decode cX12_rain 36 = .ok (.iadd, 1) := by decide +kernel
theorem dX12_rain_37 : decode cX12_rain 37 = .ok (.istore_n 2, 1) := by decide +kernel
theorem dX12_rain_38 : decode cX12_rain 38 = .ok (.iinc 3 1, 3) := by decide +kernel
theorem dX12_rain_41 : decode cX12_rain 41 = .ok (.goto (-27), 3) := by decide +kernel
theorem dX12_rain_44 : decode cX12_rain 44 = .ok (.iload_n 2, 1) := by decide +kernel
theorem dX12_rain_45 : decode cX12_rain 45 = .ok (.ireturn, 1) := by decide +kernel
theorem dX12_spot_0 : decode cX12_spot 0 = .ok (.sipush 2501, 3) := by decide +kernel
theorem dX12_spot_3 : decode cX12_spot 3 = .ok (.iload_n 0, 1) := by decide +kernel
theorem dX12_spot_4 : decode cX12_spot 4 = .ok (.imul, 1) := by decide +kernel
theorem dX12_spot_5 : decode cX12_spot 5 = .ok (.bipush 41, 2) := by decide +kernel
theorem dX12_spot_7 : decode cX12_spot 7 = .ok (.iload_n 1, 1) := by decide +kernel
theorem dX12_spot_8 : decode cX12_spot 8 = .ok (.imul, 1) := by decide +kernel
theorem dX12_spot_9 : decode cX12_spot 9 = .ok (.iadd, 1) := by decide +kernel
theorem dX12_spot_10 : decode cX12_spot 10 = .ok (.iload_n 2, 1) := by decide +kernel
theorem dX12_spot_11 : decode cX12_spot 11 = .ok (.iadd, 1) := by decide +kernel
theorem dX12_spot_12 : decode cX12_spot 12 = .ok (.ireturn, 1) := by decide +kernel
theorem dX12_through_0 : decode cX12_through 0 = .ok (.aload_n 0, 1) := by decide +kernel
theorem dX12_through_1 : decode cX12_through 1 = .ok (.iload 4, 2) := by decide +kernel
theorem dX12_through_3 : decode cX12_through 3 = .ok (.putfield 417, 3) := by decide +kernel
theorem dX12_through_6 : decode cX12_through 6 = .ok (.aload_n 0, 1) := by decide +kernel
theorem dX12_through_7 : decode cX12_through 7 = .ok (.iload 5, 2) := by decide +kernel
theorem dX12_through_9 : decode cX12_through 9 = .ok (.putfield 420, 3) := by decide +kernel
theorem dX12_through_12 : decode cX12_through 12 = .ok (.aload_n 0, 1) := by decide +kernel
theorem dX12_through_13 : decode cX12_through 13 = .ok (.iconst 0, 1) := by decide +kernel
theorem dX12_through_14 : decode cX12_through 14 = .ok (.putfield 441, 3) := by decide +kernel
theorem dX12_through_17 : decode cX12_through 17 = .ok (.iconst 0, 1) := by decide +kernel
theorem dX12_through_18 : decode cX12_through 18 = .ok (.istore 6, 2) := by decide +kernel
theorem dX12_through_20 : decode cX12_through 20 = .ok (.iload 6, 2) := by decide +kernel
theorem dX12_through_22 : decode cX12_through 22 = .ok (.aload_n 0, 1) := by decide +kernel
theorem dX12_through_23 : decode cX12_through 23 = .ok (.getfield 23, 3) := by decide +kernel
theorem dX12_through_26 : decode cX12_through 26 = .ok (.iload_n 1, 1) := by decide +kernel
theorem dX12_through_27 : decode cX12_through 27 = .ok (.iaload, 1) := by decide +kernel
theorem dX12_through_28 : decode cX12_through 28 = .ok (.if_icmp .ge 25, 3) := by decide +kernel
theorem dX12_through_31 : decode cX12_through 31 = .ok (.aload_n 0, 1) := by decide +kernel
theorem dX12_through_32 : decode cX12_through 32 = .ok (.iload_n 1, 1) := by decide +kernel
theorem dX12_through_33 : decode cX12_through 33 = .ok (.iload_n 2, 1) := by decide +kernel
theorem dX12_through_34 : decode cX12_through 34 = .ok (.iload_n 3, 1) := by decide +kernel
theorem dX12_through_35 : decode cX12_through 35 = .ok (.invokevirtual 470, 3) := by decide +kernel
theorem dX12_through_38 : decode cX12_through 38 = .ok (.aload_n 0, 1) := by decide +kernel
theorem dX12_through_39 : decode cX12_through 39 = .ok (.getfield 420, 3) := by decide +kernel
theorem dX12_through_42 : decode cX12_through 42 = .ok (.ifCond .ne 5, 3) := by decide +kernel
theorem dX12_through_45 : decode cX12_through 45 = .ok (.iconst 0, 1) := by decide +kernel
theorem dX12_through_46 : decode cX12_through 46 = .ok (.ireturn, 1) := by decide +kernel
theorem dX12_through_47 : decode cX12_through 47 = .ok (.iinc 6 1, 3) := by decide +kernel
theorem dX12_through_50 : decode cX12_through 50 = .ok (.goto (-30), 3) := by decide +kernel
theorem dX12_through_53 : decode cX12_through 53 = .ok (.iconst 1, 1) := by decide +kernel
theorem dX12_through_54 : decode cX12_through 54 = .ok (.ireturn, 1) := by decide +kernel
theorem dX12_layReached_0 : decode cX12_layReached 0 = .ok (.iconst 0, 1) := by decide +kernel
theorem dX12_layReached_1 : decode cX12_layReached 1 = .ok (.istore_n 3, 1) := by decide +kernel
theorem dX12_layReached_2 : decode cX12_layReached 2 = .ok (.iload_n 3, 1) := by decide +kernel
theorem dX12_layReached_3 : decode cX12_layReached 3 = .ok (.sipush 17507, 3) := by decide +kernel
theorem dX12_layReached_6 : decode cX12_layReached 6 = .ok (.if_icmp .ge 16, 3) := by decide +kernel
theorem dX12_layReached_9 : decode cX12_layReached 9 = .ok (.aload_n 0, 1) := by decide +kernel
theorem dX12_layReached_10 : decode cX12_layReached 10 = .ok (.getfield 118, 3) := by decide +kernel
theorem dX12_layReached_13 : decode cX12_layReached 13 = .ok (.iload_n 3, 1) := by decide +kernel
theorem dX12_layReached_14 : decode cX12_layReached 14 = .ok (.iconst 0, 1) := by decide +kernel
theorem dX12_layReached_15 : decode cX12_layReached 15 = .ok (.bastore, 1) := by decide +kernel
theorem dX12_layReached_16 : decode cX12_layReached 16 = .ok (.iinc 3 1, 3) := by decide +kernel
theorem dX12_layReached_19 : decode cX12_layReached 19 = .ok (.goto (-17), 3) := by decide +kernel
theorem dX12_layReached_22 : decode cX12_layReached 22 = .ok (.aload_n 0, 1) := by decide +kernel
theorem dX12_layReached_23 : decode cX12_layReached 23 = .ok (.getfield 118, 3) := by decide +kernel
theorem dX12_layReached_26 : decode cX12_layReached 26 = .ok (.iconst 0, 1) := by decide +kernel
theorem dX12_layReached_27 : decode cX12_layReached 27 = .ok (.aload_n 0, 1) := by decide +kernel
theorem dX12_layReached_28 : decode cX12_layReached 28 = .ok (.getfield 417, 3) := by decide +kernel
theorem dX12_layReached_31 : decode cX12_layReached 31 = .ok (.aload_n 0, 1) := by decide +kernel
theorem dX12_layReached_32 : decode cX12_layReached 32 = .ok (.getfield 420, 3) := by decide +kernel
theorem dX12_layReached_35 : decode cX12_layReached 35 = .ok (.invokestatic 517, 3) := by decide +kernel
theorem dX12_layReached_38 : decode cX12_layReached 38 = .ok (.iconst 1, 1) := by decide +kernel
theorem dX12_layReached_39 : decode cX12_layReached 39 = .ok (.bastore, 1) := by decide +kernel
theorem dX12_layReached_40 : decode cX12_layReached 40 = .ok (.iconst 0, 1) := by decide +kernel
theorem dX12_layReached_41 : decode cX12_layReached 41 = .ok (.istore_n 3, 1) := by decide +kernel
theorem dX12_layReached_42 : decode cX12_layReached 42 = .ok (.iload_n 3, 1) := by decide +kernel
theorem dX12_layReached_43 : decode cX12_layReached 43 = .ok (.aload_n 0, 1) := by decide +kernel
theorem dX12_layReached_44 : decode cX12_layReached 44 = .ok (.getfield 250, 3) := by decide +kernel
theorem dX12_layReached_47 : decode cX12_layReached 47 = .ok (.if_icmp .ge 119, 3) := by decide +kernel
theorem dX12_layReached_50 : decode cX12_layReached 50 = .ok (.iconst 0, 1) := by decide +kernel
theorem dX12_layReached_51 : decode cX12_layReached 51 = .ok (.istore 4, 2) := by decide +kernel
theorem dX12_layReached_53 : decode cX12_layReached 53 = .ok (.iload 4, 2) := by decide +kernel
theorem dX12_layReached_55 : decode cX12_layReached 55 = .ok (.sipush 2501, 3) := by decide +kernel
theorem dX12_layReached_58 : decode cX12_layReached 58 = .ok (.if_icmp .ge 102, 3) := by decide +kernel
theorem dX12_layReached_61 : decode cX12_layReached 61 = .ok (.aload_n 0, 1) := by decide +kernel
theorem dX12_layReached_62 : decode cX12_layReached 62 = .ok (.getfield 118, 3) := by decide +kernel
theorem dX12_layReached_65 : decode cX12_layReached 65 = .ok (.sipush 2501, 3) := by decide +kernel
theorem dX12_layReached_68 : decode cX12_layReached 68 = .ok (.iload_n 3, 1) := by decide +kernel
theorem dX12_layReached_69 : decode cX12_layReached 69 = .ok (.imul, 1) := by decide +kernel
theorem dX12_layReached_70 : decode cX12_layReached 70 = .ok (.iload 4, 2) := by decide +kernel
theorem dX12_layReached_72 : decode cX12_layReached 72 = .ok (.iadd, 1) := by decide +kernel
theorem dX12_layReached_73 : decode cX12_layReached 73 = .ok (.baload, 1) := by decide +kernel
theorem dX12_layReached_74 : decode cX12_layReached 74 = .ok (.ifCond .ne 6, 3) := by decide +kernel
theorem dX12_layReached_77 : decode cX12_layReached 77 = .ok (.goto 77, 3) := by decide +kernel
theorem dX12_layReached_80 : decode cX12_layReached 80 = .ok (.iconst 1, 1) := by decide +kernel
theorem dX12_layReached_81 : decode cX12_layReached 81 = .ok (.istore 5, 2) := by decide +kernel
theorem dX12_layReached_83 : decode cX12_layReached 83 = .ok (.iload 5, 2) := by decide +kernel
theorem dX12_layReached_85 : decode cX12_layReached 85 = .ok (.bipush 10, 2) := by decide +kernel
theorem dX12_layReached_87 : decode cX12_layReached 87 = .ok (.if_icmp .ge 67, 3) := by decide +kernel
theorem dX12_layReached_90 : decode cX12_layReached 90 = .ok (.iload_n 3, 1) := by decide +kernel
theorem dX12_layReached_91 : decode cX12_layReached 91 = .ok (.ifCond .ne 16, 3) := by decide +kernel
theorem dX12_layReached_94 : decode cX12_layReached 94 = .ok (.iload_n 2, 1) := by decide +kernel
theorem dX12_layReached_95 : decode cX12_layReached 95 = .ok (.ifCond .le 12, 3) := by decide +kernel
theorem dX12_layReached_98 : decode cX12_layReached 98 = .ok (.iload 5, 2) := by decide +kernel
theorem dX12_layReached_100 : decode cX12_layReached 100 = .ok (.iload_n 2, 1) := by decide +kernel
theorem dX12_layReached_101 : decode cX12_layReached 101 = .ok (.if_icmp .eq 6, 3) := by decide +kernel
theorem dX12_layReached_104 : decode cX12_layReached 104 = .ok (.goto 44, 3) := by decide +kernel
theorem dX12_layReached_107 : decode cX12_layReached 107 = .ok (.aload_n 0, 1) := by decide +kernel
theorem dX12_layReached_108 : decode cX12_layReached 108 = .ok (.iload_n 3, 1) := by decide +kernel
theorem dX12_layReached_109 : decode cX12_layReached 109 = .ok (.iload_n 1, 1) := by decide +kernel
theorem dX12_layReached_110 : decode cX12_layReached 110 = .ok (.iload 5, 2) := by decide +kernel
theorem dX12_layReached_112 : decode cX12_layReached 112 = .ok (.iload 4, 2) := by decide +kernel
theorem dX12_layReached_114 : decode cX12_layReached 114 = .ok (.bipush 41, 2) := by decide +kernel
theorem dX12_layReached_116 : decode cX12_layReached 116 = .ok (.idiv, 1) := by decide +kernel
theorem dX12_layReached_117 : decode cX12_layReached 117 = .ok (.iload 4, 2) := by decide +kernel
theorem dX12_layReached_119 : decode cX12_layReached 119 = .ok (.bipush 41, 2) := by decide +kernel
theorem dX12_layReached_121 : decode cX12_layReached 121 = .ok (.irem, 1) := by decide +kernel
theorem dX12_layReached_122 : decode cX12_layReached 122 = .ok (.invokevirtual 521, 3) := by decide +kernel
theorem dX12_layReached_125 : decode cX12_layReached 125 = .ok (.ifCond .eq 23, 3) := by decide +kernel
theorem dX12_layReached_128 : decode cX12_layReached 128 = .ok (.aload_n 0, 1) := by decide +kernel
theorem dX12_layReached_129 : decode cX12_layReached 129 = .ok (.getfield 118, 3) := by decide +kernel
theorem dX12_layReached_132 : decode cX12_layReached 132 = .ok (.iload_n 3, 1) := by decide +kernel
theorem dX12_layReached_133 : decode cX12_layReached 133 = .ok (.iconst 1, 1) := by decide +kernel
theorem dX12_layReached_134 : decode cX12_layReached 134 = .ok (.iadd, 1) := by decide +kernel
theorem dX12_layReached_135 : decode cX12_layReached 135 = .ok (.aload_n 0, 1) := by decide +kernel
theorem dX12_layReached_136 : decode cX12_layReached 136 = .ok (.getfield 417, 3) := by decide +kernel
theorem dX12_layReached_139 : decode cX12_layReached 139 = .ok (.aload_n 0, 1) := by decide +kernel
theorem dX12_layReached_140 : decode cX12_layReached 140 = .ok (.getfield 420, 3) := by decide +kernel
theorem dX12_layReached_143 : decode cX12_layReached 143 = .ok (.invokestatic 517, 3) := by decide +kernel
theorem dX12_layReached_146 : decode cX12_layReached 146 = .ok (.iconst 1, 1) := by decide +kernel
theorem dX12_layReached_147 : decode cX12_layReached 147 = .ok (.bastore, 1) := by decide +kernel
theorem dX12_layReached_148 : decode cX12_layReached 148 = .ok (.iinc 5 1, 3) := by decide +kernel
theorem dX12_layReached_151 : decode cX12_layReached 151 = .ok (.goto (-68), 3) := by decide +kernel
theorem dX12_layReached_154 : decode cX12_layReached 154 = .ok (.iinc 4 1, 3) := by decide +kernel
theorem dX12_layReached_157 : decode cX12_layReached 157 = .ok (.goto (-104), 3) := by decide +kernel
theorem dX12_layReached_160 : decode cX12_layReached 160 = .ok (.iinc 3 1, 3) := by decide +kernel
theorem dX12_layReached_163 : decode cX12_layReached 163 = .ok (.goto (-121), 3) := by decide +kernel
theorem dX12_layReached_166 : decode cX12_layReached 166 = .ok (.return_, 1) := by decide +kernel
theorem dX12_layLeast_0 : decode cX12_layLeast 0 = .ok (.iconst 0, 1) := by decide +kernel
theorem dX12_layLeast_1 : decode cX12_layLeast 1 = .ok (.istore_n 3, 1) := by decide +kernel
theorem dX12_layLeast_2 : decode cX12_layLeast 2 = .ok (.iload_n 3, 1) := by decide +kernel
theorem dX12_layLeast_3 : decode cX12_layLeast 3 = .ok (.sipush 2501, 3) := by decide +kernel
theorem dX12_layLeast_6 : decode cX12_layLeast 6 = .ok (.if_icmp .ge 25, 3) := by decide +kernel
theorem dX12_layLeast_9 : decode cX12_layLeast 9 = .ok (.aload_n 0, 1) := by decide +kernel
theorem dX12_layLeast_10 : decode cX12_layLeast 10 = .ok (.getfield 121, 3) := by decide +kernel
theorem dX12_layLeast_13 : decode cX12_layLeast 13 = .ok (.sipush 2501, 3) := by decide +kernel
theorem dX12_layLeast_16 : decode cX12_layLeast 16 = .ok (.aload_n 0, 1) := by decide +kernel
theorem dX12_layLeast_17 : decode cX12_layLeast 17 = .ok (.getfield 250, 3) := by decide +kernel
theorem dX12_layLeast_20 : decode cX12_layLeast 20 = .ok (.imul, 1) := by decide +kernel
theorem dX12_layLeast_21 : decode cX12_layLeast 21 = .ok (.iload_n 3, 1) := by decide +kernel
theorem dX12_layLeast_22 : decode cX12_layLeast 22 = .ok (.iadd, 1) := by decide +kernel
theorem dX12_layLeast_23 : decode cX12_layLeast 23 = .ok (.iconst 0, 1) := by decide +kernel
theorem dX12_layLeast_24 : decode cX12_layLeast 24 = .ok (.iastore, 1) := by decide +kernel
theorem dX12_layLeast_25 : decode cX12_layLeast 25 = .ok (.iinc 3 1, 3) := by decide +kernel
theorem dX12_layLeast_28 : decode cX12_layLeast 28 = .ok (.goto (-26), 3) := by decide +kernel
theorem dX12_layLeast_31 : decode cX12_layLeast 31 = .ok (.aload_n 0, 1) := by decide +kernel
theorem dX12_layLeast_32 : decode cX12_layLeast 32 = .ok (.getfield 250, 3) := by decide +kernel
theorem dX12_layLeast_35 : decode cX12_layLeast 35 = .ok (.iconst 1, 1) := by decide +kernel
theorem dX12_layLeast_36 : decode cX12_layLeast 36 = .ok (.isub, 1) := by decide +kernel
theorem dX12_layLeast_37 : decode cX12_layLeast 37 = .ok (.istore_n 3, 1) := by decide +kernel
theorem dX12_layLeast_38 : decode cX12_layLeast 38 = .ok (.iload_n 3, 1) := by decide +kernel
theorem dX12_layLeast_39 : decode cX12_layLeast 39 = .ok (.ifCond .lt 200, 3) := by decide +kernel
theorem dX12_layLeast_42 : decode cX12_layLeast 42 = .ok (.iconst 0, 1) := by decide +kernel
theorem dX12_layLeast_43 : decode cX12_layLeast 43 = .ok (.istore 4, 2) := by decide +kernel
theorem dX12_layLeast_45 : decode cX12_layLeast 45 = .ok (.iload 4, 2) := by decide +kernel
theorem dX12_layLeast_47 : decode cX12_layLeast 47 = .ok (.sipush 2501, 3) := by decide +kernel
theorem dX12_layLeast_50 : decode cX12_layLeast 50 = .ok (.if_icmp .ge 183, 3) := by decide +kernel
theorem dX12_layLeast_53 : decode cX12_layLeast 53 = .ok (.aload_n 0, 1) := by decide +kernel
theorem dX12_layLeast_54 : decode cX12_layLeast 54 = .ok (.getfield 121, 3) := by decide +kernel
theorem dX12_layLeast_57 : decode cX12_layLeast 57 = .ok (.sipush 2501, 3) := by decide +kernel
theorem dX12_layLeast_60 : decode cX12_layLeast 60 = .ok (.iload_n 3, 1) := by decide +kernel
theorem dX12_layLeast_61 : decode cX12_layLeast 61 = .ok (.imul, 1) := by decide +kernel
theorem dX12_layLeast_62 : decode cX12_layLeast 62 = .ok (.iload 4, 2) := by decide +kernel
theorem dX12_layLeast_64 : decode cX12_layLeast 64 = .ok (.iadd, 1) := by decide +kernel
theorem dX12_layLeast_65 : decode cX12_layLeast 65 = .ok (.ldc 192, 2) := by decide +kernel
theorem dX12_layLeast_67 : decode cX12_layLeast 67 = .ok (.iastore, 1) := by decide +kernel
theorem dX12_layLeast_68 : decode cX12_layLeast 68 = .ok (.iconst 1, 1) := by decide +kernel
theorem dX12_layLeast_69 : decode cX12_layLeast 69 = .ok (.istore 5, 2) := by decide +kernel
theorem dX12_layLeast_71 : decode cX12_layLeast 71 = .ok (.iload 5, 2) := by decide +kernel
theorem dX12_layLeast_73 : decode cX12_layLeast 73 = .ok (.bipush 10, 2) := by decide +kernel
theorem dX12_layLeast_75 : decode cX12_layLeast 75 = .ok (.if_icmp .ge 152, 3) := by decide +kernel
theorem dX12_layLeast_78 : decode cX12_layLeast 78 = .ok (.aload_n 0, 1) := by decide +kernel
theorem dX12_layLeast_79 : decode cX12_layLeast 79 = .ok (.getfield 118, 3) := by decide +kernel
theorem dX12_layLeast_82 : decode cX12_layLeast 82 = .ok (.sipush 2501, 3) := by decide +kernel
theorem dX12_layLeast_85 : decode cX12_layLeast 85 = .ok (.iload_n 3, 1) := by decide +kernel
theorem dX12_layLeast_86 : decode cX12_layLeast 86 = .ok (.imul, 1) := by decide +kernel
theorem dX12_layLeast_87 : decode cX12_layLeast 87 = .ok (.iload 4, 2) := by decide +kernel
theorem dX12_layLeast_89 : decode cX12_layLeast 89 = .ok (.iadd, 1) := by decide +kernel
theorem dX12_layLeast_90 : decode cX12_layLeast 90 = .ok (.baload, 1) := by decide +kernel
theorem dX12_layLeast_91 : decode cX12_layLeast 91 = .ok (.ifCond .eq 136, 3) := by decide +kernel
theorem dX12_layLeast_94 : decode cX12_layLeast 94 = .ok (.iload_n 3, 1) := by decide +kernel
theorem dX12_layLeast_95 : decode cX12_layLeast 95 = .ok (.ifCond .ne 13, 3) := by decide +kernel
theorem dX12_layLeast_98 : decode cX12_layLeast 98 = .ok (.iload_n 2, 1) := by decide +kernel
theorem dX12_layLeast_99 : decode cX12_layLeast 99 = .ok (.ifCond .le 9, 3) := by decide +kernel
theorem dX12_layLeast_102 : decode cX12_layLeast 102 = .ok (.iload 5, 2) := by decide +kernel
theorem dX12_layLeast_104 : decode cX12_layLeast 104 = .ok (.iload_n 2, 1) := by decide +kernel
theorem dX12_layLeast_105 : decode cX12_layLeast 105 = .ok (.if_icmp .ne 116, 3) := by decide +kernel
theorem dX12_layLeast_108 : decode cX12_layLeast 108 = .ok (.aload_n 0, 1) := by decide +kernel
theorem dX12_layLeast_109 : decode cX12_layLeast 109 = .ok (.iload_n 3, 1) := by decide +kernel
theorem dX12_layLeast_110 : decode cX12_layLeast 110 = .ok (.iload_n 1, 1) := by decide +kernel
theorem dX12_layLeast_111 : decode cX12_layLeast 111 = .ok (.iload 5, 2) := by decide +kernel
theorem dX12_layLeast_113 : decode cX12_layLeast 113 = .ok (.iload 4, 2) := by decide +kernel
theorem dX12_layLeast_115 : decode cX12_layLeast 115 = .ok (.bipush 41, 2) := by decide +kernel
theorem dX12_layLeast_117 : decode cX12_layLeast 117 = .ok (.idiv, 1) := by decide +kernel
theorem dX12_layLeast_118 : decode cX12_layLeast 118 = .ok (.iload 4, 2) := by decide +kernel
theorem dX12_layLeast_120 : decode cX12_layLeast 120 = .ok (.bipush 41, 2) := by decide +kernel
theorem dX12_layLeast_122 : decode cX12_layLeast 122 = .ok (.irem, 1) := by decide +kernel
theorem dX12_layLeast_123 : decode cX12_layLeast 123 = .ok (.invokevirtual 521, 3) := by decide +kernel
theorem dX12_layLeast_126 : decode cX12_layLeast 126 = .ok (.ifCond .ne 6, 3) := by decide +kernel
theorem dX12_layLeast_129 : decode cX12_layLeast 129 = .ok (.goto 92, 3) := by decide +kernel
theorem dX12_layLeast_132 : decode cX12_layLeast 132 = .ok (.aload_n 0, 1) := by decide +kernel
theorem dX12_layLeast_133 : decode cX12_layLeast 133 = .ok (.getfield 121, 3) := by decide +kernel
theorem dX12_layLeast_136 : decode cX12_layLeast 136 = .ok (.iload_n 3, 1) := by decide +kernel
theorem dX12_layLeast_137 : decode cX12_layLeast 137 = .ok (.iconst 1, 1) := by decide +kernel
theorem dX12_layLeast_138 : decode cX12_layLeast 138 = .ok (.iadd, 1) := by decide +kernel
theorem dX12_layLeast_139 : decode cX12_layLeast 139 = .ok (.aload_n 0, 1) := by decide +kernel
theorem dX12_layLeast_140 : decode cX12_layLeast 140 = .ok (.getfield 417, 3) := by decide +kernel
theorem dX12_layLeast_143 : decode cX12_layLeast 143 = .ok (.aload_n 0, 1) := by decide +kernel
theorem dX12_layLeast_144 : decode cX12_layLeast 144 = .ok (.getfield 420, 3) := by decide +kernel
theorem dX12_layLeast_147 : decode cX12_layLeast 147 = .ok (.invokestatic 517, 3) := by decide +kernel
theorem dX12_layLeast_150 : decode cX12_layLeast 150 = .ok (.iaload, 1) := by decide +kernel
theorem dX12_layLeast_151 : decode cX12_layLeast 151 = .ok (.istore 6, 2) := by decide +kernel
theorem dX12_layLeast_153 : decode cX12_layLeast 153 = .ok (.iload 6, 2) := by decide +kernel
theorem dX12_layLeast_155 : decode cX12_layLeast 155 = .ok (.ldc 192, 2) := by decide +kernel
theorem dX12_layLeast_157 : decode cX12_layLeast 157 = .ok (.if_icmp .eq 64, 3) := by decide +kernel
theorem dX12_layLeast_160 : decode cX12_layLeast 160 = .ok (.aload_n 0, 1) := by decide +kernel
theorem dX12_layLeast_161 : decode cX12_layLeast 161 = .ok (.getfield 441, 3) := by decide +kernel
theorem dX12_layLeast_164 : decode cX12_layLeast 164 = .ok (.iload 6, 2) := by decide +kernel
theorem dX12_layLeast_166 : decode cX12_layLeast 166 = .ok (.iadd, 1) := by decide +kernel
theorem dX12_layLeast_167 : decode cX12_layLeast 167 = .ok (.aload_n 0, 1) := by decide +kernel
theorem dX12_layLeast_168 : decode cX12_layLeast 168 = .ok (.getfield 121, 3) := by decide +kernel
theorem dX12_layLeast_171 : decode cX12_layLeast 171 = .ok (.sipush 2501, 3) := by decide +kernel
theorem dX12_layLeast_174 : decode cX12_layLeast 174 = .ok (.iload_n 3, 1) := by decide +kernel
theorem dX12_layLeast_175 : decode cX12_layLeast 175 = .ok (.imul, 1) := by decide +kernel
theorem dX12_layLeast_176 : decode cX12_layLeast 176 = .ok (.iload 4, 2) := by decide +kernel
theorem dX12_layLeast_178 : decode cX12_layLeast 178 = .ok (.iadd, 1) := by decide +kernel
theorem dX12_layLeast_179 : decode cX12_layLeast 179 = .ok (.iaload, 1) := by decide +kernel
theorem dX12_layLeast_180 : decode cX12_layLeast 180 = .ok (.if_icmp .lt 6, 3) := by decide +kernel
theorem dX12_layLeast_183 : decode cX12_layLeast 183 = .ok (.goto 38, 3) := by decide +kernel
theorem dX12_layLeast_186 : decode cX12_layLeast 186 = .ok (.aload_n 0, 1) := by decide +kernel
theorem dX12_layLeast_187 : decode cX12_layLeast 187 = .ok (.getfield 121, 3) := by decide +kernel
theorem dX12_layLeast_190 : decode cX12_layLeast 190 = .ok (.sipush 2501, 3) := by decide +kernel
theorem dX12_layLeast_193 : decode cX12_layLeast 193 = .ok (.iload_n 3, 1) := by decide +kernel
theorem dX12_layLeast_194 : decode cX12_layLeast 194 = .ok (.imul, 1) := by decide +kernel
theorem dX12_layLeast_195 : decode cX12_layLeast 195 = .ok (.iload 4, 2) := by decide +kernel
theorem dX12_layLeast_197 : decode cX12_layLeast 197 = .ok (.iadd, 1) := by decide +kernel
theorem dX12_layLeast_198 : decode cX12_layLeast 198 = .ok (.aload_n 0, 1) := by decide +kernel
theorem dX12_layLeast_199 : decode cX12_layLeast 199 = .ok (.getfield 441, 3) := by decide +kernel
theorem dX12_layLeast_202 : decode cX12_layLeast 202 = .ok (.iload 6, 2) := by decide +kernel
theorem dX12_layLeast_204 : decode cX12_layLeast 204 = .ok (.iadd, 1) := by decide +kernel
theorem dX12_layLeast_205 : decode cX12_layLeast 205 = .ok (.iastore, 1) := by decide +kernel
theorem dX12_layLeast_206 : decode cX12_layLeast 206 = .ok (.aload_n 0, 1) := by decide +kernel
theorem dX12_layLeast_207 : decode cX12_layLeast 207 = .ok (.getfield 124, 3) := by decide +kernel
theorem dX12_layLeast_210 : decode cX12_layLeast 210 = .ok (.sipush 2501, 3) := by decide +kernel
theorem dX12_layLeast_213 : decode cX12_layLeast 213 = .ok (.iload_n 3, 1) := by decide +kernel
theorem dX12_layLeast_214 : decode cX12_layLeast 214 = .ok (.imul, 1) := by decide +kernel
theorem dX12_layLeast_215 : decode cX12_layLeast 215 = .ok (.iload 4, 2) := by decide +kernel
theorem dX12_layLeast_217 : decode cX12_layLeast 217 = .ok (.iadd, 1) := by decide +kernel
theorem dX12_layLeast_218 : decode cX12_layLeast 218 = .ok (.iload 5, 2) := by decide +kernel
theorem dX12_layLeast_220 : decode cX12_layLeast 220 = .ok (.iastore, 1) := by decide +kernel
theorem dX12_layLeast_221 : decode cX12_layLeast 221 = .ok (.iinc 5 1, 3) := by decide +kernel
theorem dX12_layLeast_224 : decode cX12_layLeast 224 = .ok (.goto (-153), 3) := by decide +kernel
theorem dX12_layLeast_227 : decode cX12_layLeast 227 = .ok (.iinc 4 1, 3) := by decide +kernel
theorem dX12_layLeast_230 : decode cX12_layLeast 230 = .ok (.goto (-185), 3) := by decide +kernel
theorem dX12_layLeast_233 : decode cX12_layLeast 233 = .ok (.iinc 3 (-1), 3) := by decide +kernel
theorem dX12_layLeast_236 : decode cX12_layLeast 236 = .ok (.goto (-198), 3) := by decide +kernel
theorem dX12_layLeast_239 : decode cX12_layLeast 239 = .ok (.return_, 1) := by decide +kernel
theorem dX12_bestFrom_0 : decode cX12_bestFrom 0 = .ok (.aload_n 0, 1) := by decide +kernel
theorem dX12_bestFrom_1 : decode cX12_bestFrom 1 = .ok (.getfield 417, 3) := by decide +kernel
theorem dX12_bestFrom_4 : decode cX12_bestFrom 4 = .ok (.istore_n 3, 1) := by decide +kernel
theorem dX12_bestFrom_5 : decode cX12_bestFrom 5 = .ok (.aload_n 0, 1) := by decide +kernel
theorem dX12_bestFrom_6 : decode cX12_bestFrom 6 = .ok (.getfield 420, 3) := by decide +kernel
theorem dX12_bestFrom_9 : decode cX12_bestFrom 9 = .ok (.istore 4, 2) := by decide +kernel
theorem dX12_bestFrom_11 : decode cX12_bestFrom 11 = .ok (.aload_n 0, 1) := by decide +kernel
theorem dX12_bestFrom_12 : decode cX12_bestFrom 12 = .ok (.iload_n 1, 1) := by decide +kernel
theorem dX12_bestFrom_13 : decode cX12_bestFrom 13 = .ok (.iload_n 2, 1) := by decide +kernel
theorem dX12_bestFrom_14 : decode cX12_bestFrom 14 = .ok (.invokevirtual 525, 3) := by decide +kernel
theorem dX12_bestFrom_17 : decode cX12_bestFrom 17 = .ok (.aload_n 0, 1) := by decide +kernel
theorem dX12_bestFrom_18 : decode cX12_bestFrom 18 = .ok (.iload_n 1, 1) := by decide +kernel
theorem dX12_bestFrom_19 : decode cX12_bestFrom 19 = .ok (.iload_n 2, 1) := by decide +kernel
theorem dX12_bestFrom_20 : decode cX12_bestFrom 20 = .ok (.invokevirtual 528, 3) := by decide +kernel
theorem dX12_bestFrom_23 : decode cX12_bestFrom 23 = .ok (.aload_n 0, 1) := by decide +kernel
theorem dX12_bestFrom_24 : decode cX12_bestFrom 24 = .ok (.getfield 121, 3) := by decide +kernel
theorem dX12_bestFrom_27 : decode cX12_bestFrom 27 = .ok (.iconst 0, 1) := by decide +kernel
theorem dX12_bestFrom_28 : decode cX12_bestFrom 28 = .ok (.iload_n 3, 1) := by decide +kernel
theorem dX12_bestFrom_29 : decode cX12_bestFrom 29 = .ok (.iload 4, 2) := by decide +kernel
theorem dX12_bestFrom_31 : decode cX12_bestFrom 31 = .ok (.invokestatic 517, 3) := by decide +kernel
theorem dX12_bestFrom_34 : decode cX12_bestFrom 34 = .ok (.iaload, 1) := by decide +kernel
theorem dX12_bestFrom_35 : decode cX12_bestFrom 35 = .ok (.ireturn, 1) := by decide +kernel
theorem dX12_bestOf_0 : decode cX12_bestOf 0 = .ok (.aload_n 0, 1) := by decide +kernel
theorem dX12_bestOf_1 : decode cX12_bestOf 1 = .ok (.iload_n 1, 1) := by decide +kernel
theorem dX12_bestOf_2 : decode cX12_bestOf 2 = .ok (.invokevirtual 467, 3) := by decide +kernel
theorem dX12_bestOf_5 : decode cX12_bestOf 5 = .ok (.aload_n 0, 1) := by decide +kernel
theorem dX12_bestOf_6 : decode cX12_bestOf 6 = .ok (.iload_n 2, 1) := by decide +kernel
theorem dX12_bestOf_7 : decode cX12_bestOf 7 = .ok (.iload_n 3, 1) := by decide +kernel
theorem dX12_bestOf_8 : decode cX12_bestOf 8 = .ok (.invokevirtual 531, 3) := by decide +kernel
theorem dX12_bestOf_11 : decode cX12_bestOf 11 = .ok (.ireturn, 1) := by decide +kernel
theorem dX12_told_0 : decode cX12_told 0 = .ok (.iload_n 0, 1) := by decide +kernel
theorem dX12_told_1 : decode cX12_told 1 = .ok (.ldc 192, 2) := by decide +kernel
theorem dX12_told_3 : decode cX12_told 3 = .ok (.if_icmp .ne 8, 3) := by decide +kernel
theorem dX12_told_6 : decode cX12_told 6 = .ok (.bipush (-2), 2) := by decide +kernel
theorem dX12_told_8 : decode cX12_told 8 = .ok (.goto 4, 3) := by decide +kernel
theorem dX12_told_11 : decode cX12_told 11 = .ok (.iload_n 0, 1) := by decide +kernel
theorem dX12_told_12 : decode cX12_told 12 = .ok (.ireturn, 1) := by decide +kernel
theorem dX12_best_0 : decode cX12_best 0 = .ok (.aload_n 0, 1) := by decide +kernel
theorem dX12_best_1 : decode cX12_best 1 = .ok (.iconst 0, 1) := by decide +kernel
theorem dX12_best_2 : decode cX12_best 2 = .ok (.putfield 154, 3) := by decide +kernel
theorem dX12_best_5 : decode cX12_best 5 = .ok (.aload_n 0, 1) := by decide +kernel
theorem dX12_best_6 : decode cX12_best 6 = .ok (.iload_n 1, 1) := by decide +kernel
theorem dX12_best_7 : decode cX12_best 7 = .ok (.invokevirtual 462, 3) := by decide +kernel
theorem dX12_best_10 : decode cX12_best 10 = .ok (.ifCond .eq 24, 3) := by decide +kernel
theorem dX12_best_13 : decode cX12_best 13 = .ok (.aload_n 0, 1) := by decide +kernel
theorem dX12_best_14 : decode cX12_best 14 = .ok (.iload_n 2, 1) := by decide +kernel
theorem dX12_best_15 : decode cX12_best 15 = .ok (.invokevirtual 514, 3) := by decide +kernel
theorem dX12_best_18 : decode cX12_best 18 = .ok (.ifCond .eq 16, 3) := by decide +kernel
theorem dX12_best_21 : decode cX12_best 21 = .ok (.aload_n 0, 1) := by decide +kernel
theorem dX12_best_22 : decode cX12_best 22 = .ok (.iload_n 1, 1) := by decide +kernel
theorem dX12_best_23 : decode cX12_best 23 = .ok (.iload_n 2, 1) := by decide +kernel
theorem dX12_best_24 : decode cX12_best 24 = .ok (.iconst 0, 1) := by decide +kernel
theorem dX12_best_25 : decode cX12_best 25 = .ok (.invokevirtual 534, 3) := by decide +kernel
theorem dX12_best_28 : decode cX12_best 28 = .ok (.invokestatic 537, 3) := by decide +kernel
theorem dX12_best_31 : decode cX12_best 31 = .ok (.goto 4, 3) := by decide +kernel
theorem dX12_best_34 : decode cX12_best 34 = .ok (.iconst (-1), 1) := by decide +kernel
theorem dX12_best_35 : decode cX12_best 35 = .ok (.ireturn, 1) := by decide +kernel
theorem dX12_paces_0 : decode cX12_paces 0 = .ok (.aload_n 0, 1) := by decide +kernel
theorem dX12_paces_1 : decode cX12_paces 1 = .ok (.iconst 0, 1) := by decide +kernel
theorem dX12_paces_2 : decode cX12_paces 2 = .ok (.putfield 154, 3) := by decide +kernel
theorem dX12_paces_5 : decode cX12_paces 5 = .ok (.aload_n 0, 1) := by decide +kernel
theorem dX12_paces_6 : decode cX12_paces 6 = .ok (.iload_n 1, 1) := by decide +kernel
theorem dX12_paces_7 : decode cX12_paces 7 = .ok (.invokevirtual 462, 3) := by decide +kernel
theorem dX12_paces_10 : decode cX12_paces 10 = .ok (.ifCond .eq 19, 3) := by decide +kernel
theorem dX12_paces_13 : decode cX12_paces 13 = .ok (.aload_n 0, 1) := by decide +kernel
theorem dX12_paces_14 : decode cX12_paces 14 = .ok (.iload_n 2, 1) := by decide +kernel
theorem dX12_paces_15 : decode cX12_paces 15 = .ok (.invokevirtual 514, 3) := by decide +kernel
theorem dX12_paces_18 : decode cX12_paces 18 = .ok (.ifCond .eq 11, 3) := by decide +kernel
theorem dX12_paces_21 : decode cX12_paces 21 = .ok (.aload_n 0, 1) := by decide +kernel
theorem dX12_paces_22 : decode cX12_paces 22 = .ok (.iload_n 3, 1) := by decide +kernel
theorem dX12_paces_23 : decode cX12_paces 23 = .ok (.invokevirtual 450, 3) := by decide +kernel
theorem dX12_paces_26 : decode cX12_paces 26 = .ok (.ifCond .ne 5, 3) := by decide +kernel
theorem dX12_paces_29 : decode cX12_paces 29 = .ok (.iconst (-1), 1) := by decide +kernel
theorem dX12_paces_30 : decode cX12_paces 30 = .ok (.ireturn, 1) := by decide +kernel
theorem dX12_paces_31 : decode cX12_paces 31 = .ok (.aload_n 0, 1) := by decide +kernel
theorem dX12_paces_32 : decode cX12_paces 32 = .ok (.iload_n 1, 1) := by decide +kernel
theorem dX12_paces_33 : decode cX12_paces 33 = .ok (.iload_n 2, 1) := by decide +kernel
theorem dX12_paces_34 : decode cX12_paces 34 = .ok (.iconst 0, 1) := by decide +kernel
theorem dX12_paces_35 : decode cX12_paces 35 = .ok (.invokevirtual 534, 3) := by decide +kernel
theorem dX12_paces_38 : decode cX12_paces 38 = .ok (.ldc 192, 2) := by decide +kernel
theorem dX12_paces_40 : decode cX12_paces 40 = .ok (.if_icmp .ne 6, 3) := by decide +kernel
theorem dX12_paces_43 : decode cX12_paces 43 = .ok (.bipush (-2), 2) := by decide +kernel
theorem dX12_paces_45 : decode cX12_paces 45 = .ok (.ireturn, 1) := by decide +kernel
theorem dX12_paces_46 : decode cX12_paces 46 = .ok (.aload_n 0, 1) := by decide +kernel
theorem dX12_paces_47 : decode cX12_paces 47 = .ok (.getfield 39, 3) := by decide +kernel
theorem dX12_paces_50 : decode cX12_paces 50 = .ok (.iload_n 1, 1) := by decide +kernel
theorem dX12_paces_51 : decode cX12_paces 51 = .ok (.iaload, 1) := by decide +kernel
theorem dX12_paces_52 : decode cX12_paces 52 = .ok (.istore 4, 2) := by decide +kernel
theorem dX12_paces_54 : decode cX12_paces 54 = .ok (.aload_n 0, 1) := by decide +kernel
theorem dX12_paces_55 : decode cX12_paces 55 = .ok (.getfield 42, 3) := by decide +kernel
theorem dX12_paces_58 : decode cX12_paces 58 = .ok (.iload_n 1, 1) := by decide +kernel
theorem dX12_paces_59 : decode cX12_paces 59 = .ok (.iaload, 1) := by decide +kernel
theorem dX12_paces_60 : decode cX12_paces 60 = .ok (.istore 5, 2) := by decide +kernel
theorem dX12_paces_62 : decode cX12_paces 62 = .ok (.iconst 0, 1) := by decide +kernel
theorem dX12_paces_63 : decode cX12_paces 63 = .ok (.istore 6, 2) := by decide +kernel
theorem dX12_paces_65 : decode cX12_paces 65 = .ok (.iload 6, 2) := by decide +kernel
theorem dX12_paces_67 : decode cX12_paces 67 = .ok (.iload_n 3, 1) := by decide +kernel
theorem dX12_paces_68 : decode cX12_paces 68 = .ok (.if_icmp .ge 47, 3) := by decide +kernel
theorem dX12_paces_71 : decode cX12_paces 71 = .ok (.aload_n 0, 1) := by decide +kernel
theorem dX12_paces_72 : decode cX12_paces 72 = .ok (.iload 6, 2) := by decide +kernel
theorem dX12_paces_74 : decode cX12_paces 74 = .ok (.iload_n 2, 1) := by decide +kernel
theorem dX12_paces_75 : decode cX12_paces 75 = .ok (.aload_n 0, 1) := by decide +kernel
theorem dX12_paces_76 : decode cX12_paces 76 = .ok (.getfield 124, 3) := by decide +kernel
theorem dX12_paces_79 : decode cX12_paces 79 = .ok (.iload 6, 2) := by decide +kernel
theorem dX12_paces_81 : decode cX12_paces 81 = .ok (.iload 4, 2) := by decide +kernel
theorem dX12_paces_83 : decode cX12_paces 83 = .ok (.iload 5, 2) := by decide +kernel
theorem dX12_paces_85 : decode cX12_paces 85 = .ok (.invokestatic 517, 3) := by decide +kernel
theorem dX12_paces_88 : decode cX12_paces 88 = .ok (.iaload, 1) := by decide +kernel
theorem dX12_paces_89 : decode cX12_paces 89 = .ok (.iload 4, 2) := by decide +kernel
theorem dX12_paces_91 : decode cX12_paces 91 = .ok (.iload 5, 2) := by decide +kernel
theorem dX12_paces_93 : decode cX12_paces 93 = .ok (.invokevirtual 521, 3) := by decide +kernel
theorem dX12_paces_96 : decode cX12_paces 96 = .ok (.pop, 1) := by decide +kernel
theorem dX12_paces_97 : decode cX12_paces 97 = .ok (.aload_n 0, 1) := by decide +kernel
theorem dX12_paces_98 : decode cX12_paces 98 = .ok (.getfield 417, 3) := by decide +kernel
theorem dX12_paces_101 : decode cX12_paces 101 = .ok (.istore 4, 2) := by decide +kernel
theorem dX12_paces_103 : decode cX12_paces 103 = .ok (.aload_n 0, 1) := by decide +kernel
theorem dX12_paces_104 : decode cX12_paces 104 = .ok (.getfield 420, 3) := by decide +kernel
theorem dX12_paces_107 : decode cX12_paces 107 = .ok (.istore 5, 2) := by decide +kernel
theorem dX12_paces_109 : decode cX12_paces 109 = .ok (.iinc 6 1, 3) := by decide +kernel
theorem dX12_paces_112 : decode cX12_paces 112 = .ok (.goto (-47), 3) := by decide +kernel
theorem dX12_paces_115 : decode cX12_paces 115 = .ok (.aload_n 0, 1) := by decide +kernel
theorem dX12_paces_116 : decode cX12_paces 116 = .ok (.getfield 124, 3) := by decide +kernel
theorem dX12_paces_119 : decode cX12_paces 119 = .ok (.iload_n 3, 1) := by decide +kernel
theorem dX12_paces_120 : decode cX12_paces 120 = .ok (.iload 4, 2) := by decide +kernel
theorem dX12_paces_122 : decode cX12_paces 122 = .ok (.iload 5, 2) := by decide +kernel
theorem dX12_paces_124 : decode cX12_paces 124 = .ok (.invokestatic 517, 3) := by decide +kernel
theorem dX12_paces_127 : decode cX12_paces 127 = .ok (.iaload, 1) := by decide +kernel
theorem dX12_paces_128 : decode cX12_paces 128 = .ok (.ireturn, 1) := by decide +kernel
theorem dX12_quick_0 : decode cX12_quick 0 = .ok (.aload_n 0, 1) := by decide +kernel
theorem dX12_quick_1 : decode cX12_quick 1 = .ok (.iconst 0, 1) := by decide +kernel
theorem dX12_quick_2 : decode cX12_quick 2 = .ok (.putfield 154, 3) := by decide +kernel
theorem dX12_quick_5 : decode cX12_quick 5 = .ok (.aload_n 0, 1) := by decide +kernel
theorem dX12_quick_6 : decode cX12_quick 6 = .ok (.iload_n 1, 1) := by decide +kernel
theorem dX12_quick_7 : decode cX12_quick 7 = .ok (.invokevirtual 462, 3) := by decide +kernel
theorem dX12_quick_10 : decode cX12_quick 10 = .ok (.ifCond .eq 28, 3) := by decide +kernel
theorem dX12_quick_13 : decode cX12_quick 13 = .ok (.aload_n 0, 1) := by decide +kernel
theorem dX12_quick_14 : decode cX12_quick 14 = .ok (.iload_n 2, 1) := by decide +kernel
theorem dX12_quick_15 : decode cX12_quick 15 = .ok (.invokevirtual 514, 3) := by decide +kernel
theorem dX12_quick_18 : decode cX12_quick 18 = .ok (.ifCond .eq 20, 3) := by decide +kernel
theorem dX12_quick_21 : decode cX12_quick 21 = .ok (.iload_n 3, 1) := by decide +kernel
theorem dX12_quick_22 : decode cX12_quick 22 = .ok (.iconst 1, 1) := by decide +kernel
theorem dX12_quick_23 : decode cX12_quick 23 = .ok (.bipush 9, 2) := by decide +kernel
theorem dX12_quick_25 : decode cX12_quick 25 = .ok (.invokestatic 199, 3) := by decide +kernel
theorem dX12_quick_28 : decode cX12_quick 28 = .ok (.ifCond .eq 10, 3) := by decide +kernel
theorem dX12_quick_31 : decode cX12_quick 31 = .ok (.aload_n 0, 1) := by decide +kernel
theorem dX12_quick_32 : decode cX12_quick 32 = .ok (.getfield 250, 3) := by decide +kernel
theorem dX12_quick_35 : decode cX12_quick 35 = .ok (.ifCond .ne 5, 3) := by decide +kernel
theorem dX12_quick_38 : decode cX12_quick 38 = .ok (.iconst (-1), 1) := by decide +kernel
theorem dX12_quick_39 : decode cX12_quick 39 = .ok (.ireturn, 1) := by decide +kernel
theorem dX12_quick_40 : decode cX12_quick 40 = .ok (.aload_n 0, 1) := by decide +kernel
theorem dX12_quick_41 : decode cX12_quick 41 = .ok (.iload_n 1, 1) := by decide +kernel
theorem dX12_quick_42 : decode cX12_quick 42 = .ok (.iload_n 2, 1) := by decide +kernel
theorem dX12_quick_43 : decode cX12_quick 43 = .ok (.iconst 0, 1) := by decide +kernel
theorem dX12_quick_44 : decode cX12_quick 44 = .ok (.invokevirtual 534, 3) := by decide +kernel
theorem dX12_quick_47 : decode cX12_quick 47 = .ok (.istore 4, 2) := by decide +kernel
theorem dX12_quick_49 : decode cX12_quick 49 = .ok (.aload_n 0, 1) := by decide +kernel
theorem dX12_quick_50 : decode cX12_quick 50 = .ok (.iload_n 1, 1) := by decide +kernel
theorem dX12_quick_51 : decode cX12_quick 51 = .ok (.iload_n 2, 1) := by decide +kernel
theorem dX12_quick_52 : decode cX12_quick 52 = .ok (.iload_n 3, 1) := by decide +kernel
theorem dX12_quick_53 : decode cX12_quick 53 = .ok (.invokevirtual 534, 3) := by decide +kernel
theorem dX12_quick_56 : decode cX12_quick 56 = .ok (.istore 5, 2) := by decide +kernel
theorem dX12_quick_58 : decode cX12_quick 58 = .ok (.iload 4, 2) := by decide +kernel
theorem dX12_quick_60 : decode cX12_quick 60 = .ok (.ldc 192, 2) := by decide +kernel
theorem dX12_quick_62 : decode cX12_quick 62 = .ok (.if_icmp .eq 10, 3) := by decide +kernel
theorem dX12_quick_65 : decode cX12_quick 65 = .ok (.iload 5, 2) := by decide +kernel
theorem dX12_quick_67 : decode cX12_quick 67 = .ok (.ldc 192, 2) := by decide +kernel
theorem dX12_quick_69 : decode cX12_quick 69 = .ok (.if_icmp .ne 8, 3) := by decide +kernel
theorem dX12_quick_72 : decode cX12_quick 72 = .ok (.bipush (-2), 2) := by decide +kernel
theorem dX12_quick_74 : decode cX12_quick 74 = .ok (.goto 8, 3) := by decide +kernel
theorem dX12_quick_77 : decode cX12_quick 77 = .ok (.iload 5, 2) := by decide +kernel
theorem dX12_quick_79 : decode cX12_quick 79 = .ok (.iload 4, 2) := by decide +kernel
theorem dX12_quick_81 : decode cX12_quick 81 = .ok (.isub, 1) := by decide +kernel
theorem dX12_quick_82 : decode cX12_quick 82 = .ok (.ireturn, 1) := by decide +kernel
theorem dX12_steady_0 : decode cX12_steady 0 = .ok (.aload_n 0, 1) := by decide +kernel
theorem dX12_steady_1 : decode cX12_steady 1 = .ok (.iload_n 1, 1) := by decide +kernel
theorem dX12_steady_2 : decode cX12_steady 2 = .ok (.invokevirtual 467, 3) := by decide +kernel
theorem dX12_steady_5 : decode cX12_steady 5 = .ok (.aload_n 0, 1) := by decide +kernel
theorem dX12_steady_6 : decode cX12_steady 6 = .ok (.iload 4, 2) := by decide +kernel
theorem dX12_steady_8 : decode cX12_steady 8 = .ok (.putfield 417, 3) := by decide +kernel
theorem dX12_steady_11 : decode cX12_steady 11 = .ok (.aload_n 0, 1) := by decide +kernel
theorem dX12_steady_12 : decode cX12_steady 12 = .ok (.iload 4, 2) := by decide +kernel
theorem dX12_steady_14 : decode cX12_steady 14 = .ok (.putfield 444, 3) := by decide +kernel
theorem dX12_steady_17 : decode cX12_steady 17 = .ok (.iconst 0, 1) := by decide +kernel
theorem dX12_steady_18 : decode cX12_steady 18 = .ok (.istore 5, 2) := by decide +kernel
theorem dX12_steady_20 : decode cX12_steady 20 = .ok (.iload 5, 2) := by decide +kernel
theorem dX12_steady_22 : decode cX12_steady 22 = .ok (.aload_n 0, 1) := by decide +kernel
theorem dX12_steady_23 : decode cX12_steady 23 = .ok (.getfield 250, 3) := by decide +kernel
theorem dX12_steady_26 : decode cX12_steady 26 = .ok (.if_icmp .ge 48, 3) := by decide +kernel
theorem dX12_steady_29 : decode cX12_steady 29 = .ok (.iconst 0, 1) := by decide +kernel
theorem dX12_steady_30 : decode cX12_steady 30 = .ok (.istore 6, 2) := by decide +kernel
theorem dX12_steady_32 : decode cX12_steady 32 = .ok (.iload 6, 2) := by decide +kernel
theorem dX12_steady_34 : decode cX12_steady 34 = .ok (.aload_n 0, 1) := by decide +kernel
theorem dX12_steady_35 : decode cX12_steady 35 = .ok (.getfield 23, 3) := by decide +kernel
theorem dX12_steady_38 : decode cX12_steady 38 = .ok (.iload 5, 2) := by decide +kernel
theorem dX12_steady_40 : decode cX12_steady 40 = .ok (.iaload, 1) := by decide +kernel
theorem dX12_steady_41 : decode cX12_steady 41 = .ok (.if_icmp .ge 27, 3) := by decide +kernel
theorem dX12_steady_44 : decode cX12_steady 44 = .ok (.aload_n 0, 1) := by decide +kernel
theorem dX12_steady_45 : decode cX12_steady 45 = .ok (.iload 5, 2) := by decide +kernel
theorem dX12_steady_47 : decode cX12_steady 47 = .ok (.iload_n 2, 1) := by decide +kernel
theorem dX12_steady_48 : decode cX12_steady 48 = .ok (.iload_n 3, 1) := by decide +kernel
theorem dX12_steady_49 : decode cX12_steady 49 = .ok (.invokevirtual 470, 3) := by decide +kernel
theorem dX12_steady_52 : decode cX12_steady 52 = .ok (.aload_n 0, 1) := by decide +kernel
theorem dX12_steady_53 : decode cX12_steady 53 = .ok (.getfield 420, 3) := by decide +kernel
theorem dX12_steady_56 : decode cX12_steady 56 = .ok (.ifCond .ne 6, 3) := by decide +kernel
theorem dX12_steady_59 : decode cX12_steady 59 = .ok (.ldc 192, 2) := by decide +kernel
theorem dX12_steady_61 : decode cX12_steady 61 = .ok (.ireturn, 1) := by decide +kernel
theorem dX12_steady_62 : decode cX12_steady 62 = .ok (.iinc 6 1, 3) := by decide +kernel
theorem dX12_steady_65 : decode cX12_steady 65 = .ok (.goto (-33), 3) := by decide +kernel
theorem dX12_steady_68 : decode cX12_steady 68 = .ok (.iinc 5 1, 3) := by decide +kernel
theorem dX12_steady_71 : decode cX12_steady 71 = .ok (.goto (-51), 3) := by decide +kernel
theorem dX12_steady_74 : decode cX12_steady 74 = .ok (.aload_n 0, 1) := by decide +kernel
theorem dX12_steady_75 : decode cX12_steady 75 = .ok (.getfield 441, 3) := by decide +kernel
theorem dX12_steady_78 : decode cX12_steady 78 = .ok (.ireturn, 1) := by decide +kernel
theorem dX12_safe_0 : decode cX12_safe 0 = .ok (.aload_n 0, 1) := by decide +kernel
theorem dX12_safe_1 : decode cX12_safe 1 = .ok (.iconst 0, 1) := by decide +kernel
theorem dX12_safe_2 : decode cX12_safe 2 = .ok (.putfield 154, 3) := by decide +kernel
theorem dX12_safe_5 : decode cX12_safe 5 = .ok (.aload_n 0, 1) := by decide +kernel
theorem dX12_safe_6 : decode cX12_safe 6 = .ok (.iload_n 1, 1) := by decide +kernel
theorem dX12_safe_7 : decode cX12_safe 7 = .ok (.invokevirtual 462, 3) := by decide +kernel
theorem dX12_safe_10 : decode cX12_safe 10 = .ok (.ifCond .eq 35, 3) := by decide +kernel
theorem dX12_safe_13 : decode cX12_safe 13 = .ok (.aload_n 0, 1) := by decide +kernel
theorem dX12_safe_14 : decode cX12_safe 14 = .ok (.iload_n 2, 1) := by decide +kernel
theorem dX12_safe_15 : decode cX12_safe 15 = .ok (.invokevirtual 514, 3) := by decide +kernel
theorem dX12_safe_18 : decode cX12_safe 18 = .ok (.ifCond .eq 27, 3) := by decide +kernel
theorem dX12_safe_21 : decode cX12_safe 21 = .ok (.iload_n 3, 1) := by decide +kernel
theorem dX12_safe_22 : decode cX12_safe 22 = .ok (.iconst 1, 1) := by decide +kernel
theorem dX12_safe_23 : decode cX12_safe 23 = .ok (.aload_n 0, 1) := by decide +kernel
theorem dX12_safe_24 : decode cX12_safe 24 = .ok (.getfield 39, 3) := by decide +kernel
theorem dX12_safe_27 : decode cX12_safe 27 = .ok (.iload_n 1, 1) := by decide +kernel
theorem dX12_safe_28 : decode cX12_safe 28 = .ok (.iaload, 1) := by decide +kernel
theorem dX12_safe_29 : decode cX12_safe 29 = .ok (.invokestatic 199, 3) := by decide +kernel
theorem dX12_safe_32 : decode cX12_safe 32 = .ok (.ifCond .eq 13, 3) := by decide +kernel
theorem dX12_safe_35 : decode cX12_safe 35 = .ok (.iload 4, 2) := by decide +kernel
theorem dX12_safe_37 : decode cX12_safe 37 = .ok (.iconst 0, 1) := by decide +kernel
theorem dX12_safe_38 : decode cX12_safe 38 = .ok (.iconst 1, 1) := by decide +kernel
theorem dX12_safe_39 : decode cX12_safe 39 = .ok (.invokestatic 199, 3) := by decide +kernel
theorem dX12_safe_42 : decode cX12_safe 42 = .ok (.ifCond .ne 5, 3) := by decide +kernel
theorem dX12_safe_45 : decode cX12_safe 45 = .ok (.iconst (-1), 1) := by decide +kernel
theorem dX12_safe_46 : decode cX12_safe 46 = .ok (.ireturn, 1) := by decide +kernel
theorem dX12_safe_47 : decode cX12_safe 47 = .ok (.bipush (-2), 2) := by decide +kernel
theorem dX12_safe_49 : decode cX12_safe 49 = .ok (.istore 5, 2) := by decide +kernel
theorem dX12_safe_51 : decode cX12_safe 51 = .ok (.ldc 192, 2) := by decide +kernel
theorem dX12_safe_53 : decode cX12_safe 53 = .ok (.istore 6, 2) := by decide +kernel
theorem dX12_safe_55 : decode cX12_safe 55 = .ok (.iconst 1, 1) := by decide +kernel
theorem dX12_safe_56 : decode cX12_safe 56 = .ok (.istore 7, 2) := by decide +kernel
theorem dX12_safe_58 : decode cX12_safe 58 = .ok (.iload 7, 2) := by decide +kernel
theorem dX12_safe_60 : decode cX12_safe 60 = .ok (.bipush 10, 2) := by decide +kernel
theorem dX12_safe_62 : decode cX12_safe 62 = .ok (.if_icmp .ge 103, 3) := by decide +kernel
theorem dX12_safe_65 : decode cX12_safe 65 = .ok (.iconst 1, 1) := by decide +kernel
theorem dX12_safe_66 : decode cX12_safe 66 = .ok (.istore 8, 2) := by decide +kernel
theorem dX12_safe_68 : decode cX12_safe 68 = .ok (.iload_n 3, 1) := by decide +kernel
theorem dX12_safe_69 : decode cX12_safe 69 = .ok (.istore 9, 2) := by decide +kernel
theorem dX12_safe_71 : decode cX12_safe 71 = .ok (.iload 9, 2) := by decide +kernel
theorem dX12_safe_73 : decode cX12_safe 73 = .ok (.aload_n 0, 1) := by decide +kernel
theorem dX12_safe_74 : decode cX12_safe 74 = .ok (.getfield 39, 3) := by decide +kernel
theorem dX12_safe_77 : decode cX12_safe 77 = .ok (.iload_n 1, 1) := by decide +kernel
theorem dX12_safe_78 : decode cX12_safe 78 = .ok (.iaload, 1) := by decide +kernel
theorem dX12_safe_79 : decode cX12_safe 79 = .ok (.if_icmp .ge 36, 3) := by decide +kernel
theorem dX12_safe_82 : decode cX12_safe 82 = .ok (.iload 8, 2) := by decide +kernel
theorem dX12_safe_84 : decode cX12_safe 84 = .ok (.ifCond .eq 31, 3) := by decide +kernel
theorem dX12_safe_87 : decode cX12_safe 87 = .ok (.aload_n 0, 1) := by decide +kernel
theorem dX12_safe_88 : decode cX12_safe 88 = .ok (.iload_n 1, 1) := by decide +kernel
theorem dX12_safe_89 : decode cX12_safe 89 = .ok (.iload_n 2, 1) := by decide +kernel
theorem dX12_safe_90 : decode cX12_safe 90 = .ok (.iload 7, 2) := by decide +kernel
theorem dX12_safe_92 : decode cX12_safe 92 = .ok (.iload 9, 2) := by decide +kernel
theorem dX12_safe_94 : decode cX12_safe 94 = .ok (.invokevirtual 540, 3) := by decide +kernel
theorem dX12_safe_97 : decode cX12_safe 97 = .ok (.ldc 192, 2) := by decide +kernel
theorem dX12_safe_99 : decode cX12_safe 99 = .ok (.if_icmp .ge 7, 3) := by decide +kernel
theorem dX12_safe_102 : decode cX12_safe 102 = .ok (.iconst 1, 1) := by decide +kernel
theorem dX12_safe_103 : decode cX12_safe 103 = .ok (.goto 4, 3) := by decide +kernel
theorem dX12_safe_106 : decode cX12_safe 106 = .ok (.iconst 0, 1) := by decide +kernel
theorem dX12_safe_107 : decode cX12_safe 107 = .ok (.istore 8, 2) := by decide +kernel
theorem dX12_safe_109 : decode cX12_safe 109 = .ok (.iinc 9 1, 3) := by decide +kernel
theorem dX12_safe_112 : decode cX12_safe 112 = .ok (.goto (-41), 3) := by decide +kernel
theorem dX12_safe_115 : decode cX12_safe 115 = .ok (.iload 8, 2) := by decide +kernel
theorem dX12_safe_117 : decode cX12_safe 117 = .ok (.ifCond .eq 20, 3) := by decide +kernel
theorem dX12_safe_120 : decode cX12_safe 120 = .ok (.aload_n 0, 1) := by decide +kernel
theorem dX12_safe_121 : decode cX12_safe 121 = .ok (.iload_n 1, 1) := by decide +kernel
theorem dX12_safe_122 : decode cX12_safe 122 = .ok (.iload_n 2, 1) := by decide +kernel
theorem dX12_safe_123 : decode cX12_safe 123 = .ok (.iload 7, 2) := by decide +kernel
theorem dX12_safe_125 : decode cX12_safe 125 = .ok (.aload_n 0, 1) := by decide +kernel
theorem dX12_safe_126 : decode cX12_safe 126 = .ok (.getfield 39, 3) := by decide +kernel
theorem dX12_safe_129 : decode cX12_safe 129 = .ok (.iload_n 1, 1) := by decide +kernel
theorem dX12_safe_130 : decode cX12_safe 130 = .ok (.iaload, 1) := by decide +kernel
theorem dX12_safe_131 : decode cX12_safe 131 = .ok (.invokevirtual 540, 3) := by decide +kernel
theorem dX12_safe_134 : decode cX12_safe 134 = .ok (.goto 5, 3) := by decide +kernel
theorem dX12_safe_137 : decode cX12_safe 137 = .ok (.ldc 192, 2) := by decide +kernel
theorem dX12_safe_139 : decode cX12_safe 139 = .ok (.istore 9, 2) := by decide +kernel
theorem dX12_safe_141 : decode cX12_safe 141 = .ok (.iload 9, 2) := by decide +kernel
theorem dX12_safe_143 : decode cX12_safe 143 = .ok (.iload 6, 2) := by decide +kernel
theorem dX12_safe_145 : decode cX12_safe 145 = .ok (.if_icmp .lt 6, 3) := by decide +kernel
theorem dX12_safe_148 : decode cX12_safe 148 = .ok (.goto 11, 3) := by decide +kernel
theorem dX12_safe_151 : decode cX12_safe 151 = .ok (.iload 9, 2) := by decide +kernel
theorem dX12_safe_153 : decode cX12_safe 153 = .ok (.istore 6, 2) := by decide +kernel
theorem dX12_safe_155 : decode cX12_safe 155 = .ok (.iload 7, 2) := by decide +kernel
theorem dX12_safe_157 : decode cX12_safe 157 = .ok (.istore 5, 2) := by decide +kernel
theorem dX12_safe_159 : decode cX12_safe 159 = .ok (.iinc 7 1, 3) := by decide +kernel
theorem dX12_safe_162 : decode cX12_safe 162 = .ok (.goto (-104), 3) := by decide +kernel
theorem dX12_safe_165 : decode cX12_safe 165 = .ok (.iload 5, 2) := by decide +kernel
theorem dX12_safe_167 : decode cX12_safe 167 = .ok (.ifCond .ge 8, 3) := by decide +kernel
theorem dX12_safe_170 : decode cX12_safe 170 = .ok (.bipush (-2), 2) := by decide +kernel
theorem dX12_safe_172 : decode cX12_safe 172 = .ok (.goto 15, 3) := by decide +kernel
theorem dX12_safe_175 : decode cX12_safe 175 = .ok (.iload 4, 2) := by decide +kernel
theorem dX12_safe_177 : decode cX12_safe 177 = .ok (.ifCond .ne 8, 3) := by decide +kernel
theorem dX12_safe_180 : decode cX12_safe 180 = .ok (.iload 5, 2) := by decide +kernel
theorem dX12_safe_182 : decode cX12_safe 182 = .ok (.goto 5, 3) := by decide +kernel
theorem dX12_safe_185 : decode cX12_safe 185 = .ok (.iload 6, 2) := by decide +kernel
theorem dX12_safe_187 : decode cX12_safe 187 = .ok (.ireturn, 1) := by decide +kernel
theorem dX12_held_0 : decode cX12_held 0 = .ok (.aload_n 0, 1) := by decide +kernel
theorem dX12_held_1 : decode cX12_held 1 = .ok (.iconst 0, 1) := by decide +kernel
theorem dX12_held_2 : decode cX12_held 2 = .ok (.putfield 154, 3) := by decide +kernel
theorem dX12_held_5 : decode cX12_held 5 = .ok (.aload_n 0, 1) := by decide +kernel
theorem dX12_held_6 : decode cX12_held 6 = .ok (.iload_n 1, 1) := by decide +kernel
theorem dX12_held_7 : decode cX12_held 7 = .ok (.invokevirtual 462, 3) := by decide +kernel
theorem dX12_held_10 : decode cX12_held 10 = .ok (.ifCond .eq 19, 3) := by decide +kernel
theorem dX12_held_13 : decode cX12_held 13 = .ok (.aload_n 0, 1) := by decide +kernel
theorem dX12_held_14 : decode cX12_held 14 = .ok (.getfield 256, 3) := by decide +kernel
theorem dX12_held_17 : decode cX12_held 17 = .ok (.ifCond .eq 12, 3) := by decide +kernel
theorem dX12_held_20 : decode cX12_held 20 = .ok (.iload_n 2, 1) := by decide +kernel
theorem dX12_held_21 : decode cX12_held 21 = .ok (.iconst 0, 1) := by decide +kernel
theorem dX12_held_22 : decode cX12_held 22 = .ok (.iconst 1, 1) := by decide +kernel
theorem dX12_held_23 : decode cX12_held 23 = .ok (.invokestatic 199, 3) := by decide +kernel
theorem dX12_held_26 : decode cX12_held 26 = .ok (.ifCond .ne 5, 3) := by decide +kernel
theorem dX12_held_29 : decode cX12_held 29 = .ok (.iconst (-1), 1) := by decide +kernel
theorem dX12_held_30 : decode cX12_held 30 = .ok (.ireturn, 1) := by decide +kernel
theorem dX12_held_31 : decode cX12_held 31 = .ok (.iconst (-1), 1) := by decide +kernel
theorem dX12_held_32 : decode cX12_held 32 = .ok (.istore_n 3, 1) := by decide +kernel
theorem dX12_held_33 : decode cX12_held 33 = .ok (.ldc 192, 2) := by decide +kernel
theorem dX12_held_35 : decode cX12_held 35 = .ok (.istore 4, 2) := by decide +kernel
theorem dX12_held_37 : decode cX12_held 37 = .ok (.iconst 0, 1) := by decide +kernel
theorem dX12_held_38 : decode cX12_held 38 = .ok (.istore 5, 2) := by decide +kernel
theorem dX12_held_40 : decode cX12_held 40 = .ok (.iload 5, 2) := by decide +kernel
theorem dX12_held_42 : decode cX12_held 42 = .ok (.aload_n 0, 1) := by decide +kernel
theorem dX12_held_43 : decode cX12_held 43 = .ok (.getfield 256, 3) := by decide +kernel
theorem dX12_held_46 : decode cX12_held 46 = .ok (.if_icmp .ge 36, 3) := by decide +kernel
theorem dX12_held_49 : decode cX12_held 49 = .ok (.aload_n 0, 1) := by decide +kernel
theorem dX12_held_50 : decode cX12_held 50 = .ok (.iload_n 1, 1) := by decide +kernel
theorem dX12_held_51 : decode cX12_held 51 = .ok (.iload 5, 2) := by decide +kernel
theorem dX12_held_53 : decode cX12_held 53 = .ok (.iconst 0, 1) := by decide +kernel
theorem dX12_held_54 : decode cX12_held 54 = .ok (.invokevirtual 534, 3) := by decide +kernel
theorem dX12_held_57 : decode cX12_held 57 = .ok (.istore 6, 2) := by decide +kernel
theorem dX12_held_59 : decode cX12_held 59 = .ok (.iload 6, 2) := by decide +kernel
theorem dX12_held_61 : decode cX12_held 61 = .ok (.iload 4, 2) := by decide +kernel
theorem dX12_held_63 : decode cX12_held 63 = .ok (.if_icmp .lt 6, 3) := by decide +kernel
theorem dX12_held_66 : decode cX12_held 66 = .ok (.goto 10, 3) := by decide +kernel
theorem dX12_held_69 : decode cX12_held 69 = .ok (.iload 6, 2) := by decide +kernel
theorem dX12_held_71 : decode cX12_held 71 = .ok (.istore 4, 2) := by decide +kernel
theorem dX12_held_73 : decode cX12_held 73 = .ok (.iload 5, 2) := by decide +kernel
theorem dX12_held_75 : decode cX12_held 75 = .ok (.istore_n 3, 1) := by decide +kernel
theorem dX12_held_76 : decode cX12_held 76 = .ok (.iinc 5 1, 3) := by decide +kernel
theorem dX12_held_79 : decode cX12_held 79 = .ok (.goto (-39), 3) := by decide +kernel
theorem dX12_held_82 : decode cX12_held 82 = .ok (.iload_n 3, 1) := by decide +kernel
theorem dX12_held_83 : decode cX12_held 83 = .ok (.ifCond .ge 8, 3) := by decide +kernel
theorem dX12_held_86 : decode cX12_held 86 = .ok (.bipush (-2), 2) := by decide +kernel
theorem dX12_held_88 : decode cX12_held 88 = .ok (.goto 13, 3) := by decide +kernel
theorem dX12_held_91 : decode cX12_held 91 = .ok (.iload_n 2, 1) := by decide +kernel
theorem dX12_held_92 : decode cX12_held 92 = .ok (.ifCond .ne 7, 3) := by decide +kernel
theorem dX12_held_95 : decode cX12_held 95 = .ok (.iload_n 3, 1) := by decide +kernel
theorem dX12_held_96 : decode cX12_held 96 = .ok (.goto 5, 3) := by decide +kernel
theorem dX12_held_99 : decode cX12_held 99 = .ok (.iload 4, 2) := by decide +kernel
theorem dX12_held_101 : decode cX12_held 101 = .ok (.ireturn, 1) := by decide +kernel
theorem dX12_weighed_0 : decode cX12_weighed 0 = .ok (.aload_n 0, 1) := by decide +kernel
theorem dX12_weighed_1 : decode cX12_weighed 1 = .ok (.iconst 0, 1) := by decide +kernel
theorem dX12_weighed_2 : decode cX12_weighed 2 = .ok (.putfield 154, 3) := by decide +kernel
theorem dX12_weighed_5 : decode cX12_weighed 5 = .ok (.aload_n 0, 1) := by decide +kernel
theorem dX12_weighed_6 : decode cX12_weighed 6 = .ok (.iload_n 1, 1) := by decide +kernel
theorem dX12_weighed_7 : decode cX12_weighed 7 = .ok (.invokevirtual 462, 3) := by decide +kernel
theorem dX12_weighed_10 : decode cX12_weighed 10 = .ok (.ifCond .eq 31, 3) := by decide +kernel
theorem dX12_weighed_13 : decode cX12_weighed 13 = .ok (.aload_n 0, 1) := by decide +kernel
theorem dX12_weighed_14 : decode cX12_weighed 14 = .ok (.iload_n 2, 1) := by decide +kernel
theorem dX12_weighed_15 : decode cX12_weighed 15 = .ok (.invokevirtual 514, 3) := by decide +kernel
theorem dX12_weighed_18 : decode cX12_weighed 18 = .ok (.ifCond .eq 23, 3) := by decide +kernel
theorem dX12_weighed_21 : decode cX12_weighed 21 = .ok (.iload_n 3, 1) := by decide +kernel
theorem dX12_weighed_22 : decode cX12_weighed 22 = .ok (.iconst 0, 1) := by decide +kernel
theorem dX12_weighed_23 : decode cX12_weighed 23 = .ok (.bipush 10, 2) := by decide +kernel
theorem dX12_weighed_25 : decode cX12_weighed 25 = .ok (.invokestatic 199, 3) := by decide +kernel
theorem dX12_weighed_28 : decode cX12_weighed 28 = .ok (.ifCond .eq 13, 3) := by decide +kernel
theorem dX12_weighed_31 : decode cX12_weighed 31 = .ok (.iload 4, 2) := by decide +kernel
theorem dX12_weighed_33 : decode cX12_weighed 33 = .ok (.iconst 0, 1) := by decide +kernel
theorem dX12_weighed_34 : decode cX12_weighed 34 = .ok (.iconst 1, 1) := by decide +kernel
theorem dX12_weighed_35 : decode cX12_weighed 35 = .ok (.invokestatic 199, 3) := by decide +kernel
theorem dX12_weighed_38 : decode cX12_weighed 38 = .ok (.ifCond .ne 5, 3) := by decide +kernel
theorem dX12_weighed_41 : decode cX12_weighed 41 = .ok (.iconst (-1), 1) := by decide +kernel
theorem dX12_weighed_42 : decode cX12_weighed 42 = .ok (.ireturn, 1) := by decide +kernel
theorem dX12_weighed_43 : decode cX12_weighed 43 = .ok (.iconst (-1), 1) := by decide +kernel
theorem dX12_weighed_44 : decode cX12_weighed 44 = .ok (.istore 5, 2) := by decide +kernel
theorem dX12_weighed_46 : decode cX12_weighed 46 = .ok (.ldc 192, 2) := by decide +kernel
theorem dX12_weighed_48 : decode cX12_weighed 48 = .ok (.istore 6, 2) := by decide +kernel
theorem dX12_weighed_50 : decode cX12_weighed 50 = .ok (.aload_n 0, 1) := by decide +kernel
theorem dX12_weighed_51 : decode cX12_weighed 51 = .ok (.getfield 45, 3) := by decide +kernel
theorem dX12_weighed_54 : decode cX12_weighed 54 = .ok (.iload_n 1, 1) := by decide +kernel
theorem dX12_weighed_55 : decode cX12_weighed 55 = .ok (.iaload, 1) := by decide +kernel
theorem dX12_weighed_56 : decode cX12_weighed 56 = .ok (.iload_n 3, 1) := by decide +kernel
theorem dX12_weighed_57 : decode cX12_weighed 57 = .ok (.isub, 1) := by decide +kernel
theorem dX12_weighed_58 : decode cX12_weighed 58 = .ok (.istore 7, 2) := by decide +kernel
theorem dX12_weighed_60 : decode cX12_weighed 60 = .ok (.iload 7, 2) := by decide +kernel
theorem dX12_weighed_62 : decode cX12_weighed 62 = .ok (.aload_n 0, 1) := by decide +kernel
theorem dX12_weighed_63 : decode cX12_weighed 63 = .ok (.getfield 45, 3) := by decide +kernel
theorem dX12_weighed_66 : decode cX12_weighed 66 = .ok (.iload_n 1, 1) := by decide +kernel
theorem dX12_weighed_67 : decode cX12_weighed 67 = .ok (.iaload, 1) := by decide +kernel
theorem dX12_weighed_68 : decode cX12_weighed 68 = .ok (.iload_n 3, 1) := by decide +kernel
theorem dX12_weighed_69 : decode cX12_weighed 69 = .ok (.iadd, 1) := by decide +kernel
theorem dX12_weighed_70 : decode cX12_weighed 70 = .ok (.if_icmp .gt 60, 3) := by decide +kernel
theorem dX12_weighed_73 : decode cX12_weighed 73 = .ok (.iload 7, 2) := by decide +kernel
theorem dX12_weighed_75 : decode cX12_weighed 75 = .ok (.iconst 1, 1) := by decide +kernel
theorem dX12_weighed_76 : decode cX12_weighed 76 = .ok (.bipush 30, 2) := by decide +kernel
theorem dX12_weighed_78 : decode cX12_weighed 78 = .ok (.invokestatic 199, 3) := by decide +kernel
theorem dX12_weighed_81 : decode cX12_weighed 81 = .ok (.ifCond .ne 6, 3) := by decide +kernel
theorem dX12_weighed_84 : decode cX12_weighed 84 = .ok (.goto 40, 3) := by decide +kernel
theorem dX12_weighed_87 : decode cX12_weighed 87 = .ok (.aload_n 0, 1) := by decide +kernel
theorem dX12_weighed_88 : decode cX12_weighed 88 = .ok (.iload_n 1, 1) := by decide +kernel
theorem dX12_weighed_89 : decode cX12_weighed 89 = .ok (.invokevirtual 467, 3) := by decide +kernel
theorem dX12_weighed_92 : decode cX12_weighed 92 = .ok (.aload_n 0, 1) := by decide +kernel
theorem dX12_weighed_93 : decode cX12_weighed 93 = .ok (.iload 7, 2) := by decide +kernel
theorem dX12_weighed_95 : decode cX12_weighed 95 = .ok (.putfield 414, 3) := by decide +kernel
theorem dX12_weighed_98 : decode cX12_weighed 98 = .ok (.aload_n 0, 1) := by decide +kernel
theorem dX12_weighed_99 : decode cX12_weighed 99 = .ok (.iload_n 2, 1) := by decide +kernel
theorem dX12_weighed_100 : decode cX12_weighed 100 = .ok (.iconst 0, 1) := by decide +kernel
theorem dX12_weighed_101 : decode cX12_weighed 101 = .ok (.invokevirtual 531, 3) := by decide +kernel
theorem dX12_weighed_104 : decode cX12_weighed 104 = .ok (.istore 8, 2) := by decide +kernel
theorem dX12_weighed_106 : decode cX12_weighed 106 = .ok (.iload 8, 2) := by decide +kernel
theorem dX12_weighed_108 : decode cX12_weighed 108 = .ok (.iload 6, 2) := by decide +kernel
theorem dX12_weighed_110 : decode cX12_weighed 110 = .ok (.if_icmp .lt 6, 3) := by decide +kernel
theorem dX12_weighed_113 : decode cX12_weighed 113 = .ok (.goto 11, 3) := by decide +kernel
theorem dX12_weighed_116 : decode cX12_weighed 116 = .ok (.iload 8, 2) := by decide +kernel
theorem dX12_weighed_118 : decode cX12_weighed 118 = .ok (.istore 6, 2) := by decide +kernel
theorem dX12_weighed_120 : decode cX12_weighed 120 = .ok (.iload 7, 2) := by decide +kernel
theorem dX12_weighed_122 : decode cX12_weighed 122 = .ok (.istore 5, 2) := by decide +kernel
theorem dX12_weighed_124 : decode cX12_weighed 124 = .ok (.iinc 7 1, 3) := by decide +kernel
theorem dX12_weighed_127 : decode cX12_weighed 127 = .ok (.goto (-67), 3) := by decide +kernel
theorem dX12_weighed_130 : decode cX12_weighed 130 = .ok (.iload 5, 2) := by decide +kernel
theorem dX12_weighed_132 : decode cX12_weighed 132 = .ok (.ifCond .ge 8, 3) := by decide +kernel
theorem dX12_weighed_135 : decode cX12_weighed 135 = .ok (.bipush (-2), 2) := by decide +kernel
theorem dX12_weighed_137 : decode cX12_weighed 137 = .ok (.goto 15, 3) := by decide +kernel
theorem dX12_weighed_140 : decode cX12_weighed 140 = .ok (.iload 4, 2) := by decide +kernel
theorem dX12_weighed_142 : decode cX12_weighed 142 = .ok (.ifCond .ne 8, 3) := by decide +kernel
theorem dX12_weighed_145 : decode cX12_weighed 145 = .ok (.iload 5, 2) := by decide +kernel
theorem dX12_weighed_147 : decode cX12_weighed 147 = .ok (.goto 5, 3) := by decide +kernel
theorem dX12_weighed_150 : decode cX12_weighed 150 = .ok (.iload 6, 2) := by decide +kernel
theorem dX12_weighed_152 : decode cX12_weighed 152 = .ok (.ireturn, 1) := by decide +kernel
theorem dX12_flat_0 : decode cX12_flat 0 = .ok (.aload_n 0, 1) := by decide +kernel
theorem dX12_flat_1 : decode cX12_flat 1 = .ok (.iconst 0, 1) := by decide +kernel
theorem dX12_flat_2 : decode cX12_flat 2 = .ok (.putfield 154, 3) := by decide +kernel
theorem dX12_flat_5 : decode cX12_flat 5 = .ok (.aload_n 0, 1) := by decide +kernel
theorem dX12_flat_6 : decode cX12_flat 6 = .ok (.iload_n 1, 1) := by decide +kernel
theorem dX12_flat_7 : decode cX12_flat 7 = .ok (.invokevirtual 462, 3) := by decide +kernel
theorem dX12_flat_10 : decode cX12_flat 10 = .ok (.ifCond .eq 11, 3) := by decide +kernel
theorem dX12_flat_13 : decode cX12_flat 13 = .ok (.aload_n 0, 1) := by decide +kernel
theorem dX12_flat_14 : decode cX12_flat 14 = .ok (.iload_n 2, 1) := by decide +kernel
theorem dX12_flat_15 : decode cX12_flat 15 = .ok (.invokevirtual 514, 3) := by decide +kernel
theorem dX12_flat_18 : decode cX12_flat 18 = .ok (.ifCond .ne 5, 3) := by decide +kernel
theorem dX12_flat_21 : decode cX12_flat 21 = .ok (.iconst (-1), 1) := by decide +kernel
theorem dX12_flat_22 : decode cX12_flat 22 = .ok (.ireturn, 1) := by decide +kernel
theorem dX12_flat_23 : decode cX12_flat 23 = .ok (.aload_n 0, 1) := by decide +kernel
theorem dX12_flat_24 : decode cX12_flat 24 = .ok (.iload_n 1, 1) := by decide +kernel
theorem dX12_flat_25 : decode cX12_flat 25 = .ok (.invokevirtual 467, 3) := by decide +kernel
theorem dX12_flat_28 : decode cX12_flat 28 = .ok (.aload_n 0, 1) := by decide +kernel
theorem dX12_flat_29 : decode cX12_flat 29 = .ok (.iconst 1, 1) := by decide +kernel
theorem dX12_flat_30 : decode cX12_flat 30 = .ok (.putfield 405, 3) := by decide +kernel
theorem dX12_flat_33 : decode cX12_flat 33 = .ok (.aload_n 0, 1) := by decide +kernel
theorem dX12_flat_34 : decode cX12_flat 34 = .ok (.iload_n 2, 1) := by decide +kernel
theorem dX12_flat_35 : decode cX12_flat 35 = .ok (.iconst 0, 1) := by decide +kernel
theorem dX12_flat_36 : decode cX12_flat 36 = .ok (.invokevirtual 531, 3) := by decide +kernel
theorem dX12_flat_39 : decode cX12_flat 39 = .ok (.invokestatic 537, 3) := by decide +kernel
theorem dX12_flat_42 : decode cX12_flat 42 = .ok (.ireturn, 1) := by decide +kernel
theorem dX12_alike_0 : decode cX12_alike 0 = .ok (.aload_n 0, 1) := by decide +kernel
theorem dX12_alike_1 : decode cX12_alike 1 = .ok (.iconst 0, 1) := by decide +kernel
theorem dX12_alike_2 : decode cX12_alike 2 = .ok (.putfield 154, 3) := by decide +kernel
theorem dX12_alike_5 : decode cX12_alike 5 = .ok (.aload_n 0, 1) := by decide +kernel
theorem dX12_alike_6 : decode cX12_alike 6 = .ok (.iload_n 1, 1) := by decide +kernel
theorem dX12_alike_7 : decode cX12_alike 7 = .ok (.invokevirtual 462, 3) := by decide +kernel
theorem dX12_alike_10 : decode cX12_alike 10 = .ok (.ifCond .eq 22, 3) := by decide +kernel
theorem dX12_alike_13 : decode cX12_alike 13 = .ok (.aload_n 0, 1) := by decide +kernel
theorem dX12_alike_14 : decode cX12_alike 14 = .ok (.iload_n 2, 1) := by decide +kernel
theorem dX12_alike_15 : decode cX12_alike 15 = .ok (.invokevirtual 514, 3) := by decide +kernel
theorem dX12_alike_18 : decode cX12_alike 18 = .ok (.ifCond .eq 14, 3) := by decide +kernel
theorem dX12_alike_21 : decode cX12_alike 21 = .ok (.iload_n 3, 1) := by decide +kernel
theorem dX12_alike_22 : decode cX12_alike 22 = .ok (.iconst 0, 1) := by decide +kernel
theorem dX12_alike_23 : decode cX12_alike 23 = .ok (.sipush 9999, 3) := by decide +kernel
theorem dX12_alike_26 : decode cX12_alike 26 = .ok (.invokestatic 199, 3) := by decide +kernel
theorem dX12_alike_29 : decode cX12_alike 29 = .ok (.ifCond .ne 5, 3) := by decide +kernel
theorem dX12_alike_32 : decode cX12_alike 32 = .ok (.iconst (-1), 1) := by decide +kernel
theorem dX12_alike_33 : decode cX12_alike 33 = .ok (.ireturn, 1) := by decide +kernel
theorem dX12_alike_34 : decode cX12_alike 34 = .ok (.bipush 30, 2) := by decide +kernel
theorem dX12_alike_36 : decode cX12_alike 36 = .ok (.istore 4, 2) := by decide +kernel
theorem dX12_alike_38 : decode cX12_alike 38 = .ok (.iload 4, 2) := by decide +kernel
theorem dX12_alike_40 : decode cX12_alike 40 = .ok (.ifCond .lt 33, 3) := by decide +kernel
theorem dX12_alike_43 : decode cX12_alike 43 = .ok (.aload_n 0, 1) := by decide +kernel
theorem dX12_alike_44 : decode cX12_alike 44 = .ok (.iload_n 1, 1) := by decide +kernel
theorem dX12_alike_45 : decode cX12_alike 45 = .ok (.invokevirtual 467, 3) := by decide +kernel
theorem dX12_alike_48 : decode cX12_alike 48 = .ok (.aload_n 0, 1) := by decide +kernel
theorem dX12_alike_49 : decode cX12_alike 49 = .ok (.iload 4, 2) := by decide +kernel
theorem dX12_alike_51 : decode cX12_alike 51 = .ok (.putfield 411, 3) := by decide +kernel
theorem dX12_alike_54 : decode cX12_alike 54 = .ok (.aload_n 0, 1) := by decide +kernel
theorem dX12_alike_55 : decode cX12_alike 55 = .ok (.iload_n 2, 1) := by decide +kernel
theorem dX12_alike_56 : decode cX12_alike 56 = .ok (.iconst 0, 1) := by decide +kernel
theorem dX12_alike_57 : decode cX12_alike 57 = .ok (.invokevirtual 531, 3) := by decide +kernel
theorem dX12_alike_60 : decode cX12_alike 60 = .ok (.iload_n 3, 1) := by decide +kernel
theorem dX12_alike_61 : decode cX12_alike 61 = .ok (.if_icmp .gt 6, 3) := by decide +kernel
theorem dX12_alike_64 : decode cX12_alike 64 = .ok (.iload 4, 2) := by decide +kernel
theorem dX12_alike_66 : decode cX12_alike 66 = .ok (.ireturn, 1) := by decide +kernel
theorem dX12_alike_67 : decode cX12_alike 67 = .ok (.iinc 4 (-1), 3) := by decide +kernel
theorem dX12_alike_70 : decode cX12_alike 70 = .ok (.goto (-32), 3) := by decide +kernel
theorem dX12_alike_73 : decode cX12_alike 73 = .ok (.bipush (-2), 2) := by decide +kernel
theorem dX12_alike_75 : decode cX12_alike 75 = .ok (.ireturn, 1) := by decide +kernel
theorem dX12_inForm_0 : decode cX12_inForm 0 = .ok (.iload_n 0, 1) := by decide +kernel
theorem dX12_inForm_1 : decode cX12_inForm 1 = .ok (.ifCond .ge 7, 3) := by decide +kernel
theorem dX12_inForm_4 : decode cX12_inForm 4 = .ok (.iconst 0, 1) := by decide +kernel
theorem dX12_inForm_5 : decode cX12_inForm 5 = .ok (.goto 15, 3) := by decide +kernel
theorem dX12_inForm_8 : decode cX12_inForm 8 = .ok (.iload_n 0, 1) := by decide +kernel
theorem dX12_inForm_9 : decode cX12_inForm 9 = .ok (.bipush 60, 2) := by decide +kernel
theorem dX12_inForm_11 : decode cX12_inForm 11 = .ok (.if_icmp .le 8, 3) := by decide +kernel
theorem dX12_inForm_14 : decode cX12_inForm 14 = .ok (.bipush 60, 2) := by decide +kernel
theorem dX12_inForm_16 : decode cX12_inForm 16 = .ok (.goto 4, 3) := by decide +kernel
theorem dX12_inForm_19 : decode cX12_inForm 19 = .ok (.iload_n 0, 1) := by decide +kernel
theorem dX12_inForm_20 : decode cX12_inForm 20 = .ok (.ireturn, 1) := by decide +kernel
theorem dX12_layTrained_0 : decode cX12_layTrained 0 = .ok (.aload_n 0, 1) := by decide +kernel
theorem dX12_layTrained_1 : decode cX12_layTrained 1 = .ok (.bipush (-99), 2) := by decide +kernel
theorem dX12_layTrained_3 : decode cX12_layTrained 3 = .ok (.putfield 543, 3) := by decide +kernel
theorem dX12_layTrained_6 : decode cX12_layTrained 6 = .ok (.aload_n 0, 1) := by decide +kernel
theorem dX12_layTrained_7 : decode cX12_layTrained 7 = .ok (.iconst (-1), 1) := by decide +kernel
theorem dX12_layTrained_8 : decode cX12_layTrained 8 = .ok (.putfield 546, 3) := by decide +kernel
theorem dX12_layTrained_11 : decode cX12_layTrained 11 = .ok (.aload_n 0, 1) := by decide +kernel
theorem dX12_layTrained_12 : decode cX12_layTrained 12 = .ok (.iconst (-1), 1) := by decide +kernel
theorem dX12_layTrained_13 : decode cX12_layTrained 13 = .ok (.putfield 549, 3) := by decide +kernel
theorem dX12_layTrained_16 : decode cX12_layTrained 16 = .ok (.iconst 0, 1) := by decide +kernel
theorem dX12_layTrained_17 : decode cX12_layTrained 17 = .ok (.istore 4, 2) := by decide +kernel
theorem dX12_layTrained_19 : decode cX12_layTrained 19 = .ok (.iload 4, 2) := by decide +kernel
theorem dX12_layTrained_21 : decode cX12_layTrained 21 = .ok (.iconst 1, 1) := by decide +kernel
theorem dX12_layTrained_22 : decode cX12_layTrained 22 = .ok (.iconst 2, 1) := by decide +kernel
theorem dX12_layTrained_23 : decode cX12_layTrained 23 = .ok (.iload_n 2, 1) := by decide +kernel
theorem dX12_layTrained_24 : decode cX12_layTrained 24 = .ok (.imul, 1) := by decide +kernel
theorem dX12_layTrained_25 : decode cX12_layTrained 25 = .ok (.ishl, 1) := by decide +kernel
theorem dX12_layTrained_26 : decode cX12_layTrained 26 = .ok (.if_icmp .ge 262, 3) := by decide +kernel
theorem dX12_layTrained_29 : decode cX12_layTrained 29 = .ok (.iconst 0, 1) := by decide +kernel
theorem dX12_layTrained_30 : decode cX12_layTrained 30 = .ok (.istore 5, 2) := by decide +kernel
theorem dX12_layTrained_32 : decode cX12_layTrained 32 = .ok (.iconst 0, 1) := by decide +kernel
theorem dX12_layTrained_33 : decode cX12_layTrained 33 = .ok (.istore 6, 2) := by decide +kernel
theorem dX12_layTrained_35 : decode cX12_layTrained 35 = .ok (.iconst 0, 1) := by decide +kernel
theorem dX12_layTrained_36 : decode cX12_layTrained 36 = .ok (.istore 7, 2) := by decide +kernel
theorem dX12_layTrained_38 : decode cX12_layTrained 38 = .ok (.iconst 0, 1) := by decide +kernel
theorem dX12_layTrained_39 : decode cX12_layTrained 39 = .ok (.istore 8, 2) := by decide +kernel
theorem dX12_layTrained_41 : decode cX12_layTrained 41 = .ok (.iconst 0, 1) := by decide +kernel
theorem dX12_layTrained_42 : decode cX12_layTrained 42 = .ok (.istore 9, 2) := by decide +kernel
theorem dX12_layTrained_44 : decode cX12_layTrained 44 = .ok (.iload 9, 2) := by decide +kernel
theorem dX12_layTrained_46 : decode cX12_layTrained 46 = .ok (.iload_n 2, 1) := by decide +kernel
theorem dX12_layTrained_47 : decode cX12_layTrained 47 = .ok (.if_icmp .ge 167, 3) := by decide +kernel
theorem dX12_layTrained_50 : decode cX12_layTrained 50 = .ok (.iload 4, 2) := by decide +kernel
theorem dX12_layTrained_52 : decode cX12_layTrained 52 = .ok (.iconst 2, 1) := by decide +kernel
theorem dX12_layTrained_53 : decode cX12_layTrained 53 = .ok (.iload_n 2, 1) := by decide +kernel
theorem dX12_layTrained_54 : decode cX12_layTrained 54 = .ok (.iconst 1, 1) := by decide +kernel
theorem dX12_layTrained_55 : decode cX12_layTrained 55 = .ok (.isub, 1) := by decide +kernel
theorem dX12_layTrained_56 : decode cX12_layTrained 56 = .ok (.iload 9, 2) := by decide +kernel
theorem dX12_layTrained_58 : decode cX12_layTrained 58 = .ok (.isub, 1) := by decide +kernel
theorem dX12_layTrained_59 : decode cX12_layTrained 59 = .ok (.imul, 1) := by decide +kernel
theorem dX12_layTrained_60 : decode cX12_layTrained 60 = .ok (.ishr, 1) := by decide +kernel
theorem dX12_layTrained_61 : decode cX12_layTrained 61 = .ok (.iconst 3, 1) := by decide +kernel
theorem dX12_layTrained_62 : decode cX12_layTrained 62 = .ok (.iand, 1) := by decide +kernel
theorem dX12_layTrained_63 : decode cX12_layTrained 63 = .ok (.istore 10, 2) := by decide +kernel
theorem dX12_layTrained_65 : decode cX12_layTrained 65 = .ok (.iload 8, 2) := by decide +kernel
theorem dX12_layTrained_67 : decode cX12_layTrained 67 = .ok (.iload 10, 2) := by decide +kernel
theorem dX12_layTrained_69 : decode cX12_layTrained 69 = .ok (.iconst 2, 1) := by decide +kernel
theorem dX12_layTrained_70 : decode cX12_layTrained 70 = .ok (.iload 9, 2) := by decide +kernel
theorem dX12_layTrained_72 : decode cX12_layTrained 72 = .ok (.imul, 1) := by decide +kernel
theorem dX12_layTrained_73 : decode cX12_layTrained 73 = .ok (.ishl, 1) := by decide +kernel
theorem dX12_layTrained_74 : decode cX12_layTrained 74 = .ok (.ior, 1) := by decide +kernel
theorem dX12_layTrained_75 : decode cX12_layTrained 75 = .ok (.istore 8, 2) := by decide +kernel
theorem dX12_layTrained_77 : decode cX12_layTrained 77 = .ok (.iconst 0, 1) := by decide +kernel
theorem dX12_layTrained_78 : decode cX12_layTrained 78 = .ok (.istore 11, 2) := by decide +kernel
theorem dX12_layTrained_80 : decode cX12_layTrained 80 = .ok (.iload 11, 2) := by decide +kernel
theorem dX12_layTrained_82 : decode cX12_layTrained 82 = .ok (.bipush 8, 2) := by decide +kernel
theorem dX12_layTrained_84 : decode cX12_layTrained 84 = .ok (.if_icmp .ge 17, 3) := by decide +kernel
theorem dX12_layTrained_87 : decode cX12_layTrained 87 = .ok (.aload_n 0, 1) := by decide +kernel
theorem dX12_layTrained_88 : decode cX12_layTrained 88 = .ok (.getfield 105, 3) := by decide +kernel
theorem dX12_layTrained_91 : decode cX12_layTrained 91 = .ok (.iload 11, 2) := by decide +kernel
theorem dX12_layTrained_93 : decode cX12_layTrained 93 = .ok (.lconst 0, 1) := by decide +kernel
theorem dX12_layTrained_94 : decode cX12_layTrained 94 = .ok (.lastore, 1) := by decide +kernel
theorem dX12_layTrained_95 : decode cX12_layTrained 95 = .ok (.iinc 11 1, 3) := by decide +kernel
theorem dX12_layTrained_98 : decode cX12_layTrained 98 = .ok (.goto (-18), 3) := by decide +kernel
theorem dX12_layTrained_101 : decode cX12_layTrained 101 = .ok (.aload_n 0, 1) := by decide +kernel
theorem dX12_layTrained_102 : decode cX12_layTrained 102 = .ok (.getfield 105, 3) := by decide +kernel
theorem dX12_layTrained_105 : decode cX12_layTrained 105 = .ok (.iconst 0, 1) := by decide +kernel
theorem dX12_layTrained_106 : decode cX12_layTrained 106 = .ok (.iload 9, 2) := by decide +kernel
theorem dX12_layTrained_108 : decode cX12_layTrained 108 = .ok (.i2l, 1) := by decide +kernel
theorem dX12_layTrained_109 : decode cX12_layTrained 109 = .ok (.lastore, 1) := by decide +kernel
theorem dX12_layTrained_110 : decode cX12_layTrained 110 = .ok (.aload_n 0, 1) := by decide +kernel
theorem dX12_layTrained_111 : decode cX12_layTrained 111 = .ok (.getfield 105, 3) := by decide +kernel
theorem dX12_layTrained_114 : decode cX12_layTrained 114 = .ok (.iconst 2, 1) := by decide +kernel
theorem dX12_layTrained_115 : decode cX12_layTrained 115 = .ok (.iload 10, 2) := by decide +kernel
theorem dX12_layTrained_117 : decode cX12_layTrained 117 = .ok (.i2l, 1) := by decide +kernel
theorem dX12_layTrained_118 : decode cX12_layTrained 118 = .ok (.lastore, 1) := by decide +kernel
theorem dX12_layTrained_119 : decode cX12_layTrained 119 = .ok (.aload_n 0, 1) := by decide +kernel
theorem dX12_layTrained_120 : decode cX12_layTrained 120 = .ok (.getfield 105, 3) := by decide +kernel
theorem dX12_layTrained_123 : decode cX12_layTrained 123 = .ok (.iconst 3, 1) := by decide +kernel
theorem dX12_layTrained_124 : decode cX12_layTrained 124 = .ok (.aload_n 0, 1) := by decide +kernel
theorem dX12_layTrained_125 : decode cX12_layTrained 125 = .ok (.getfield 45, 3) := by decide +kernel
theorem dX12_layTrained_128 : decode cX12_layTrained 128 = .ok (.iload_n 1, 1) := by decide +kernel
theorem dX12_layTrained_129 : decode cX12_layTrained 129 = .ok (.iaload, 1) := by decide +kernel
theorem dX12_layTrained_130 : decode cX12_layTrained 130 = .ok (.i2l, 1) := by decide +kernel
theorem dX12_layTrained_131 : decode cX12_layTrained 131 = .ok (.lastore, 1) := by decide +kernel
theorem dX12_layTrained_132 : decode cX12_layTrained 132 = .ok (.aload_n 0, 1) := by decide +kernel
theorem dX12_layTrained_133 : decode cX12_layTrained 133 = .ok (.getfield 105, 3) := by decide +kernel
theorem dX12_layTrained_136 : decode cX12_layTrained 136 = .ok (.iconst 4, 1) := by decide +kernel
theorem dX12_layTrained_137 : decode cX12_layTrained 137 = .ok (.iload 5, 2) := by decide +kernel
theorem dX12_layTrained_139 : decode cX12_layTrained 139 = .ok (.i2l, 1) := by decide +kernel
theorem dX12_layTrained_140 : decode cX12_layTrained 140 = .ok (.lastore, 1) := by decide +kernel
theorem dX12_layTrained_141 : decode cX12_layTrained 141 = .ok (.aload_n 0, 1) := by decide +kernel
theorem dX12_layTrained_142 : decode cX12_layTrained 142 = .ok (.getfield 105, 3) := by decide +kernel
theorem dX12_layTrained_145 : decode cX12_layTrained 145 = .ok (.iconst 5, 1) := by decide +kernel
theorem dX12_layTrained_146 : decode cX12_layTrained 146 = .ok (.iload 6, 2) := by decide +kernel
theorem dX12_layTrained_148 : decode cX12_layTrained 148 = .ok (.i2l, 1) := by decide +kernel
theorem dX12_layTrained_149 : decode cX12_layTrained 149 = .ok (.lastore, 1) := by decide +kernel
theorem dX12_layTrained_150 : decode cX12_layTrained 150 = .ok (.aload_n 0, 1) := by decide +kernel
theorem dX12_layTrained_151 : decode cX12_layTrained 151 = .ok (.iconst 3, 1) := by decide +kernel
theorem dX12_layTrained_152 : decode cX12_layTrained 152 = .ok (.iconst 0, 1) := by decide +kernel
theorem dX12_layTrained_153 : decode cX12_layTrained 153 = .ok (.bipush (-20), 2) := by decide +kernel
theorem dX12_layTrained_155 : decode cX12_layTrained 155 = .ok (.bipush 20, 2) := by decide +kernel
theorem dX12_layTrained_157 : decode cX12_layTrained 157 = .ok (.invokevirtual 437, 3) := by decide +kernel
theorem dX12_layTrained_160 : decode cX12_layTrained 160 = .ok (.istore 11, 2) := by decide +kernel
theorem dX12_layTrained_162 : decode cX12_layTrained 162 = .ok (.aload_n 0, 1) := by decide +kernel
theorem dX12_layTrained_163 : decode cX12_layTrained 163 = .ok (.iconst 4, 1) := by decide +kernel
theorem dX12_layTrained_164 : decode cX12_layTrained 164 = .ok (.iconst 0, 1) := by decide +kernel
theorem dX12_layTrained_165 : decode cX12_layTrained 165 = .ok (.bipush (-20), 2) := by decide +kernel
theorem dX12_layTrained_167 : decode cX12_layTrained 167 = .ok (.bipush 20, 2) := by decide +kernel
theorem dX12_layTrained_169 : decode cX12_layTrained 169 = .ok (.invokevirtual 437, 3) := by decide +kernel
theorem dX12_layTrained_172 : decode cX12_layTrained 172 = .ok (.istore 12, 2) := by decide +kernel
theorem dX12_layTrained_174 : decode cX12_layTrained 174 = .ok (.iload 7, 2) := by decide +kernel
theorem dX12_layTrained_176 : decode cX12_layTrained 176 = .ok (.aload_n 0, 1) := by decide +kernel
theorem dX12_layTrained_177 : decode cX12_layTrained 177 = .ok (.iconst 5, 1) := by decide +kernel
theorem dX12_layTrained_178 : decode cX12_layTrained 178 = .ok (.iconst 0, 1) := by decide +kernel
theorem dX12_layTrained_179 : decode cX12_layTrained 179 = .ok (.iconst 0, 1) := by decide +kernel
theorem dX12_layTrained_180 : decode cX12_layTrained 180 = .ok (.bipush 99, 2) := by decide +kernel
theorem dX12_layTrained_182 : decode cX12_layTrained 182 = .ok (.invokevirtual 437, 3) := by decide +kernel
theorem dX12_layTrained_185 : decode cX12_layTrained 185 = .ok (.iadd, 1) := by decide +kernel
theorem dX12_layTrained_186 : decode cX12_layTrained 186 = .ok (.istore 7, 2) := by decide +kernel
theorem dX12_layTrained_188 : decode cX12_layTrained 188 = .ok (.iload 5, 2) := by decide +kernel
theorem dX12_layTrained_190 : decode cX12_layTrained 190 = .ok (.iload 11, 2) := by decide +kernel
theorem dX12_layTrained_192 : decode cX12_layTrained 192 = .ok (.iadd, 1) := by decide +kernel
theorem dX12_layTrained_193 : decode cX12_layTrained 193 = .ok (.invokestatic 552, 3) := by decide +kernel
theorem dX12_layTrained_196 : decode cX12_layTrained 196 = .ok (.istore 5, 2) := by decide +kernel
theorem dX12_layTrained_198 : decode cX12_layTrained 198 = .ok (.iload 6, 2) := by decide +kernel
theorem dX12_layTrained_200 : decode cX12_layTrained 200 = .ok (.iload 12, 2) := by decide +kernel
theorem dX12_layTrained_202 : decode cX12_layTrained 202 = .ok (.iadd, 1) := by decide +kernel
theorem dX12_layTrained_203 : decode cX12_layTrained 203 = .ok (.invokestatic 552, 3) := by decide +kernel
theorem dX12_layTrained_206 : decode cX12_layTrained 206 = .ok (.istore 6, 2) := by decide +kernel
theorem dX12_layTrained_208 : decode cX12_layTrained 208 = .ok (.iinc 9 1, 3) := by decide +kernel
theorem dX12_layTrained_211 : decode cX12_layTrained 211 = .ok (.goto (-167), 3) := by decide +kernel
theorem dX12_layTrained_214 : decode cX12_layTrained 214 = .ok (.iload 5, 2) := by decide +kernel
theorem dX12_layTrained_216 : decode cX12_layTrained 216 = .ok (.iload 6, 2) := by decide +kernel
theorem dX12_layTrained_218 : decode cX12_layTrained 218 = .ok (.isub, 1) := by decide +kernel
theorem dX12_layTrained_219 : decode cX12_layTrained 219 = .ok (.istore 9, 2) := by decide +kernel
theorem dX12_layTrained_221 : decode cX12_layTrained 221 = .ok (.iload 7, 2) := by decide +kernel
theorem dX12_layTrained_223 : decode cX12_layTrained 223 = .ok (.iload_n 3, 1) := by decide +kernel
theorem dX12_layTrained_224 : decode cX12_layTrained 224 = .ok (.if_icmp .gt 58, 3) := by decide +kernel
theorem dX12_layTrained_227 : decode cX12_layTrained 227 = .ok (.aload_n 0, 1) := by decide +kernel
theorem dX12_layTrained_228 : decode cX12_layTrained 228 = .ok (.getfield 549, 3) := by decide +kernel
theorem dX12_layTrained_231 : decode cX12_layTrained 231 = .ok (.ifCond .lt 33, 3) := by decide +kernel
theorem dX12_layTrained_234 : decode cX12_layTrained 234 = .ok (.iload 9, 2) := by decide +kernel
theorem dX12_layTrained_236 : decode cX12_layTrained 236 = .ok (.aload_n 0, 1) := by decide +kernel
theorem dX12_layTrained_237 : decode cX12_layTrained 237 = .ok (.getfield 543, 3) := by decide +kernel
theorem dX12_layTrained_240 : decode cX12_layTrained 240 = .ok (.if_icmp .lt 42, 3) := by decide +kernel
theorem dX12_layTrained_243 : decode cX12_layTrained 243 = .ok (.iload 9, 2) := by decide +kernel
theorem dX12_layTrained_245 : decode cX12_layTrained 245 = .ok (.aload_n 0, 1) := by decide +kernel
theorem dX12_layTrained_246 : decode cX12_layTrained 246 = .ok (.getfield 543, 3) := by decide +kernel
theorem dX12_layTrained_249 : decode cX12_layTrained 249 = .ok (.if_icmp .ne 15, 3) := by decide +kernel
theorem dX12_layTrained_252 : decode cX12_layTrained 252 = .ok (.iload 7, 2) := by decide +kernel
theorem dX12_layTrained_254 : decode cX12_layTrained 254 = .ok (.aload_n 0, 1) := by decide +kernel
theorem dX12_layTrained_255 : decode cX12_layTrained 255 = .ok (.getfield 546, 3) := by decide +kernel
theorem dX12_layTrained_258 : decode cX12_layTrained 258 = .ok (.if_icmp .lt 6, 3) := by decide +kernel
theorem dX12_layTrained_261 : decode cX12_layTrained 261 = .ok (.goto 21, 3) := by decide +kernel
theorem dX12_layTrained_264 : decode cX12_layTrained 264 = .ok (.aload_n 0, 1) := by decide +kernel
theorem dX12_layTrained_265 : decode cX12_layTrained 265 = .ok (.iload 9, 2) := by decide +kernel
theorem dX12_layTrained_267 : decode cX12_layTrained 267 = .ok (.putfield 543, 3) := by decide +kernel
theorem dX12_layTrained_270 : decode cX12_layTrained 270 = .ok (.aload_n 0, 1) := by decide +kernel
theorem dX12_layTrained_271 : decode cX12_layTrained 271 = .ok (.iload 7, 2) := by decide +kernel
theorem dX12_layTrained_273 : decode cX12_layTrained 273 = .ok (.putfield 546, 3) := by decide +kernel
theorem dX12_layTrained_276 : decode cX12_layTrained 276 = .ok (.aload_n 0, 1) := by decide +kernel
theorem dX12_layTrained_277 : decode cX12_layTrained 277 = .ok (.iload 8, 2) := by decide +kernel
theorem dX12_layTrained_279 : decode cX12_layTrained 279 = .ok (.putfield 549, 3) := by decide +kernel
theorem dX12_layTrained_282 : decode cX12_layTrained 282 = .ok (.iinc 4 1, 3) := by decide +kernel
theorem dX12_layTrained_285 : decode cX12_layTrained 285 = .ok (.goto (-266), 3) := by decide +kernel
theorem dX12_layTrained_288 : decode cX12_layTrained 288 = .ok (.return_, 1) := by decide +kernel
theorem dX12_trained_0 : decode cX12_trained 0 = .ok (.aload_n 0, 1) := by decide +kernel
theorem dX12_trained_1 : decode cX12_trained 1 = .ok (.iconst 0, 1) := by decide +kernel
theorem dX12_trained_2 : decode cX12_trained 2 = .ok (.putfield 154, 3) := by decide +kernel
theorem dX12_trained_5 : decode cX12_trained 5 = .ok (.aload_n 0, 1) := by decide +kernel
theorem dX12_trained_6 : decode cX12_trained 6 = .ok (.iload_n 1, 1) := by decide +kernel
theorem dX12_trained_7 : decode cX12_trained 7 = .ok (.invokevirtual 462, 3) := by decide +kernel
theorem dX12_trained_10 : decode cX12_trained 10 = .ok (.ifCond .eq 34, 3) := by decide +kernel
theorem dX12_trained_13 : decode cX12_trained 13 = .ok (.iload_n 2, 1) := by decide +kernel
theorem dX12_trained_14 : decode cX12_trained 14 = .ok (.iconst 1, 1) := by decide +kernel
theorem dX12_trained_15 : decode cX12_trained 15 = .ok (.bipush 6, 2) := by decide +kernel
theorem dX12_trained_17 : decode cX12_trained 17 = .ok (.invokestatic 199, 3) := by decide +kernel
theorem dX12_trained_20 : decode cX12_trained 20 = .ok (.ifCond .eq 24, 3) := by decide +kernel
theorem dX12_trained_23 : decode cX12_trained 23 = .ok (.iload_n 3, 1) := by decide +kernel
theorem dX12_trained_24 : decode cX12_trained 24 = .ok (.iconst 0, 1) := by decide +kernel
theorem dX12_trained_25 : decode cX12_trained 25 = .ok (.sipush 999, 3) := by decide +kernel
theorem dX12_trained_28 : decode cX12_trained 28 = .ok (.invokestatic 199, 3) := by decide +kernel
theorem dX12_trained_31 : decode cX12_trained 31 = .ok (.ifCond .eq 13, 3) := by decide +kernel
theorem dX12_trained_34 : decode cX12_trained 34 = .ok (.iload 4, 2) := by decide +kernel
theorem dX12_trained_36 : decode cX12_trained 36 = .ok (.iconst 0, 1) := by decide +kernel
theorem dX12_trained_37 : decode cX12_trained 37 = .ok (.iconst 2, 1) := by decide +kernel
theorem dX12_trained_38 : decode cX12_trained 38 = .ok (.invokestatic 199, 3) := by decide +kernel
theorem dX12_trained_41 : decode cX12_trained 41 = .ok (.ifCond .ne 7, 3) := by decide +kernel
theorem dX12_trained_44 : decode cX12_trained 44 = .ok (.sipush (-999), 3) := by decide +kernel
theorem dX12_trained_47 : decode cX12_trained 47 = .ok (.ireturn, 1) := by decide +kernel
theorem dX12_trained_48 : decode cX12_trained 48 = .ok (.aload_n 0, 1) := by decide +kernel
theorem dX12_trained_49 : decode cX12_trained 49 = .ok (.iload_n 1, 1) := by decide +kernel
theorem dX12_trained_50 : decode cX12_trained 50 = .ok (.iload_n 2, 1) := by decide +kernel
theorem dX12_trained_51 : decode cX12_trained 51 = .ok (.iload_n 3, 1) := by decide +kernel
theorem dX12_trained_52 : decode cX12_trained 52 = .ok (.invokevirtual 555, 3) := by decide +kernel
theorem dX12_trained_55 : decode cX12_trained 55 = .ok (.iload 4, 2) := by decide +kernel
theorem dX12_trained_57 : decode cX12_trained 57 = .ok (.ifCond .ne 10, 3) := by decide +kernel
theorem dX12_trained_60 : decode cX12_trained 60 = .ok (.aload_n 0, 1) := by decide +kernel
theorem dX12_trained_61 : decode cX12_trained 61 = .ok (.getfield 543, 3) := by decide +kernel
theorem dX12_trained_64 : decode cX12_trained 64 = .ok (.goto 20, 3) := by decide +kernel
theorem dX12_trained_67 : decode cX12_trained 67 = .ok (.iload 4, 2) := by decide +kernel
theorem dX12_trained_69 : decode cX12_trained 69 = .ok (.iconst 1, 1) := by decide +kernel
theorem dX12_trained_70 : decode cX12_trained 70 = .ok (.if_icmp .ne 10, 3) := by decide +kernel
theorem dX12_trained_73 : decode cX12_trained 73 = .ok (.aload_n 0, 1) := by decide +kernel
theorem dX12_trained_74 : decode cX12_trained 74 = .ok (.getfield 546, 3) := by decide +kernel
theorem dX12_trained_77 : decode cX12_trained 77 = .ok (.goto 7, 3) := by decide +kernel
theorem dX12_trained_80 : decode cX12_trained 80 = .ok (.aload_n 0, 1) := by decide +kernel
theorem dX12_trained_81 : decode cX12_trained 81 = .ok (.getfield 549, 3) := by decide +kernel
theorem dX12_trained_84 : decode cX12_trained 84 = .ok (.ireturn, 1) := by decide +kernel
theorem dX12_noted_0 : decode cX12_noted 0 = .ok (.aload_n 0, 1) := by decide +kernel
theorem dX12_noted_1 : decode cX12_noted 1 = .ok (.getfield 130, 3) := by decide +kernel
theorem dX12_noted_4 : decode cX12_noted 4 = .ok (.iconst 4, 1) := by decide +kernel
theorem dX12_noted_5 : decode cX12_noted 5 = .ok (.aload_n 0, 1) := by decide +kernel
theorem dX12_noted_6 : decode cX12_noted 6 = .ok (.getfield 298, 3) := by decide +kernel
theorem dX12_noted_9 : decode cX12_noted 9 = .ok (.imul, 1) := by decide +kernel
theorem dX12_noted_10 : decode cX12_noted 10 = .ok (.iload_n 1, 1) := by decide +kernel
theorem dX12_noted_11 : decode cX12_noted 11 = .ok (.iastore, 1) := by decide +kernel
theorem dX12_noted_12 : decode cX12_noted 12 = .ok (.aload_n 0, 1) := by decide +kernel
theorem dX12_noted_13 : decode cX12_noted 13 = .ok (.getfield 130, 3) := by decide +kernel
theorem dX12_noted_16 : decode cX12_noted 16 = .ok (.iconst 4, 1) := by decide +kernel
theorem dX12_noted_17 : decode cX12_noted 17 = .ok (.aload_n 0, 1) := by decide +kernel
theorem dX12_noted_18 : decode cX12_noted 18 = .ok (.getfield 298, 3) := by decide +kernel
theorem dX12_noted_21 : decode cX12_noted 21 = .ok (.imul, 1) := by decide +kernel
theorem dX12_noted_22 : decode cX12_noted 22 = .ok (.iconst 1, 1) := by decide +kernel
theorem dX12_noted_23 : decode cX12_noted 23 = .ok (.iadd, 1) := by decide +kernel
theorem dX12_noted_24 : decode cX12_noted 24 = .ok (.iload_n 2, 1) := by decide +kernel
theorem dX12_noted_25 : decode cX12_noted 25 = .ok (.iastore, 1) := by decide +kernel
theorem dX12_noted_26 : decode cX12_noted 26 = .ok (.aload_n 0, 1) := by decide +kernel
theorem dX12_noted_27 : decode cX12_noted 27 = .ok (.getfield 130, 3) := by decide +kernel
theorem dX12_noted_30 : decode cX12_noted 30 = .ok (.iconst 4, 1) := by decide +kernel
theorem dX12_noted_31 : decode cX12_noted 31 = .ok (.aload_n 0, 1) := by decide +kernel
theorem dX12_noted_32 : decode cX12_noted 32 = .ok (.getfield 298, 3) := by decide +kernel
theorem dX12_noted_35 : decode cX12_noted 35 = .ok (.imul, 1) := by decide +kernel
theorem dX12_noted_36 : decode cX12_noted 36 = .ok (.iconst 2, 1) := by decide +kernel
theorem dX12_noted_37 : decode cX12_noted 37 = .ok (.iadd, 1) := by decide +kernel
theorem dX12_noted_38 : decode cX12_noted 38 = .ok (.iload_n 3, 1) := by decide +kernel
theorem dX12_noted_39 : decode cX12_noted 39 = .ok (.iastore, 1) := by decide +kernel
theorem dX12_noted_40 : decode cX12_noted 40 = .ok (.aload_n 0, 1) := by decide +kernel
theorem dX12_noted_41 : decode cX12_noted 41 = .ok (.getfield 130, 3) := by decide +kernel
theorem dX12_noted_44 : decode cX12_noted 44 = .ok (.iconst 4, 1) := by decide +kernel
theorem dX12_noted_45 : decode cX12_noted 45 = .ok (.aload_n 0, 1) := by decide +kernel
theorem dX12_noted_46 : decode cX12_noted 46 = .ok (.getfield 298, 3) := by decide +kernel
theorem dX12_noted_49 : decode cX12_noted 49 = .ok (.imul, 1) := by decide +kernel
theorem dX12_noted_50 : decode cX12_noted 50 = .ok (.iconst 3, 1) := by decide +kernel
theorem dX12_noted_51 : decode cX12_noted 51 = .ok (.iadd, 1) := by decide +kernel
theorem dX12_noted_52 : decode cX12_noted 52 = .ok (.iload 4, 2) := by decide +kernel
theorem dX12_noted_54 : decode cX12_noted 54 = .ok (.iastore, 1) := by decide +kernel
theorem dX12_noted_55 : decode cX12_noted 55 = .ok (.aload_n 0, 1) := by decide +kernel
theorem dX12_noted_56 : decode cX12_noted 56 = .ok (.dup, 1) := by decide +kernel
theorem dX12_noted_57 : decode cX12_noted 57 = .ok (.getfield 298, 3) := by decide +kernel
theorem dX12_noted_60 : decode cX12_noted 60 = .ok (.iconst 1, 1) := by decide +kernel
theorem dX12_noted_61 : decode cX12_noted 61 = .ok (.iadd, 1) := by decide +kernel
theorem dX12_noted_62 : decode cX12_noted 62 = .ok (.putfield 298, 3) := by decide +kernel
theorem dX12_noted_65 : decode cX12_noted 65 = .ok (.aload_n 0, 1) := by decide +kernel
theorem dX12_noted_66 : decode cX12_noted 66 = .ok (.getfield 298, 3) := by decide +kernel
theorem dX12_noted_69 : decode cX12_noted 69 = .ok (.iconst 1, 1) := by decide +kernel
theorem dX12_noted_70 : decode cX12_noted 70 = .ok (.isub, 1) := by decide +kernel
theorem dX12_noted_71 : decode cX12_noted 71 = .ok (.ireturn, 1) := by decide +kernel
theorem dX12_note_0 : decode cX12_note 0 = .ok (.aload_n 0, 1) := by decide +kernel
theorem dX12_note_1 : decode cX12_note 1 = .ok (.iconst 0, 1) := by decide +kernel
theorem dX12_note_2 : decode cX12_note 2 = .ok (.putfield 154, 3) := by decide +kernel
theorem dX12_note_5 : decode cX12_note 5 = .ok (.aload_n 0, 1) := by decide +kernel
theorem dX12_note_6 : decode cX12_note 6 = .ok (.getfield 298, 3) := by decide +kernel
theorem dX12_note_9 : decode cX12_note 9 = .ok (.bipush 24, 2) := by decide +kernel
theorem dX12_note_11 : decode cX12_note 11 = .ok (.if_icmp .eq 38, 3) := by decide +kernel
theorem dX12_note_14 : decode cX12_note 14 = .ok (.aload_n 0, 1) := by decide +kernel
theorem dX12_note_15 : decode cX12_note 15 = .ok (.iload_n 1, 1) := by decide +kernel
theorem dX12_note_16 : decode cX12_note 16 = .ok (.invokevirtual 462, 3) := by decide +kernel
theorem dX12_note_19 : decode cX12_note 19 = .ok (.ifCond .eq 30, 3) := by decide +kernel
theorem dX12_note_22 : decode cX12_note 22 = .ok (.aload_n 0, 1) := by decide +kernel
theorem dX12_note_23 : decode cX12_note 23 = .ok (.iload_n 2, 1) := by decide +kernel
theorem dX12_note_24 : decode cX12_note 24 = .ok (.invokevirtual 456, 3) := by decide +kernel
theorem dX12_note_27 : decode cX12_note 27 = .ok (.ifCond .eq 22, 3) := by decide +kernel
theorem dX12_note_30 : decode cX12_note 30 = .ok (.aload_n 0, 1) := by decide +kernel
theorem dX12_note_31 : decode cX12_note 31 = .ok (.iload_n 3, 1) := by decide +kernel
theorem dX12_note_32 : decode cX12_note 32 = .ok (.invokevirtual 450, 3) := by decide +kernel
theorem dX12_note_35 : decode cX12_note 35 = .ok (.ifCond .eq 14, 3) := by decide +kernel
theorem dX12_note_38 : decode cX12_note 38 = .ok (.iload 4, 2) := by decide +kernel
theorem dX12_note_40 : decode cX12_note 40 = .ok (.iconst 0, 1) := by decide +kernel
theorem dX12_note_41 : decode cX12_note 41 = .ok (.ldc 192, 2) := by decide +kernel
theorem dX12_note_43 : decode cX12_note 43 = .ok (.invokestatic 199, 3) := by decide +kernel
theorem dX12_note_46 : decode cX12_note 46 = .ok (.ifCond .ne 7, 3) := by decide +kernel
theorem dX12_note_49 : decode cX12_note 49 = .ok (.iconst (-1), 1) := by decide +kernel
theorem dX12_note_50 : decode cX12_note 50 = .ok (.goto 12, 3) := by decide +kernel
theorem dX12_note_53 : decode cX12_note 53 = .ok (.aload_n 0, 1) := by decide +kernel
theorem dX12_note_54 : decode cX12_note 54 = .ok (.iload_n 1, 1) := by decide +kernel
theorem dX12_note_55 : decode cX12_note 55 = .ok (.iload_n 2, 1) := by decide +kernel
theorem dX12_note_56 : decode cX12_note 56 = .ok (.iload_n 3, 1) := by decide +kernel
theorem dX12_note_57 : decode cX12_note 57 = .ok (.iload 4, 2) := by decide +kernel
theorem dX12_note_59 : decode cX12_note 59 = .ok (.invokevirtual 558, 3) := by decide +kernel
theorem dX12_note_62 : decode cX12_note 62 = .ok (.ireturn, 1) := by decide +kernel
theorem dX12_strike_0 : decode cX12_strike 0 = .ok (.aload_n 0, 1) := by decide +kernel
theorem dX12_strike_1 : decode cX12_strike 1 = .ok (.iconst 0, 1) := by decide +kernel
theorem dX12_strike_2 : decode cX12_strike 2 = .ok (.putfield 154, 3) := by decide +kernel
theorem dX12_strike_5 : decode cX12_strike 5 = .ok (.aload_n 0, 1) := by decide +kernel
theorem dX12_strike_6 : decode cX12_strike 6 = .ok (.getfield 298, 3) := by decide +kernel
theorem dX12_strike_9 : decode cX12_strike 9 = .ok (.bipush 24, 2) := by decide +kernel
theorem dX12_strike_11 : decode cX12_strike 11 = .ok (.if_icmp .eq 15, 3) := by decide +kernel
theorem dX12_strike_14 : decode cX12_strike 14 = .ok (.iload_n 1, 1) := by decide +kernel
theorem dX12_strike_15 : decode cX12_strike 15 = .ok (.ifCond .lt 11, 3) := by decide +kernel
theorem dX12_strike_18 : decode cX12_strike 18 = .ok (.iload_n 1, 1) := by decide +kernel
theorem dX12_strike_19 : decode cX12_strike 19 = .ok (.aload_n 0, 1) := by decide +kernel
theorem dX12_strike_20 : decode cX12_strike 20 = .ok (.getfield 298, 3) := by decide +kernel
theorem dX12_strike_23 : decode cX12_strike 23 = .ok (.if_icmp .lt 7, 3) := by decide +kernel
theorem dX12_strike_26 : decode cX12_strike 26 = .ok (.iconst (-1), 1) := by decide +kernel
theorem dX12_strike_27 : decode cX12_strike 27 = .ok (.goto 11, 3) := by decide +kernel
theorem dX12_strike_30 : decode cX12_strike 30 = .ok (.aload_n 0, 1) := by decide +kernel
theorem dX12_strike_31 : decode cX12_strike 31 = .ok (.iconst (-1), 1) := by decide +kernel
theorem dX12_strike_32 : decode cX12_strike 32 = .ok (.iconst 0, 1) := by decide +kernel
theorem dX12_strike_33 : decode cX12_strike 33 = .ok (.iconst 0, 1) := by decide +kernel
theorem dX12_strike_34 : decode cX12_strike 34 = .ok (.iload_n 1, 1) := by decide +kernel
theorem dX12_strike_35 : decode cX12_strike 35 = .ok (.invokevirtual 558, 3) := by decide +kernel
theorem dX12_strike_38 : decode cX12_strike 38 = .ok (.ireturn, 1) := by decide +kernel
theorem dX12_known_0 : decode cX12_known 0 = .ok (.aload_n 0, 1) := by decide +kernel
theorem dX12_known_1 : decode cX12_known 1 = .ok (.iconst 0, 1) := by decide +kernel
theorem dX12_known_2 : decode cX12_known 2 = .ok (.putfield 154, 3) := by decide +kernel
theorem dX12_known_5 : decode cX12_known 5 = .ok (.iload_n 1, 1) := by decide +kernel
theorem dX12_known_6 : decode cX12_known 6 = .ok (.iconst (-1), 1) := by decide +kernel
theorem dX12_known_7 : decode cX12_known 7 = .ok (.aload_n 0, 1) := by decide +kernel
theorem dX12_known_8 : decode cX12_known 8 = .ok (.getfield 298, 3) := by decide +kernel
theorem dX12_known_11 : decode cX12_known 11 = .ok (.invokestatic 199, 3) := by decide +kernel
theorem dX12_known_14 : decode cX12_known 14 = .ok (.ifCond .ne 5, 3) := by decide +kernel
theorem dX12_known_17 : decode cX12_known 17 = .ok (.iconst 0, 1) := by decide +kernel
theorem dX12_known_18 : decode cX12_known 18 = .ok (.ireturn, 1) := by decide +kernel
theorem dX12_known_19 : decode cX12_known 19 = .ok (.aload_n 0, 1) := by decide +kernel
theorem dX12_known_20 : decode cX12_known 20 = .ok (.iload_n 1, 1) := by decide +kernel
theorem dX12_known_21 : decode cX12_known 21 = .ok (.putfield 127, 3) := by decide +kernel
theorem dX12_known_24 : decode cX12_known 24 = .ok (.iconst 1, 1) := by decide +kernel
theorem dX12_known_25 : decode cX12_known 25 = .ok (.ireturn, 1) := by decide +kernel
theorem dX12_knownBy_0 : decode cX12_knownBy 0 = .ok (.aload_n 0, 1) := by decide +kernel
theorem dX12_knownBy_1 : decode cX12_knownBy 1 = .ok (.getfield 127, 3) := by decide +kernel
theorem dX12_knownBy_4 : decode cX12_knownBy 4 = .ok (.ifCond .ge 10, 3) := by decide +kernel
theorem dX12_knownBy_7 : decode cX12_knownBy 7 = .ok (.aload_n 0, 1) := by decide +kernel
theorem dX12_knownBy_8 : decode cX12_knownBy 8 = .ok (.getfield 298, 3) := by decide +kernel
theorem dX12_knownBy_11 : decode cX12_knownBy 11 = .ok (.goto 7, 3) := by decide +kernel
theorem dX12_knownBy_14 : decode cX12_knownBy 14 = .ok (.aload_n 0, 1) := by decide +kernel
theorem dX12_knownBy_15 : decode cX12_knownBy 15 = .ok (.getfield 127, 3) := by decide +kernel
theorem dX12_knownBy_18 : decode cX12_knownBy 18 = .ok (.ireturn, 1) := by decide +kernel
theorem dX12_layCounts_0 : decode cX12_layCounts 0 = .ok (.iconst 0, 1) := by decide +kernel
theorem dX12_layCounts_1 : decode cX12_layCounts 1 = .ok (.istore_n 1, 1) := by decide +kernel
theorem dX12_layCounts_2 : decode cX12_layCounts 2 = .ok (.iload_n 1, 1) := by decide +kernel
theorem dX12_layCounts_3 : decode cX12_layCounts 3 = .ok (.aload_n 0, 1) := by decide +kernel
theorem dX12_layCounts_4 : decode cX12_layCounts 4 = .ok (.invokevirtual 561, 3) := by decide +kernel
theorem dX12_layCounts_7 : decode cX12_layCounts 7 = .ok (.if_icmp .ge 16, 3) := by decide +kernel
theorem dX12_layCounts_10 : decode cX12_layCounts 10 = .ok (.aload_n 0, 1) := by decide +kernel
theorem dX12_layCounts_11 : decode cX12_layCounts 11 = .ok (.getfield 133, 3) := by decide +kernel
theorem dX12_layCounts_14 : decode cX12_layCounts 14 = .ok (.iload_n 1, 1) := by decide +kernel
theorem dX12_layCounts_15 : decode cX12_layCounts 15 = .ok (.iconst 1, 1) := by decide +kernel
theorem dX12_layCounts_16 : decode cX12_layCounts 16 = .ok (.bastore, 1) := by decide +kernel
theorem dX12_layCounts_17 : decode cX12_layCounts 17 = .ok (.iinc 1 1, 3) := by decide +kernel
theorem dX12_layCounts_20 : decode cX12_layCounts 20 = .ok (.goto (-18), 3) := by decide +kernel
theorem dX12_layCounts_23 : decode cX12_layCounts 23 = .ok (.aload_n 0, 1) := by decide +kernel
theorem dX12_layCounts_24 : decode cX12_layCounts 24 = .ok (.invokevirtual 561, 3) := by decide +kernel
theorem dX12_layCounts_27 : decode cX12_layCounts 27 = .ok (.iconst 1, 1) := by decide +kernel
theorem dX12_layCounts_28 : decode cX12_layCounts 28 = .ok (.isub, 1) := by decide +kernel
theorem dX12_layCounts_29 : decode cX12_layCounts 29 = .ok (.istore_n 1, 1) := by decide +kernel
theorem dX12_layCounts_30 : decode cX12_layCounts 30 = .ok (.iload_n 1, 1) := by decide +kernel
theorem dX12_layCounts_31 : decode cX12_layCounts 31 = .ok (.ifCond .lt 45, 3) := by decide +kernel
theorem dX12_layCounts_34 : decode cX12_layCounts 34 = .ok (.aload_n 0, 1) := by decide +kernel
theorem dX12_layCounts_35 : decode cX12_layCounts 35 = .ok (.getfield 133, 3) := by decide +kernel
theorem dX12_layCounts_38 : decode cX12_layCounts 38 = .ok (.iload_n 1, 1) := by decide +kernel
theorem dX12_layCounts_39 : decode cX12_layCounts 39 = .ok (.baload, 1) := by decide +kernel
theorem dX12_layCounts_40 : decode cX12_layCounts 40 = .ok (.ifCond .eq 30, 3) := by decide +kernel
theorem dX12_layCounts_43 : decode cX12_layCounts 43 = .ok (.aload_n 0, 1) := by decide +kernel
theorem dX12_layCounts_44 : decode cX12_layCounts 44 = .ok (.getfield 130, 3) := by decide +kernel
theorem dX12_layCounts_47 : decode cX12_layCounts 47 = .ok (.iconst 4, 1) := by decide +kernel
theorem dX12_layCounts_48 : decode cX12_layCounts 48 = .ok (.iload_n 1, 1) := by decide +kernel
theorem dX12_layCounts_49 : decode cX12_layCounts 49 = .ok (.imul, 1) := by decide +kernel
theorem dX12_layCounts_50 : decode cX12_layCounts 50 = .ok (.iaload, 1) := by decide +kernel
theorem dX12_layCounts_51 : decode cX12_layCounts 51 = .ok (.ifCond .ge 19, 3) := by decide +kernel
theorem dX12_layCounts_54 : decode cX12_layCounts 54 = .ok (.aload_n 0, 1) := by decide +kernel
theorem dX12_layCounts_55 : decode cX12_layCounts 55 = .ok (.getfield 133, 3) := by decide +kernel
theorem dX12_layCounts_58 : decode cX12_layCounts 58 = .ok (.aload_n 0, 1) := by decide +kernel
theorem dX12_layCounts_59 : decode cX12_layCounts 59 = .ok (.getfield 130, 3) := by decide +kernel
theorem dX12_layCounts_62 : decode cX12_layCounts 62 = .ok (.iconst 4, 1) := by decide +kernel
theorem dX12_layCounts_63 : decode cX12_layCounts 63 = .ok (.iload_n 1, 1) := by decide +kernel
theorem dX12_layCounts_64 : decode cX12_layCounts 64 = .ok (.imul, 1) := by decide +kernel
theorem dX12_layCounts_65 : decode cX12_layCounts 65 = .ok (.iconst 3, 1) := by decide +kernel
theorem dX12_layCounts_66 : decode cX12_layCounts 66 = .ok (.iadd, 1) := by decide +kernel
theorem dX12_layCounts_67 : decode cX12_layCounts 67 = .ok (.iaload, 1) := by decide +kernel
theorem dX12_layCounts_68 : decode cX12_layCounts 68 = .ok (.iconst 0, 1) := by decide +kernel
theorem dX12_layCounts_69 : decode cX12_layCounts 69 = .ok (.bastore, 1) := by decide +kernel
theorem dX12_layCounts_70 : decode cX12_layCounts 70 = .ok (.iinc 1 (-1), 3) := by decide +kernel
theorem dX12_layCounts_73 : decode cX12_layCounts 73 = .ok (.goto (-43), 3) := by decide +kernel
theorem dX12_layCounts_76 : decode cX12_layCounts 76 = .ok (.return_, 1) := by decide +kernel
theorem dX12_isSo_0 : decode cX12_isSo 0 = .ok (.iconst 0, 1) := by decide +kernel
theorem dX12_isSo_1 : decode cX12_isSo 1 = .ok (.istore 4, 2) := by decide +kernel
theorem dX12_isSo_3 : decode cX12_isSo 3 = .ok (.iload 4, 2) := by decide +kernel
theorem dX12_isSo_5 : decode cX12_isSo 5 = .ok (.aload_n 0, 1) := by decide +kernel
theorem dX12_isSo_6 : decode cX12_isSo 6 = .ok (.invokevirtual 561, 3) := by decide +kernel
theorem dX12_isSo_9 : decode cX12_isSo 9 = .ok (.if_icmp .ge 104, 3) := by decide +kernel
theorem dX12_isSo_12 : decode cX12_isSo 12 = .ok (.aload_n 0, 1) := by decide +kernel
theorem dX12_isSo_13 : decode cX12_isSo 13 = .ok (.getfield 133, 3) := by decide +kernel
theorem dX12_isSo_16 : decode cX12_isSo 16 = .ok (.iload 4, 2) := by decide +kernel
theorem dX12_isSo_18 : decode cX12_isSo 18 = .ok (.baload, 1) := by decide +kernel
theorem dX12_isSo_19 : decode cX12_isSo 19 = .ok (.ifCond .eq 88, 3) := by decide +kernel
theorem dX12_isSo_22 : decode cX12_isSo 22 = .ok (.aload_n 0, 1) := by decide +kernel
theorem dX12_isSo_23 : decode cX12_isSo 23 = .ok (.getfield 130, 3) := by decide +kernel
theorem dX12_isSo_26 : decode cX12_isSo 26 = .ok (.iconst 4, 1) := by decide +kernel
theorem dX12_isSo_27 : decode cX12_isSo 27 = .ok (.iload 4, 2) := by decide +kernel
theorem dX12_isSo_29 : decode cX12_isSo 29 = .ok (.imul, 1) := by decide +kernel
theorem dX12_isSo_30 : decode cX12_isSo 30 = .ok (.iaload, 1) := by decide +kernel
theorem dX12_isSo_31 : decode cX12_isSo 31 = .ok (.iload_n 1, 1) := by decide +kernel
theorem dX12_isSo_32 : decode cX12_isSo 32 = .ok (.if_icmp .eq 6, 3) := by decide +kernel
theorem dX12_isSo_35 : decode cX12_isSo 35 = .ok (.goto 72, 3) := by decide +kernel
theorem dX12_isSo_38 : decode cX12_isSo 38 = .ok (.aload_n 0, 1) := by decide +kernel
theorem dX12_isSo_39 : decode cX12_isSo 39 = .ok (.iload_n 1, 1) := by decide +kernel
theorem dX12_isSo_40 : decode cX12_isSo 40 = .ok (.invokevirtual 467, 3) := by decide +kernel
theorem dX12_isSo_43 : decode cX12_isSo 43 = .ok (.aload_n 0, 1) := by decide +kernel
theorem dX12_isSo_44 : decode cX12_isSo 44 = .ok (.iload_n 2, 1) := by decide +kernel
theorem dX12_isSo_45 : decode cX12_isSo 45 = .ok (.putfield 444, 3) := by decide +kernel
theorem dX12_isSo_48 : decode cX12_isSo 48 = .ok (.aload_n 0, 1) := by decide +kernel
theorem dX12_isSo_49 : decode cX12_isSo 49 = .ok (.iload_n 2, 1) := by decide +kernel
theorem dX12_isSo_50 : decode cX12_isSo 50 = .ok (.putfield 417, 3) := by decide +kernel
theorem dX12_isSo_53 : decode cX12_isSo 53 = .ok (.aload_n 0, 1) := by decide +kernel
theorem dX12_isSo_54 : decode cX12_isSo 54 = .ok (.iload_n 3, 1) := by decide +kernel
theorem dX12_isSo_55 : decode cX12_isSo 55 = .ok (.putfield 420, 3) := by decide +kernel
theorem dX12_isSo_58 : decode cX12_isSo 58 = .ok (.aload_n 0, 1) := by decide +kernel
theorem dX12_isSo_59 : decode cX12_isSo 59 = .ok (.aload_n 0, 1) := by decide +kernel
theorem dX12_isSo_60 : decode cX12_isSo 60 = .ok (.getfield 130, 3) := by decide +kernel
theorem dX12_isSo_63 : decode cX12_isSo 63 = .ok (.iconst 4, 1) := by decide +kernel
theorem dX12_isSo_64 : decode cX12_isSo 64 = .ok (.iload 4, 2) := by decide +kernel
theorem dX12_isSo_66 : decode cX12_isSo 66 = .ok (.imul, 1) := by decide +kernel
theorem dX12_isSo_67 : decode cX12_isSo 67 = .ok (.iconst 1, 1) := by decide +kernel
theorem dX12_isSo_68 : decode cX12_isSo 68 = .ok (.iadd, 1) := by decide +kernel
theorem dX12_isSo_69 : decode cX12_isSo 69 = .ok (.iaload, 1) := by decide +kernel
theorem dX12_isSo_70 : decode cX12_isSo 70 = .ok (.aload_n 0, 1) := by decide +kernel
theorem dX12_isSo_71 : decode cX12_isSo 71 = .ok (.getfield 130, 3) := by decide +kernel
theorem dX12_isSo_74 : decode cX12_isSo 74 = .ok (.iconst 4, 1) := by decide +kernel
theorem dX12_isSo_75 : decode cX12_isSo 75 = .ok (.iload 4, 2) := by decide +kernel
theorem dX12_isSo_77 : decode cX12_isSo 77 = .ok (.imul, 1) := by decide +kernel
theorem dX12_isSo_78 : decode cX12_isSo 78 = .ok (.iconst 2, 1) := by decide +kernel
theorem dX12_isSo_79 : decode cX12_isSo 79 = .ok (.iadd, 1) := by decide +kernel
theorem dX12_isSo_80 : decode cX12_isSo 80 = .ok (.iaload, 1) := by decide +kernel
theorem dX12_isSo_81 : decode cX12_isSo 81 = .ok (.invokevirtual 473, 3) := by decide +kernel
theorem dX12_isSo_84 : decode cX12_isSo 84 = .ok (.ifCond .eq 21, 3) := by decide +kernel
theorem dX12_isSo_87 : decode cX12_isSo 87 = .ok (.aload_n 0, 1) := by decide +kernel
theorem dX12_isSo_88 : decode cX12_isSo 88 = .ok (.getfield 441, 3) := by decide +kernel
theorem dX12_isSo_91 : decode cX12_isSo 91 = .ok (.aload_n 0, 1) := by decide +kernel
theorem dX12_isSo_92 : decode cX12_isSo 92 = .ok (.getfield 130, 3) := by decide +kernel
theorem dX12_isSo_95 : decode cX12_isSo 95 = .ok (.iconst 4, 1) := by decide +kernel
theorem dX12_isSo_96 : decode cX12_isSo 96 = .ok (.iload 4, 2) := by decide +kernel
theorem dX12_isSo_98 : decode cX12_isSo 98 = .ok (.imul, 1) := by decide +kernel
theorem dX12_isSo_99 : decode cX12_isSo 99 = .ok (.iconst 3, 1) := by decide +kernel
theorem dX12_isSo_100 : decode cX12_isSo 100 = .ok (.iadd, 1) := by decide +kernel
theorem dX12_isSo_101 : decode cX12_isSo 101 = .ok (.iaload, 1) := by decide +kernel
theorem dX12_isSo_102 : decode cX12_isSo 102 = .ok (.if_icmp .eq 5, 3) := by decide +kernel
theorem dX12_isSo_105 : decode cX12_isSo 105 = .ok (.iconst 0, 1) := by decide +kernel
theorem dX12_isSo_106 : decode cX12_isSo 106 = .ok (.ireturn, 1) := by decide +kernel
theorem dX12_isSo_107 : decode cX12_isSo 107 = .ok (.iinc 4 1, 3) := by decide +kernel
theorem dX12_isSo_110 : decode cX12_isSo 110 = .ok (.goto (-107), 3) := by decide +kernel
theorem dX12_isSo_113 : decode cX12_isSo 113 = .ok (.iconst 1, 1) := by decide +kernel
theorem dX12_isSo_114 : decode cX12_isSo 114 = .ok (.ireturn, 1) := by decide +kernel
theorem dX12_layFits_0 : decode cX12_layFits 0 = .ok (.aload_n 0, 1) := by decide +kernel
theorem dX12_layFits_1 : decode cX12_layFits 1 = .ok (.invokevirtual 564, 3) := by decide +kernel
theorem dX12_layFits_4 : decode cX12_layFits 4 = .ok (.aload_n 0, 1) := by decide +kernel
theorem dX12_layFits_5 : decode cX12_layFits 5 = .ok (.getfield 136, 3) := by decide +kernel
theorem dX12_layFits_8 : decode cX12_layFits 8 = .ok (.iconst 0, 1) := by decide +kernel
theorem dX12_layFits_9 : decode cX12_layFits 9 = .ok (.iconst 0, 1) := by decide +kernel
theorem dX12_layFits_10 : decode cX12_layFits 10 = .ok (.iastore, 1) := by decide +kernel
theorem dX12_layFits_11 : decode cX12_layFits 11 = .ok (.iconst 1, 1) := by decide +kernel
theorem dX12_layFits_12 : decode cX12_layFits 12 = .ok (.istore_n 2, 1) := by decide +kernel
theorem dX12_layFits_13 : decode cX12_layFits 13 = .ok (.iload_n 2, 1) := by decide +kernel
theorem dX12_layFits_14 : decode cX12_layFits 14 = .ok (.iconst 5, 1) := by decide +kernel
theorem dX12_layFits_15 : decode cX12_layFits 15 = .ok (.if_icmp .ge 17, 3) := by decide +kernel
theorem dX12_layFits_18 : decode cX12_layFits 18 = .ok (.aload_n 0, 1) := by decide +kernel
theorem dX12_layFits_19 : decode cX12_layFits 19 = .ok (.getfield 136, 3) := by decide +kernel
theorem dX12_layFits_22 : decode cX12_layFits 22 = .ok (.iload_n 2, 1) := by decide +kernel
theorem dX12_layFits_23 : decode cX12_layFits 23 = .ok (.bipush (-2), 2) := by decide +kernel
theorem dX12_layFits_25 : decode cX12_layFits 25 = .ok (.iastore, 1) := by decide +kernel
theorem dX12_layFits_26 : decode cX12_layFits 26 = .ok (.iinc 2 1, 3) := by decide +kernel
theorem dX12_layFits_29 : decode cX12_layFits 29 = .ok (.goto (-16), 3) := by decide +kernel
theorem dX12_layFits_32 : decode cX12_layFits 32 = .ok (.iconst 1, 1) := by decide +kernel
theorem dX12_layFits_33 : decode cX12_layFits 33 = .ok (.istore_n 2, 1) := by decide +kernel
theorem dX12_layFits_34 : decode cX12_layFits 34 = .ok (.iload_n 2, 1) := by decide +kernel
theorem dX12_layFits_35 : decode cX12_layFits 35 = .ok (.bipush 60, 2) := by decide +kernel
theorem dX12_layFits_37 : decode cX12_layFits 37 = .ok (.if_icmp .gt 139, 3) := by decide +kernel
theorem dX12_layFits_40 : decode cX12_layFits 40 = .ok (.iconst 1, 1) := by decide +kernel
theorem dX12_layFits_41 : decode cX12_layFits 41 = .ok (.istore_n 3, 1) := by decide +kernel
theorem dX12_layFits_42 : decode cX12_layFits 42 = .ok (.iload_n 3, 1) := by decide +kernel
theorem dX12_layFits_43 : decode cX12_layFits 43 = .ok (.bipush 40, 2) := by decide +kernel
theorem dX12_layFits_45 : decode cX12_layFits 45 = .ok (.if_icmp .gt 125, 3) := by decide +kernel
theorem dX12_layFits_48 : decode cX12_layFits 48 = .ok (.aload_n 0, 1) := by decide +kernel
theorem dX12_layFits_49 : decode cX12_layFits 49 = .ok (.iload_n 1, 1) := by decide +kernel
theorem dX12_layFits_50 : decode cX12_layFits 50 = .ok (.iload_n 2, 1) := by decide +kernel
theorem dX12_layFits_51 : decode cX12_layFits 51 = .ok (.iload_n 3, 1) := by decide +kernel
theorem dX12_layFits_52 : decode cX12_layFits 52 = .ok (.invokevirtual 567, 3) := by decide +kernel
theorem dX12_layFits_55 : decode cX12_layFits 55 = .ok (.ifCond .ne 6, 3) := by decide +kernel
theorem dX12_layFits_58 : decode cX12_layFits 58 = .ok (.goto 106, 3) := by decide +kernel
theorem dX12_layFits_61 : decode cX12_layFits 61 = .ok (.aload_n 0, 1) := by decide +kernel
theorem dX12_layFits_62 : decode cX12_layFits 62 = .ok (.getfield 136, 3) := by decide +kernel
theorem dX12_layFits_65 : decode cX12_layFits 65 = .ok (.iconst 0, 1) := by decide +kernel
theorem dX12_layFits_66 : decode cX12_layFits 66 = .ok (.dup2, 1) := by decide +kernel
theorem dX12_layFits_67 : decode cX12_layFits 67 = .ok (.iaload, 1) := by decide +kernel
theorem dX12_layFits_68 : decode cX12_layFits 68 = .ok (.iconst 1, 1) := by decide +kernel
theorem dX12_layFits_69 : decode cX12_layFits 69 = .ok (.iadd, 1) := by decide +kernel
theorem dX12_layFits_70 : decode cX12_layFits 70 = .ok (.iastore, 1) := by decide +kernel
theorem dX12_layFits_71 : decode cX12_layFits 71 = .ok (.aload_n 0, 1) := by decide +kernel
theorem dX12_layFits_72 : decode cX12_layFits 72 = .ok (.getfield 136, 3) := by decide +kernel
theorem dX12_layFits_75 : decode cX12_layFits 75 = .ok (.iconst 1, 1) := by decide +kernel
theorem dX12_layFits_76 : decode cX12_layFits 76 = .ok (.aload_n 0, 1) := by decide +kernel
theorem dX12_layFits_77 : decode cX12_layFits 77 = .ok (.getfield 136, 3) := by decide +kernel
theorem dX12_layFits_80 : decode cX12_layFits 80 = .ok (.iconst 1, 1) := by decide +kernel
theorem dX12_layFits_81 : decode cX12_layFits 81 = .ok (.iaload, 1) := by decide +kernel
theorem dX12_layFits_82 : decode cX12_layFits 82 = .ok (.ifCond .ge 7, 3) := by decide +kernel
theorem dX12_layFits_85 : decode cX12_layFits 85 = .ok (.iload_n 2, 1) := by decide +kernel
theorem dX12_layFits_86 : decode cX12_layFits 86 = .ok (.goto 9, 3) := by decide +kernel
theorem dX12_layFits_89 : decode cX12_layFits 89 = .ok (.aload_n 0, 1) := by decide +kernel
theorem dX12_layFits_90 : decode cX12_layFits 90 = .ok (.getfield 136, 3) := by decide +kernel
theorem dX12_layFits_93 : decode cX12_layFits 93 = .ok (.iconst 1, 1) := by decide +kernel
theorem dX12_layFits_94 : decode cX12_layFits 94 = .ok (.iaload, 1) := by decide +kernel
theorem dX12_layFits_95 : decode cX12_layFits 95 = .ok (.iastore, 1) := by decide +kernel
theorem dX12_layFits_96 : decode cX12_layFits 96 = .ok (.aload_n 0, 1) := by decide +kernel
theorem dX12_layFits_97 : decode cX12_layFits 97 = .ok (.getfield 136, 3) := by decide +kernel
theorem dX12_layFits_100 : decode cX12_layFits 100 = .ok (.iconst 2, 1) := by decide +kernel
theorem dX12_layFits_101 : decode cX12_layFits 101 = .ok (.iload_n 2, 1) := by decide +kernel
theorem dX12_layFits_102 : decode cX12_layFits 102 = .ok (.iastore, 1) := by decide +kernel
theorem dX12_layFits_103 : decode cX12_layFits 103 = .ok (.aload_n 0, 1) := by decide +kernel
theorem dX12_layFits_104 : decode cX12_layFits 104 = .ok (.getfield 136, 3) := by decide +kernel
theorem dX12_layFits_107 : decode cX12_layFits 107 = .ok (.iconst 3, 1) := by decide +kernel
theorem dX12_layFits_108 : decode cX12_layFits 108 = .ok (.aload_n 0, 1) := by decide +kernel
theorem dX12_layFits_109 : decode cX12_layFits 109 = .ok (.getfield 136, 3) := by decide +kernel
theorem dX12_layFits_112 : decode cX12_layFits 112 = .ok (.iconst 3, 1) := by decide +kernel
theorem dX12_layFits_113 : decode cX12_layFits 113 = .ok (.iaload, 1) := by decide +kernel
theorem dX12_layFits_114 : decode cX12_layFits 114 = .ok (.ifCond .lt 13, 3) := by decide +kernel
theorem dX12_layFits_117 : decode cX12_layFits 117 = .ok (.iload_n 3, 1) := by decide +kernel
theorem dX12_layFits_118 : decode cX12_layFits 118 = .ok (.aload_n 0, 1) := by decide +kernel
theorem dX12_layFits_119 : decode cX12_layFits 119 = .ok (.getfield 136, 3) := by decide +kernel
theorem dX12_layFits_122 : decode cX12_layFits 122 = .ok (.iconst 3, 1) := by decide +kernel
theorem dX12_layFits_123 : decode cX12_layFits 123 = .ok (.iaload, 1) := by decide +kernel
theorem dX12_layFits_124 : decode cX12_layFits 124 = .ok (.if_icmp .ge 7, 3) := by decide +kernel
theorem dX12_layFits_127 : decode cX12_layFits 127 = .ok (.iload_n 3, 1) := by decide +kernel
theorem dX12_layFits_128 : decode cX12_layFits 128 = .ok (.goto 9, 3) := by decide +kernel
theorem dX12_layFits_131 : decode cX12_layFits 131 = .ok (.aload_n 0, 1) := by decide +kernel
theorem dX12_layFits_132 : decode cX12_layFits 132 = .ok (.getfield 136, 3) := by decide +kernel
theorem dX12_layFits_135 : decode cX12_layFits 135 = .ok (.iconst 3, 1) := by decide +kernel
theorem dX12_layFits_136 : decode cX12_layFits 136 = .ok (.iaload, 1) := by decide +kernel
theorem dX12_layFits_137 : decode cX12_layFits 137 = .ok (.iastore, 1) := by decide +kernel
theorem dX12_layFits_138 : decode cX12_layFits 138 = .ok (.aload_n 0, 1) := by decide +kernel
theorem dX12_layFits_139 : decode cX12_layFits 139 = .ok (.getfield 136, 3) := by decide +kernel
theorem dX12_layFits_142 : decode cX12_layFits 142 = .ok (.iconst 4, 1) := by decide +kernel
theorem dX12_layFits_143 : decode cX12_layFits 143 = .ok (.iload_n 3, 1) := by decide +kernel
theorem dX12_layFits_144 : decode cX12_layFits 144 = .ok (.aload_n 0, 1) := by decide +kernel
theorem dX12_layFits_145 : decode cX12_layFits 145 = .ok (.getfield 136, 3) := by decide +kernel
theorem dX12_layFits_148 : decode cX12_layFits 148 = .ok (.iconst 4, 1) := by decide +kernel
theorem dX12_layFits_149 : decode cX12_layFits 149 = .ok (.iaload, 1) := by decide +kernel
theorem dX12_layFits_150 : decode cX12_layFits 150 = .ok (.if_icmp .le 7, 3) := by decide +kernel
theorem dX12_layFits_153 : decode cX12_layFits 153 = .ok (.iload_n 3, 1) := by decide +kernel
theorem dX12_layFits_154 : decode cX12_layFits 154 = .ok (.goto 9, 3) := by decide +kernel
theorem dX12_layFits_157 : decode cX12_layFits 157 = .ok (.aload_n 0, 1) := by decide +kernel
theorem dX12_layFits_158 : decode cX12_layFits 158 = .ok (.getfield 136, 3) := by decide +kernel
theorem dX12_layFits_161 : decode cX12_layFits 161 = .ok (.iconst 4, 1) := by decide +kernel
theorem dX12_layFits_162 : decode cX12_layFits 162 = .ok (.iaload, 1) := by decide +kernel
theorem dX12_layFits_163 : decode cX12_layFits 163 = .ok (.iastore, 1) := by decide +kernel
theorem dX12_layFits_164 : decode cX12_layFits 164 = .ok (.iinc 3 1, 3) := by decide +kernel
theorem dX12_layFits_167 : decode cX12_layFits 167 = .ok (.goto (-125), 3) := by decide +kernel
theorem dX12_layFits_170 : decode cX12_layFits 170 = .ok (.iinc 2 1, 3) := by decide +kernel
theorem dX12_layFits_173 : decode cX12_layFits 173 = .ok (.goto (-139), 3) := by decide +kernel
theorem dX12_layFits_176 : decode cX12_layFits 176 = .ok (.return_, 1) := by decide +kernel
theorem dX12_fits_0 : decode cX12_fits 0 = .ok (.aload_n 0, 1) := by decide +kernel
theorem dX12_fits_1 : decode cX12_fits 1 = .ok (.iconst 0, 1) := by decide +kernel
theorem dX12_fits_2 : decode cX12_fits 2 = .ok (.putfield 154, 3) := by decide +kernel
theorem dX12_fits_5 : decode cX12_fits 5 = .ok (.aload_n 0, 1) := by decide +kernel
theorem dX12_fits_6 : decode cX12_fits 6 = .ok (.iload_n 1, 1) := by decide +kernel
theorem dX12_fits_7 : decode cX12_fits 7 = .ok (.invokevirtual 462, 3) := by decide +kernel
theorem dX12_fits_10 : decode cX12_fits 10 = .ok (.ifCond .eq 12, 3) := by decide +kernel
theorem dX12_fits_13 : decode cX12_fits 13 = .ok (.iload_n 2, 1) := by decide +kernel
theorem dX12_fits_14 : decode cX12_fits 14 = .ok (.iconst 0, 1) := by decide +kernel
theorem dX12_fits_15 : decode cX12_fits 15 = .ok (.iconst 4, 1) := by decide +kernel
theorem dX12_fits_16 : decode cX12_fits 16 = .ok (.invokestatic 199, 3) := by decide +kernel
theorem dX12_fits_19 : decode cX12_fits 19 = .ok (.ifCond .ne 5, 3) := by decide +kernel
theorem dX12_fits_22 : decode cX12_fits 22 = .ok (.iconst (-1), 1) := by decide +kernel
theorem dX12_fits_23 : decode cX12_fits 23 = .ok (.ireturn, 1) := by decide +kernel
theorem dX12_fits_24 : decode cX12_fits 24 = .ok (.aload_n 0, 1) := by decide +kernel
theorem dX12_fits_25 : decode cX12_fits 25 = .ok (.iload_n 1, 1) := by decide +kernel
theorem dX12_fits_26 : decode cX12_fits 26 = .ok (.invokevirtual 570, 3) := by decide +kernel
theorem dX12_fits_29 : decode cX12_fits 29 = .ok (.aload_n 0, 1) := by decide +kernel
theorem dX12_fits_30 : decode cX12_fits 30 = .ok (.getfield 136, 3) := by decide +kernel
theorem dX12_fits_33 : decode cX12_fits 33 = .ok (.iload_n 2, 1) := by decide +kernel
theorem dX12_fits_34 : decode cX12_fits 34 = .ok (.iaload, 1) := by decide +kernel
theorem dX12_fits_35 : decode cX12_fits 35 = .ok (.ireturn, 1) := by decide +kernel
theorem dX12_races_0 : decode cX12_races 0 = .ok (.aload_n 0, 1) := by decide +kernel
theorem dX12_races_1 : decode cX12_races 1 = .ok (.iload_n 1, 1) := by decide +kernel
theorem dX12_races_2 : decode cX12_races 2 = .ok (.invokevirtual 467, 3) := by decide +kernel
theorem dX12_races_5 : decode cX12_races 5 = .ok (.aload_n 0, 1) := by decide +kernel
theorem dX12_races_6 : decode cX12_races 6 = .ok (.getfield 63, 3) := by decide +kernel
theorem dX12_races_9 : decode cX12_races 9 = .ok (.iload_n 2, 1) := by decide +kernel
theorem dX12_races_10 : decode cX12_races 10 = .ok (.iaload, 1) := by decide +kernel
theorem dX12_races_11 : decode cX12_races 11 = .ok (.istore_n 3, 1) := by decide +kernel
theorem dX12_races_12 : decode cX12_races 12 = .ok (.iconst 0, 1) := by decide +kernel
theorem dX12_races_13 : decode cX12_races 13 = .ok (.istore 4, 2) := by decide +kernel
theorem dX12_races_15 : decode cX12_races 15 = .ok (.iload 4, 2) := by decide +kernel
theorem dX12_races_17 : decode cX12_races 17 = .ok (.aload_n 0, 1) := by decide +kernel
theorem dX12_races_18 : decode cX12_races 18 = .ok (.getfield 250, 3) := by decide +kernel
theorem dX12_races_21 : decode cX12_races 21 = .ok (.if_icmp .ge 79, 3) := by decide +kernel
theorem dX12_races_24 : decode cX12_races 24 = .ok (.iconst 0, 1) := by decide +kernel
theorem dX12_races_25 : decode cX12_races 25 = .ok (.istore 5, 2) := by decide +kernel
theorem dX12_races_27 : decode cX12_races 27 = .ok (.iload 5, 2) := by decide +kernel
theorem dX12_races_29 : decode cX12_races 29 = .ok (.aload_n 0, 1) := by decide +kernel
theorem dX12_races_30 : decode cX12_races 30 = .ok (.getfield 23, 3) := by decide +kernel
theorem dX12_races_33 : decode cX12_races 33 = .ok (.iload 4, 2) := by decide +kernel
theorem dX12_races_35 : decode cX12_races 35 = .ok (.iaload, 1) := by decide +kernel
theorem dX12_races_36 : decode cX12_races 36 = .ok (.if_icmp .ge 58, 3) := by decide +kernel
theorem dX12_races_39 : decode cX12_races 39 = .ok (.aload_n 0, 1) := by decide +kernel
theorem dX12_races_40 : decode cX12_races 40 = .ok (.iload 4, 2) := by decide +kernel
theorem dX12_races_42 : decode cX12_races 42 = .ok (.iload_n 3, 1) := by decide +kernel
theorem dX12_races_43 : decode cX12_races 43 = .ok (.aload_n 0, 1) := by decide +kernel
theorem dX12_races_44 : decode cX12_races 44 = .ok (.iload_n 2, 1) := by decide +kernel
theorem dX12_races_45 : decode cX12_races 45 = .ok (.iload 4, 2) := by decide +kernel
theorem dX12_races_47 : decode cX12_races 47 = .ok (.invokevirtual 459, 3) := by decide +kernel
theorem dX12_races_50 : decode cX12_races 50 = .ok (.invokevirtual 470, 3) := by decide +kernel
theorem dX12_races_53 : decode cX12_races 53 = .ok (.aload_n 0, 1) := by decide +kernel
theorem dX12_races_54 : decode cX12_races 54 = .ok (.iload 4, 2) := by decide +kernel
theorem dX12_races_56 : decode cX12_races 56 = .ok (.iload_n 3, 1) := by decide +kernel
theorem dX12_races_57 : decode cX12_races 57 = .ok (.invokevirtual 505, 3) := by decide +kernel
theorem dX12_races_60 : decode cX12_races 60 = .ok (.ifCond .eq 18, 3) := by decide +kernel
theorem dX12_races_63 : decode cX12_races 63 = .ok (.aload_n 0, 1) := by decide +kernel
theorem dX12_races_64 : decode cX12_races 64 = .ok (.dup, 1) := by decide +kernel
theorem dX12_races_65 : decode cX12_races 65 = .ok (.getfield 441, 3) := by decide +kernel
theorem dX12_races_68 : decode cX12_races 68 = .ok (.aload_n 0, 1) := by decide +kernel
theorem dX12_races_69 : decode cX12_races 69 = .ok (.getfield 57, 3) := by decide +kernel
theorem dX12_races_72 : decode cX12_races 72 = .ok (.iload_n 3, 1) := by decide +kernel
theorem dX12_races_73 : decode cX12_races 73 = .ok (.iaload, 1) := by decide +kernel
theorem dX12_races_74 : decode cX12_races 74 = .ok (.iadd, 1) := by decide +kernel
theorem dX12_races_75 : decode cX12_races 75 = .ok (.putfield 441, 3) := by decide +kernel
theorem dX12_races_78 : decode cX12_races 78 = .ok (.aload_n 0, 1) := by decide +kernel
theorem dX12_races_79 : decode cX12_races 79 = .ok (.getfield 420, 3) := by decide +kernel
theorem dX12_races_82 : decode cX12_races 82 = .ok (.ifCond .ne 6, 3) := by decide +kernel
theorem dX12_races_85 : decode cX12_races 85 = .ok (.ldc 192, 2) := by decide +kernel
theorem dX12_races_87 : decode cX12_races 87 = .ok (.ireturn, 1) := by decide +kernel
theorem dX12_races_88 : decode cX12_races 88 = .ok (.iinc 5 1, 3) := by decide +kernel
theorem dX12_races_91 : decode cX12_races 91 = .ok (.goto (-64), 3) := by decide +kernel
theorem dX12_races_94 : decode cX12_races 94 = .ok (.iinc 4 1, 3) := by decide +kernel
theorem dX12_races_97 : decode cX12_races 97 = .ok (.goto (-82), 3) := by decide +kernel
theorem dX12_races_100 : decode cX12_races 100 = .ok (.aload_n 0, 1) := by decide +kernel
theorem dX12_races_101 : decode cX12_races 101 = .ok (.getfield 441, 3) := by decide +kernel
theorem dX12_races_104 : decode cX12_races 104 = .ok (.ireturn, 1) := by decide +kernel
theorem dX12_wins_0 : decode cX12_wins 0 = .ok (.aload_n 0, 1) := by decide +kernel
theorem dX12_wins_1 : decode cX12_wins 1 = .ok (.iconst 0, 1) := by decide +kernel
theorem dX12_wins_2 : decode cX12_wins 2 = .ok (.putfield 154, 3) := by decide +kernel
theorem dX12_wins_5 : decode cX12_wins 5 = .ok (.iload_n 1, 1) := by decide +kernel
theorem dX12_wins_6 : decode cX12_wins 6 = .ok (.ifCond .lt 42, 3) := by decide +kernel
theorem dX12_wins_9 : decode cX12_wins 9 = .ok (.iload_n 2, 1) := by decide +kernel
theorem dX12_wins_10 : decode cX12_wins 10 = .ok (.ifCond .lt 38, 3) := by decide +kernel
theorem dX12_wins_13 : decode cX12_wins 13 = .ok (.iload_n 2, 1) := by decide +kernel
theorem dX12_wins_14 : decode cX12_wins 14 = .ok (.aload_n 0, 1) := by decide +kernel
theorem dX12_wins_15 : decode cX12_wins 15 = .ok (.getfield 253, 3) := by decide +kernel
theorem dX12_wins_18 : decode cX12_wins 18 = .ok (.ishr, 1) := by decide +kernel
theorem dX12_wins_19 : decode cX12_wins 19 = .ok (.ifCond .ne 29, 3) := by decide +kernel
theorem dX12_wins_22 : decode cX12_wins 22 = .ok (.aload_n 0, 1) := by decide +kernel
theorem dX12_wins_23 : decode cX12_wins 23 = .ok (.iload_n 3, 1) := by decide +kernel
theorem dX12_wins_24 : decode cX12_wins 24 = .ok (.invokevirtual 456, 3) := by decide +kernel
theorem dX12_wins_27 : decode cX12_wins 27 = .ok (.ifCond .eq 21, 3) := by decide +kernel
theorem dX12_wins_30 : decode cX12_wins 30 = .ok (.aload_n 0, 1) := by decide +kernel
theorem dX12_wins_31 : decode cX12_wins 31 = .ok (.iload 4, 2) := by decide +kernel
theorem dX12_wins_33 : decode cX12_wins 33 = .ok (.invokevirtual 462, 3) := by decide +kernel
theorem dX12_wins_36 : decode cX12_wins 36 = .ok (.ifCond .eq 12, 3) := by decide +kernel
theorem dX12_wins_39 : decode cX12_wins 39 = .ok (.iload_n 2, 1) := by decide +kernel
theorem dX12_wins_40 : decode cX12_wins 40 = .ok (.iload 4, 2) := by decide +kernel
theorem dX12_wins_42 : decode cX12_wins 42 = .ok (.invokestatic 573, 3) := by decide +kernel
theorem dX12_wins_45 : decode cX12_wins 45 = .ok (.ifCond .ne 5, 3) := by decide +kernel
theorem dX12_wins_48 : decode cX12_wins 48 = .ok (.iconst (-1), 1) := by decide +kernel
theorem dX12_wins_49 : decode cX12_wins 49 = .ok (.ireturn, 1) := by decide +kernel
theorem dX12_wins_50 : decode cX12_wins 50 = .ok (.aload_n 0, 1) := by decide +kernel
theorem dX12_wins_51 : decode cX12_wins 51 = .ok (.getfield 288, 3) := by decide +kernel
theorem dX12_wins_54 : decode cX12_wins 54 = .ok (.lstore 5, 2) := by decide +kernel
theorem dX12_wins_56 : decode cX12_wins 56 = .ok (.aload_n 0, 1) := by decide +kernel
theorem dX12_wins_57 : decode cX12_wins 57 = .ok (.iload_n 1, 1) := by decide +kernel
theorem dX12_wins_58 : decode cX12_wins 58 = .ok (.i2l, 1) := by decide +kernel
theorem dX12_wins_59 : decode cX12_wins 59 = .ok (.putfield 288, 3) := by decide +kernel
theorem dX12_wins_62 : decode cX12_wins 62 = .ok (.iconst 0, 1) := by decide +kernel
theorem dX12_wins_63 : decode cX12_wins 63 = .ok (.istore 7, 2) := by decide +kernel
theorem dX12_wins_65 : decode cX12_wins 65 = .ok (.iconst 0, 1) := by decide +kernel
theorem dX12_wins_66 : decode cX12_wins 66 = .ok (.istore 8, 2) := by decide +kernel
theorem dX12_wins_68 : decode cX12_wins 68 = .ok (.iload 8, 2) := by decide +kernel
theorem dX12_wins_70 : decode cX12_wins 70 = .ok (.bipush 10, 2) := by decide +kernel
theorem dX12_wins_72 : decode cX12_wins 72 = .ok (.if_icmp .ge 90, 3) := by decide +kernel
theorem dX12_wins_75 : decode cX12_wins 75 = .ok (.iconst (-1), 1) := by decide +kernel
theorem dX12_wins_76 : decode cX12_wins 76 = .ok (.istore 9, 2) := by decide +kernel
theorem dX12_wins_78 : decode cX12_wins 78 = .ok (.ldc 192, 2) := by decide +kernel
theorem dX12_wins_80 : decode cX12_wins 80 = .ok (.istore 10, 2) := by decide +kernel
theorem dX12_wins_82 : decode cX12_wins 82 = .ok (.iconst 0, 1) := by decide +kernel
theorem dX12_wins_83 : decode cX12_wins 83 = .ok (.istore 11, 2) := by decide +kernel
theorem dX12_wins_85 : decode cX12_wins 85 = .ok (.iload 11, 2) := by decide +kernel
theorem dX12_wins_87 : decode cX12_wins 87 = .ok (.aload_n 0, 1) := by decide +kernel
theorem dX12_wins_88 : decode cX12_wins 88 = .ok (.getfield 253, 3) := by decide +kernel
theorem dX12_wins_91 : decode cX12_wins 91 = .ok (.if_icmp .ge 48, 3) := by decide +kernel
theorem dX12_wins_94 : decode cX12_wins 94 = .ok (.iload_n 2, 1) := by decide +kernel
theorem dX12_wins_95 : decode cX12_wins 95 = .ok (.iload 11, 2) := by decide +kernel
theorem dX12_wins_97 : decode cX12_wins 97 = .ok (.invokestatic 573, 3) := by decide +kernel
theorem dX12_wins_100 : decode cX12_wins 100 = .ok (.ifCond .ne 6, 3) := by decide +kernel
theorem dX12_wins_103 : decode cX12_wins 103 = .ok (.goto 30, 3) := by decide +kernel
theorem dX12_wins_106 : decode cX12_wins 106 = .ok (.aload_n 0, 1) := by decide +kernel
theorem dX12_wins_107 : decode cX12_wins 107 = .ok (.iload 11, 2) := by decide +kernel
theorem dX12_wins_109 : decode cX12_wins 109 = .ok (.iload_n 3, 1) := by decide +kernel
theorem dX12_wins_110 : decode cX12_wins 110 = .ok (.invokevirtual 576, 3) := by decide +kernel
theorem dX12_wins_113 : decode cX12_wins 113 = .ok (.istore 12, 2) := by decide +kernel
theorem dX12_wins_115 : decode cX12_wins 115 = .ok (.iload 12, 2) := by decide +kernel
theorem dX12_wins_117 : decode cX12_wins 117 = .ok (.iload 10, 2) := by decide +kernel
theorem dX12_wins_119 : decode cX12_wins 119 = .ok (.if_icmp .lt 6, 3) := by decide +kernel
theorem dX12_wins_122 : decode cX12_wins 122 = .ok (.goto 11, 3) := by decide +kernel
theorem dX12_wins_125 : decode cX12_wins 125 = .ok (.iload 12, 2) := by decide +kernel
theorem dX12_wins_127 : decode cX12_wins 127 = .ok (.istore 10, 2) := by decide +kernel
theorem dX12_wins_129 : decode cX12_wins 129 = .ok (.iload 11, 2) := by decide +kernel
theorem dX12_wins_131 : decode cX12_wins 131 = .ok (.istore 9, 2) := by decide +kernel
theorem dX12_wins_133 : decode cX12_wins 133 = .ok (.iinc 11 1, 3) := by decide +kernel
theorem dX12_wins_136 : decode cX12_wins 136 = .ok (.goto (-51), 3) := by decide +kernel
theorem dX12_wins_139 : decode cX12_wins 139 = .ok (.iload 7, 2) := by decide +kernel
theorem dX12_wins_141 : decode cX12_wins 141 = .ok (.iload 9, 2) := by decide +kernel
theorem dX12_wins_143 : decode cX12_wins 143 = .ok (.iload 4, 2) := by decide +kernel
theorem dX12_wins_145 : decode cX12_wins 145 = .ok (.if_icmp .ne 7, 3) := by decide +kernel
theorem dX12_wins_148 : decode cX12_wins 148 = .ok (.iconst 1, 1) := by decide +kernel
theorem dX12_wins_149 : decode cX12_wins 149 = .ok (.goto 4, 3) := by decide +kernel
theorem dX12_wins_152 : decode cX12_wins 152 = .ok (.iconst 0, 1) := by decide +kernel
theorem dX12_wins_153 : decode cX12_wins 153 = .ok (.iadd, 1) := by decide +kernel
theorem dX12_wins_154 : decode cX12_wins 154 = .ok (.istore 7, 2) := by decide +kernel
theorem dX12_wins_156 : decode cX12_wins 156 = .ok (.iinc 8 1, 3) := by decide +kernel
theorem dX12_wins_159 : decode cX12_wins 159 = .ok (.goto (-91), 3) := by decide +kernel
theorem dX12_wins_162 : decode cX12_wins 162 = .ok (.aload_n 0, 1) := by decide +kernel
theorem dX12_wins_163 : decode cX12_wins 163 = .ok (.lload 5, 2) := by decide +kernel
theorem dX12_wins_165 : decode cX12_wins 165 = .ok (.putfield 288, 3) := by decide +kernel
theorem dX12_wins_168 : decode cX12_wins 168 = .ok (.iload 7, 2) := by decide +kernel
theorem dX12_wins_170 : decode cX12_wins 170 = .ok (.ireturn, 1) := by decide +kernel
theorem dX12_beats_0 : decode cX12_beats 0 = .ok (.aload_n 0, 1) := by decide +kernel
theorem dX12_beats_1 : decode cX12_beats 1 = .ok (.iconst 0, 1) := by decide +kernel
theorem dX12_beats_2 : decode cX12_beats 2 = .ok (.putfield 154, 3) := by decide +kernel
theorem dX12_beats_5 : decode cX12_beats 5 = .ok (.iload_n 1, 1) := by decide +kernel
theorem dX12_beats_6 : decode cX12_beats 6 = .ok (.ifCond .lt 30, 3) := by decide +kernel
theorem dX12_beats_9 : decode cX12_beats 9 = .ok (.aload_n 0, 1) := by decide +kernel
theorem dX12_beats_10 : decode cX12_beats 10 = .ok (.iload_n 2, 1) := by decide +kernel
theorem dX12_beats_11 : decode cX12_beats 11 = .ok (.invokevirtual 462, 3) := by decide +kernel
theorem dX12_beats_14 : decode cX12_beats 14 = .ok (.ifCond .eq 22, 3) := by decide +kernel
theorem dX12_beats_17 : decode cX12_beats 17 = .ok (.aload_n 0, 1) := by decide +kernel
theorem dX12_beats_18 : decode cX12_beats 18 = .ok (.iload_n 3, 1) := by decide +kernel
theorem dX12_beats_19 : decode cX12_beats 19 = .ok (.invokevirtual 456, 3) := by decide +kernel
theorem dX12_beats_22 : decode cX12_beats 22 = .ok (.ifCond .eq 14, 3) := by decide +kernel
theorem dX12_beats_25 : decode cX12_beats 25 = .ok (.iload 4, 2) := by decide +kernel
theorem dX12_beats_27 : decode cX12_beats 27 = .ok (.iconst 0, 1) := by decide +kernel
theorem dX12_beats_28 : decode cX12_beats 28 = .ok (.ldc 192, 2) := by decide +kernel
theorem dX12_beats_30 : decode cX12_beats 30 = .ok (.invokestatic 199, 3) := by decide +kernel
theorem dX12_beats_33 : decode cX12_beats 33 = .ok (.ifCond .ne 5, 3) := by decide +kernel
theorem dX12_beats_36 : decode cX12_beats 36 = .ok (.iconst (-1), 1) := by decide +kernel
theorem dX12_beats_37 : decode cX12_beats 37 = .ok (.ireturn, 1) := by decide +kernel
theorem dX12_beats_38 : decode cX12_beats 38 = .ok (.aload_n 0, 1) := by decide +kernel
theorem dX12_beats_39 : decode cX12_beats 39 = .ok (.getfield 288, 3) := by decide +kernel
theorem dX12_beats_42 : decode cX12_beats 42 = .ok (.lstore 5, 2) := by decide +kernel
theorem dX12_beats_44 : decode cX12_beats 44 = .ok (.aload_n 0, 1) := by decide +kernel
theorem dX12_beats_45 : decode cX12_beats 45 = .ok (.iload_n 1, 1) := by decide +kernel
theorem dX12_beats_46 : decode cX12_beats 46 = .ok (.i2l, 1) := by decide +kernel
theorem dX12_beats_47 : decode cX12_beats 47 = .ok (.putfield 288, 3) := by decide +kernel
theorem dX12_beats_50 : decode cX12_beats 50 = .ok (.iconst 0, 1) := by decide +kernel
theorem dX12_beats_51 : decode cX12_beats 51 = .ok (.istore 7, 2) := by decide +kernel
theorem dX12_beats_53 : decode cX12_beats 53 = .ok (.iconst 0, 1) := by decide +kernel
theorem dX12_beats_54 : decode cX12_beats 54 = .ok (.istore 8, 2) := by decide +kernel
theorem dX12_beats_56 : decode cX12_beats 56 = .ok (.iload 8, 2) := by decide +kernel
theorem dX12_beats_58 : decode cX12_beats 58 = .ok (.bipush 10, 2) := by decide +kernel
theorem dX12_beats_60 : decode cX12_beats 60 = .ok (.if_icmp .ge 41, 3) := by decide +kernel
theorem dX12_beats_63 : decode cX12_beats 63 = .ok (.aload_n 0, 1) := by decide +kernel
theorem dX12_beats_64 : decode cX12_beats 64 = .ok (.iload_n 2, 1) := by decide +kernel
theorem dX12_beats_65 : decode cX12_beats 65 = .ok (.iload_n 3, 1) := by decide +kernel
theorem dX12_beats_66 : decode cX12_beats 66 = .ok (.invokevirtual 576, 3) := by decide +kernel
theorem dX12_beats_69 : decode cX12_beats 69 = .ok (.istore 9, 2) := by decide +kernel
theorem dX12_beats_71 : decode cX12_beats 71 = .ok (.iload 7, 2) := by decide +kernel
theorem dX12_beats_73 : decode cX12_beats 73 = .ok (.iload 9, 2) := by decide +kernel
theorem dX12_beats_75 : decode cX12_beats 75 = .ok (.ldc 192, 2) := by decide +kernel
theorem dX12_beats_77 : decode cX12_beats 77 = .ok (.if_icmp .ge 14, 3) := by decide +kernel
theorem dX12_beats_80 : decode cX12_beats 80 = .ok (.iload 9, 2) := by decide +kernel
theorem dX12_beats_82 : decode cX12_beats 82 = .ok (.iload 4, 2) := by decide +kernel
theorem dX12_beats_84 : decode cX12_beats 84 = .ok (.if_icmp .gt 7, 3) := by decide +kernel
theorem dX12_beats_87 : decode cX12_beats 87 = .ok (.iconst 1, 1) := by decide +kernel
theorem dX12_beats_88 : decode cX12_beats 88 = .ok (.goto 4, 3) := by decide +kernel
theorem dX12_beats_91 : decode cX12_beats 91 = .ok (.iconst 0, 1) := by decide +kernel
theorem dX12_beats_92 : decode cX12_beats 92 = .ok (.iadd, 1) := by decide +kernel
theorem dX12_beats_93 : decode cX12_beats 93 = .ok (.istore 7, 2) := by decide +kernel
theorem dX12_beats_95 : decode cX12_beats 95 = .ok (.iinc 8 1, 3) := by decide +kernel
theorem dX12_beats_98 : decode cX12_beats 98 = .ok (.goto (-42), 3) := by decide +kernel
theorem dX12_beats_101 : decode cX12_beats 101 = .ok (.aload_n 0, 1) := by decide +kernel
theorem dX12_beats_102 : decode cX12_beats 102 = .ok (.lload 5, 2) := by decide +kernel
theorem dX12_beats_104 : decode cX12_beats 104 = .ok (.putfield 288, 3) := by decide +kernel
theorem dX12_beats_107 : decode cX12_beats 107 = .ok (.iload 7, 2) := by decide +kernel
theorem dX12_beats_109 : decode cX12_beats 109 = .ok (.ireturn, 1) := by decide +kernel
theorem dX12_isCorner_0 : decode cX12_isCorner 0 = .ok (.iload_n 1, 1) := by decide +kernel
theorem dX12_isCorner_1 : decode cX12_isCorner 1 = .ok (.ifCond .le 33, 3) := by decide +kernel
theorem dX12_isCorner_4 : decode cX12_isCorner 4 = .ok (.iload_n 1, 1) := by decide +kernel
theorem dX12_isCorner_5 : decode cX12_isCorner 5 = .ok (.aload_n 0, 1) := by decide +kernel
theorem dX12_isCorner_6 : decode cX12_isCorner 6 = .ok (.getfield 253, 3) := by decide +kernel
theorem dX12_isCorner_9 : decode cX12_isCorner 9 = .ok (.ishr, 1) := by decide +kernel
theorem dX12_isCorner_10 : decode cX12_isCorner 10 = .ok (.ifCond .ne 24, 3) := by decide +kernel
theorem dX12_isCorner_13 : decode cX12_isCorner 13 = .ok (.aload_n 0, 1) := by decide +kernel
theorem dX12_isCorner_14 : decode cX12_isCorner 14 = .ok (.iload_n 2, 1) := by decide +kernel
theorem dX12_isCorner_15 : decode cX12_isCorner 15 = .ok (.invokevirtual 450, 3) := by decide +kernel
theorem dX12_isCorner_18 : decode cX12_isCorner 18 = .ok (.ifCond .eq 16, 3) := by decide +kernel
theorem dX12_isCorner_21 : decode cX12_isCorner 21 = .ok (.aload_n 0, 1) := by decide +kernel
theorem dX12_isCorner_22 : decode cX12_isCorner 22 = .ok (.getfield 29, 3) := by decide +kernel
theorem dX12_isCorner_25 : decode cX12_isCorner 25 = .ok (.iload_n 2, 1) := by decide +kernel
theorem dX12_isCorner_26 : decode cX12_isCorner 26 = .ok (.baload, 1) := by decide +kernel
theorem dX12_isCorner_27 : decode cX12_isCorner 27 = .ok (.ifCond .eq 7, 3) := by decide +kernel
theorem dX12_isCorner_30 : decode cX12_isCorner 30 = .ok (.iconst 1, 1) := by decide +kernel
theorem dX12_isCorner_31 : decode cX12_isCorner 31 = .ok (.goto 4, 3) := by decide +kernel
theorem dX12_isCorner_34 : decode cX12_isCorner 34 = .ok (.iconst 0, 1) := by decide +kernel
theorem dX12_isCorner_35 : decode cX12_isCorner 35 = .ok (.ireturn, 1) := by decide +kernel
theorem dX12_layCorner_0 : decode cX12_layCorner 0 = .ok (.iconst 0, 1) := by decide +kernel
theorem dX12_layCorner_1 : decode cX12_layCorner 1 = .ok (.istore_n 3, 1) := by decide +kernel
theorem dX12_layCorner_2 : decode cX12_layCorner 2 = .ok (.iload_n 3, 1) := by decide +kernel
theorem dX12_layCorner_3 : decode cX12_layCorner 3 = .ok (.aload_n 0, 1) := by decide +kernel
theorem dX12_layCorner_4 : decode cX12_layCorner 4 = .ok (.getfield 253, 3) := by decide +kernel
theorem dX12_layCorner_7 : decode cX12_layCorner 7 = .ok (.if_icmp .ge 66, 3) := by decide +kernel
theorem dX12_layCorner_10 : decode cX12_layCorner 10 = .ok (.iload_n 1, 1) := by decide +kernel
theorem dX12_layCorner_11 : decode cX12_layCorner 11 = .ok (.iload_n 3, 1) := by decide +kernel
theorem dX12_layCorner_12 : decode cX12_layCorner 12 = .ok (.invokestatic 573, 3) := by decide +kernel
theorem dX12_layCorner_15 : decode cX12_layCorner 15 = .ok (.ifCond .ne 6, 3) := by decide +kernel
theorem dX12_layCorner_18 : decode cX12_layCorner 18 = .ok (.goto 49, 3) := by decide +kernel
theorem dX12_layCorner_21 : decode cX12_layCorner 21 = .ok (.aload_n 0, 1) := by decide +kernel
theorem dX12_layCorner_22 : decode cX12_layCorner 22 = .ok (.iload_n 3, 1) := by decide +kernel
theorem dX12_layCorner_23 : decode cX12_layCorner 23 = .ok (.invokevirtual 467, 3) := by decide +kernel
theorem dX12_layCorner_26 : decode cX12_layCorner 26 = .ok (.aload_n 0, 1) := by decide +kernel
theorem dX12_layCorner_27 : decode cX12_layCorner 27 = .ok (.iload_n 2, 1) := by decide +kernel
theorem dX12_layCorner_28 : decode cX12_layCorner 28 = .ok (.iconst 0, 1) := by decide +kernel
theorem dX12_layCorner_29 : decode cX12_layCorner 29 = .ok (.invokevirtual 433, 3) := by decide +kernel
theorem dX12_layCorner_32 : decode cX12_layCorner 32 = .ok (.aload_n 0, 1) := by decide +kernel
theorem dX12_layCorner_33 : decode cX12_layCorner 33 = .ok (.getfield 139, 3) := by decide +kernel
theorem dX12_layCorner_36 : decode cX12_layCorner 36 = .ok (.iload_n 3, 1) := by decide +kernel
theorem dX12_layCorner_37 : decode cX12_layCorner 37 = .ok (.aload_n 0, 1) := by decide +kernel
theorem dX12_layCorner_38 : decode cX12_layCorner 38 = .ok (.bipush 6, 2) := by decide +kernel
theorem dX12_layCorner_40 : decode cX12_layCorner 40 = .ok (.iconst 5, 1) := by decide +kernel
theorem dX12_layCorner_41 : decode cX12_layCorner 41 = .ok (.iconst 0, 1) := by decide +kernel
theorem dX12_layCorner_42 : decode cX12_layCorner 42 = .ok (.sipush 999, 3) := by decide +kernel
theorem dX12_layCorner_45 : decode cX12_layCorner 45 = .ok (.invokevirtual 437, 3) := by decide +kernel
theorem dX12_layCorner_48 : decode cX12_layCorner 48 = .ok (.iastore, 1) := by decide +kernel
theorem dX12_layCorner_49 : decode cX12_layCorner 49 = .ok (.aload_n 0, 1) := by decide +kernel
theorem dX12_layCorner_50 : decode cX12_layCorner 50 = .ok (.getfield 142, 3) := by decide +kernel
theorem dX12_layCorner_53 : decode cX12_layCorner 53 = .ok (.iload_n 3, 1) := by decide +kernel
theorem dX12_layCorner_54 : decode cX12_layCorner 54 = .ok (.aload_n 0, 1) := by decide +kernel
theorem dX12_layCorner_55 : decode cX12_layCorner 55 = .ok (.bipush 7, 2) := by decide +kernel
theorem dX12_layCorner_57 : decode cX12_layCorner 57 = .ok (.bipush 6, 2) := by decide +kernel
theorem dX12_layCorner_59 : decode cX12_layCorner 59 = .ok (.iconst 0, 1) := by decide +kernel
theorem dX12_layCorner_60 : decode cX12_layCorner 60 = .ok (.sipush 999, 3) := by decide +kernel
theorem dX12_layCorner_63 : decode cX12_layCorner 63 = .ok (.invokevirtual 437, 3) := by decide +kernel
theorem dX12_layCorner_66 : decode cX12_layCorner 66 = .ok (.iastore, 1) := by decide +kernel
theorem dX12_layCorner_67 : decode cX12_layCorner 67 = .ok (.iinc 3 1, 3) := by decide +kernel
theorem dX12_layCorner_70 : decode cX12_layCorner 70 = .ok (.goto (-68), 3) := by decide +kernel
theorem dX12_layCorner_73 : decode cX12_layCorner 73 = .ok (.return_, 1) := by decide +kernel
theorem dX12_insideOf_0 : decode cX12_insideOf 0 = .ok (.iconst 0, 1) := by decide +kernel
theorem dX12_insideOf_1 : decode cX12_insideOf 1 = .ok (.istore_n 1, 1) := by decide +kernel
theorem dX12_insideOf_2 : decode cX12_insideOf 2 = .ok (.iconst 0, 1) := by decide +kernel
theorem dX12_insideOf_3 : decode cX12_insideOf 3 = .ok (.istore_n 2, 1) := by decide +kernel
theorem dX12_insideOf_4 : decode cX12_insideOf 4 = .ok (.iload_n 2, 1) := by decide +kernel
theorem dX12_insideOf_5 : decode cX12_insideOf 5 = .ok (.iconst 5, 1) := by decide +kernel
theorem dX12_insideOf_6 : decode cX12_insideOf 6 = .ok (.if_icmp .ge 17, 3) := by decide +kernel
theorem dX12_insideOf_9 : decode cX12_insideOf 9 = .ok (.iload_n 1, 1) := by decide +kernel
theorem dX12_insideOf_10 : decode cX12_insideOf 10 = .ok (.iload_n 0, 1) := by decide +kernel
theorem dX12_insideOf_11 : decode cX12_insideOf 11 = .ok (.iload_n 2, 1) := by decide +kernel
theorem dX12_insideOf_12 : decode cX12_insideOf 12 = .ok (.ishr, 1) := by decide +kernel
theorem dX12_insideOf_13 : decode cX12_insideOf 13 = .ok (.iconst 1, 1) := by decide +kernel
theorem dX12_insideOf_14 : decode cX12_insideOf 14 = .ok (.iand, 1) := by decide +kernel
theorem dX12_insideOf_15 : decode cX12_insideOf 15 = .ok (.iadd, 1) := by decide +kernel
theorem dX12_insideOf_16 : decode cX12_insideOf 16 = .ok (.istore_n 1, 1) := by decide +kernel
theorem dX12_insideOf_17 : decode cX12_insideOf 17 = .ok (.iinc 2 1, 3) := by decide +kernel
theorem dX12_insideOf_20 : decode cX12_insideOf 20 = .ok (.goto (-16), 3) := by decide +kernel
theorem dX12_insideOf_23 : decode cX12_insideOf 23 = .ok (.iload_n 1, 1) := by decide +kernel
theorem dX12_insideOf_24 : decode cX12_insideOf 24 = .ok (.ireturn, 1) := by decide +kernel
theorem dX12_lossOf_0 : decode cX12_lossOf 0 = .ok (.iload_n 2, 1) := by decide +kernel
theorem dX12_lossOf_1 : decode cX12_lossOf 1 = .ok (.iload_n 1, 1) := by decide +kernel
theorem dX12_lossOf_2 : decode cX12_lossOf 2 = .ok (.invokestatic 573, 3) := by decide +kernel
theorem dX12_lossOf_5 : decode cX12_lossOf 5 = .ok (.ifCond .eq 19, 3) := by decide +kernel
theorem dX12_lossOf_8 : decode cX12_lossOf 8 = .ok (.aload_n 0, 1) := by decide +kernel
theorem dX12_lossOf_9 : decode cX12_lossOf 9 = .ok (.getfield 139, 3) := by decide +kernel
theorem dX12_lossOf_12 : decode cX12_lossOf 12 = .ok (.iload_n 1, 1) := by decide +kernel
theorem dX12_lossOf_13 : decode cX12_lossOf 13 = .ok (.iaload, 1) := by decide +kernel
theorem dX12_lossOf_14 : decode cX12_lossOf 14 = .ok (.iload_n 2, 1) := by decide +kernel
theorem dX12_lossOf_15 : decode cX12_lossOf 15 = .ok (.invokestatic 579, 3) := by decide +kernel
theorem dX12_lossOf_18 : decode cX12_lossOf 18 = .ok (.iconst 1, 1) := by decide +kernel
theorem dX12_lossOf_19 : decode cX12_lossOf 19 = .ok (.isub, 1) := by decide +kernel
theorem dX12_lossOf_20 : decode cX12_lossOf 20 = .ok (.imul, 1) := by decide +kernel
theorem dX12_lossOf_21 : decode cX12_lossOf 21 = .ok (.goto 9, 3) := by decide +kernel
theorem dX12_lossOf_24 : decode cX12_lossOf 24 = .ok (.aload_n 0, 1) := by decide +kernel
theorem dX12_lossOf_25 : decode cX12_lossOf 25 = .ok (.getfield 142, 3) := by decide +kernel
theorem dX12_lossOf_28 : decode cX12_lossOf 28 = .ok (.iload_n 1, 1) := by decide +kernel
theorem dX12_lossOf_29 : decode cX12_lossOf 29 = .ok (.iaload, 1) := by decide +kernel
theorem dX12_lossOf_30 : decode cX12_lossOf 30 = .ok (.ireturn, 1) := by decide +kernel
theorem dX12_isRest_0 : decode cX12_isRest 0 = .ok (.iconst 0, 1) := by decide +kernel
theorem dX12_isRest_1 : decode cX12_isRest 1 = .ok (.istore_n 3, 1) := by decide +kernel
theorem dX12_isRest_2 : decode cX12_isRest 2 = .ok (.iload_n 3, 1) := by decide +kernel
theorem dX12_isRest_3 : decode cX12_isRest 3 = .ok (.aload_n 0, 1) := by decide +kernel
theorem dX12_isRest_4 : decode cX12_isRest 4 = .ok (.getfield 253, 3) := by decide +kernel
theorem dX12_isRest_7 : decode cX12_isRest 7 = .ok (.if_icmp .ge 38, 3) := by decide +kernel
theorem dX12_isRest_10 : decode cX12_isRest 10 = .ok (.iload_n 1, 1) := by decide +kernel
theorem dX12_isRest_11 : decode cX12_isRest 11 = .ok (.iload_n 3, 1) := by decide +kernel
theorem dX12_isRest_12 : decode cX12_isRest 12 = .ok (.invokestatic 573, 3) := by decide +kernel
theorem dX12_isRest_15 : decode cX12_isRest 15 = .ok (.ifCond .eq 24, 3) := by decide +kernel
theorem dX12_isRest_18 : decode cX12_isRest 18 = .ok (.aload_n 0, 1) := by decide +kernel
theorem dX12_isRest_19 : decode cX12_isRest 19 = .ok (.iload_n 3, 1) := by decide +kernel
theorem dX12_isRest_20 : decode cX12_isRest 20 = .ok (.iload_n 2, 1) := by decide +kernel
theorem dX12_isRest_21 : decode cX12_isRest 21 = .ok (.iconst 1, 1) := by decide +kernel
theorem dX12_isRest_22 : decode cX12_isRest 22 = .ok (.iload_n 3, 1) := by decide +kernel
theorem dX12_isRest_23 : decode cX12_isRest 23 = .ok (.ishl, 1) := by decide +kernel
theorem dX12_isRest_24 : decode cX12_isRest 24 = .ok (.ixor, 1) := by decide +kernel
theorem dX12_isRest_25 : decode cX12_isRest 25 = .ok (.invokevirtual 582, 3) := by decide +kernel
theorem dX12_isRest_28 : decode cX12_isRest 28 = .ok (.aload_n 0, 1) := by decide +kernel
theorem dX12_isRest_29 : decode cX12_isRest 29 = .ok (.iload_n 3, 1) := by decide +kernel
theorem dX12_isRest_30 : decode cX12_isRest 30 = .ok (.iload_n 2, 1) := by decide +kernel
theorem dX12_isRest_31 : decode cX12_isRest 31 = .ok (.invokevirtual 582, 3) := by decide +kernel
theorem dX12_isRest_34 : decode cX12_isRest 34 = .ok (.if_icmp .ge 5, 3) := by decide +kernel
theorem dX12_isRest_37 : decode cX12_isRest 37 = .ok (.iconst 0, 1) := by decide +kernel
theorem dX12_isRest_38 : decode cX12_isRest 38 = .ok (.ireturn, 1) := by decide +kernel
theorem dX12_isRest_39 : decode cX12_isRest 39 = .ok (.iinc 3 1, 3) := by decide +kernel
theorem dX12_isRest_42 : decode cX12_isRest 42 = .ok (.goto (-40), 3) := by decide +kernel
theorem dX12_isRest_45 : decode cX12_isRest 45 = .ok (.iconst 1, 1) := by decide +kernel
theorem dX12_isRest_46 : decode cX12_isRest 46 = .ok (.ireturn, 1) := by decide +kernel
theorem dX12_restAt_0 : decode cX12_restAt 0 = .ok (.aload_n 0, 1) := by decide +kernel
theorem dX12_restAt_1 : decode cX12_restAt 1 = .ok (.iload_n 1, 1) := by decide +kernel
theorem dX12_restAt_2 : decode cX12_restAt 2 = .ok (.iload_n 2, 1) := by decide +kernel
theorem dX12_restAt_3 : decode cX12_restAt 3 = .ok (.invokevirtual 585, 3) := by decide +kernel
theorem dX12_restAt_6 : decode cX12_restAt 6 = .ok (.iconst 0, 1) := by decide +kernel
theorem dX12_restAt_7 : decode cX12_restAt 7 = .ok (.istore 4, 2) := by decide +kernel
theorem dX12_restAt_9 : decode cX12_restAt 9 = .ok (.iconst 0, 1) := by decide +kernel
theorem dX12_restAt_10 : decode cX12_restAt 10 = .ok (.istore 5, 2) := by decide +kernel
theorem dX12_restAt_12 : decode cX12_restAt 12 = .ok (.iload 5, 2) := by decide +kernel
theorem dX12_restAt_14 : decode cX12_restAt 14 = .ok (.iload_n 1, 1) := by decide +kernel
theorem dX12_restAt_15 : decode cX12_restAt 15 = .ok (.if_icmp .gt 43, 3) := by decide +kernel
theorem dX12_restAt_18 : decode cX12_restAt 18 = .ok (.iload 5, 2) := by decide +kernel
theorem dX12_restAt_20 : decode cX12_restAt 20 = .ok (.iload_n 1, 1) := by decide +kernel
theorem dX12_restAt_21 : decode cX12_restAt 21 = .ok (.iconst (-1), 1) := by decide +kernel
theorem dX12_restAt_22 : decode cX12_restAt 22 = .ok (.ixor, 1) := by decide +kernel
theorem dX12_restAt_23 : decode cX12_restAt 23 = .ok (.iand, 1) := by decide +kernel
theorem dX12_restAt_24 : decode cX12_restAt 24 = .ok (.ifCond .ne 28, 3) := by decide +kernel
theorem dX12_restAt_27 : decode cX12_restAt 27 = .ok (.aload_n 0, 1) := by decide +kernel
theorem dX12_restAt_28 : decode cX12_restAt 28 = .ok (.iload_n 1, 1) := by decide +kernel
theorem dX12_restAt_29 : decode cX12_restAt 29 = .ok (.iload 5, 2) := by decide +kernel
theorem dX12_restAt_31 : decode cX12_restAt 31 = .ok (.invokevirtual 588, 3) := by decide +kernel
theorem dX12_restAt_34 : decode cX12_restAt 34 = .ok (.ifCond .ne 6, 3) := by decide +kernel
theorem dX12_restAt_37 : decode cX12_restAt 37 = .ok (.goto 15, 3) := by decide +kernel
theorem dX12_restAt_40 : decode cX12_restAt 40 = .ok (.iload 4, 2) := by decide +kernel
theorem dX12_restAt_42 : decode cX12_restAt 42 = .ok (.iload_n 3, 1) := by decide +kernel
theorem dX12_restAt_43 : decode cX12_restAt 43 = .ok (.if_icmp .ne 6, 3) := by decide +kernel
theorem dX12_restAt_46 : decode cX12_restAt 46 = .ok (.iload 5, 2) := by decide +kernel
theorem dX12_restAt_48 : decode cX12_restAt 48 = .ok (.ireturn, 1) := by decide +kernel
theorem dX12_restAt_49 : decode cX12_restAt 49 = .ok (.iinc 4 1, 3) := by decide +kernel
theorem dX12_restAt_52 : decode cX12_restAt 52 = .ok (.iinc 5 1, 3) := by decide +kernel
theorem dX12_restAt_55 : decode cX12_restAt 55 = .ok (.goto (-43), 3) := by decide +kernel
theorem dX12_restAt_58 : decode cX12_restAt 58 = .ok (.iload_n 3, 1) := by decide +kernel
theorem dX12_restAt_59 : decode cX12_restAt 59 = .ok (.ifCond .ge 8, 3) := by decide +kernel
theorem dX12_restAt_62 : decode cX12_restAt 62 = .ok (.iload 4, 2) := by decide +kernel
theorem dX12_restAt_64 : decode cX12_restAt 64 = .ok (.goto 5, 3) := by decide +kernel
theorem dX12_restAt_67 : decode cX12_restAt 67 = .ok (.bipush (-2), 2) := by decide +kernel
theorem dX12_restAt_69 : decode cX12_restAt 69 = .ok (.ireturn, 1) := by decide +kernel
theorem dX12_rests_0 : decode cX12_rests 0 = .ok (.aload_n 0, 1) := by decide +kernel
theorem dX12_rests_1 : decode cX12_rests 1 = .ok (.iconst 0, 1) := by decide +kernel
theorem dX12_rests_2 : decode cX12_rests 2 = .ok (.putfield 154, 3) := by decide +kernel
theorem dX12_rests_5 : decode cX12_rests 5 = .ok (.aload_n 0, 1) := by decide +kernel
theorem dX12_rests_6 : decode cX12_rests 6 = .ok (.iload_n 1, 1) := by decide +kernel
theorem dX12_rests_7 : decode cX12_rests 7 = .ok (.iload_n 2, 1) := by decide +kernel
theorem dX12_rests_8 : decode cX12_rests 8 = .ok (.invokevirtual 591, 3) := by decide +kernel
theorem dX12_rests_11 : decode cX12_rests 11 = .ok (.ifCond .eq 13, 3) := by decide +kernel
theorem dX12_rests_14 : decode cX12_rests 14 = .ok (.aload_n 0, 1) := by decide +kernel
theorem dX12_rests_15 : decode cX12_rests 15 = .ok (.iload_n 1, 1) := by decide +kernel
theorem dX12_rests_16 : decode cX12_rests 16 = .ok (.iload_n 2, 1) := by decide +kernel
theorem dX12_rests_17 : decode cX12_rests 17 = .ok (.iconst (-1), 1) := by decide +kernel
theorem dX12_rests_18 : decode cX12_rests 18 = .ok (.invokevirtual 594, 3) := by decide +kernel
theorem dX12_rests_21 : decode cX12_rests 21 = .ok (.goto 4, 3) := by decide +kernel
theorem dX12_rests_24 : decode cX12_rests 24 = .ok (.iconst (-1), 1) := by decide +kernel
theorem dX12_rests_25 : decode cX12_rests 25 = .ok (.ireturn, 1) := by decide +kernel
theorem dX12_rest_0 : decode cX12_rest 0 = .ok (.aload_n 0, 1) := by decide +kernel
theorem dX12_rest_1 : decode cX12_rest 1 = .ok (.iconst 0, 1) := by decide +kernel
theorem dX12_rest_2 : decode cX12_rest 2 = .ok (.putfield 154, 3) := by decide +kernel
theorem dX12_rest_5 : decode cX12_rest 5 = .ok (.aload_n 0, 1) := by decide +kernel
theorem dX12_rest_6 : decode cX12_rest 6 = .ok (.iload_n 1, 1) := by decide +kernel
theorem dX12_rest_7 : decode cX12_rest 7 = .ok (.iload_n 2, 1) := by decide +kernel
theorem dX12_rest_8 : decode cX12_rest 8 = .ok (.invokevirtual 591, 3) := by decide +kernel
theorem dX12_rest_11 : decode cX12_rest 11 = .ok (.ifCond .eq 17, 3) := by decide +kernel
theorem dX12_rest_14 : decode cX12_rest 14 = .ok (.iload_n 3, 1) := by decide +kernel
theorem dX12_rest_15 : decode cX12_rest 15 = .ok (.ifCond .lt 13, 3) := by decide +kernel
theorem dX12_rest_18 : decode cX12_rest 18 = .ok (.aload_n 0, 1) := by decide +kernel
theorem dX12_rest_19 : decode cX12_rest 19 = .ok (.iload_n 1, 1) := by decide +kernel
theorem dX12_rest_20 : decode cX12_rest 20 = .ok (.iload_n 2, 1) := by decide +kernel
theorem dX12_rest_21 : decode cX12_rest 21 = .ok (.iload_n 3, 1) := by decide +kernel
theorem dX12_rest_22 : decode cX12_rest 22 = .ok (.invokevirtual 594, 3) := by decide +kernel
theorem dX12_rest_25 : decode cX12_rest 25 = .ok (.goto 4, 3) := by decide +kernel
theorem dX12_rest_28 : decode cX12_rest 28 = .ok (.iconst (-1), 1) := by decide +kernel
theorem dX12_rest_29 : decode cX12_rest 29 = .ok (.ireturn, 1) := by decide +kernel
theorem dX12_corner_0 : decode cX12_corner 0 = .ok (.aload_n 0, 1) := by decide +kernel
theorem dX12_corner_1 : decode cX12_corner 1 = .ok (.iconst 0, 1) := by decide +kernel
theorem dX12_corner_2 : decode cX12_corner 2 = .ok (.putfield 154, 3) := by decide +kernel
theorem dX12_corner_5 : decode cX12_corner 5 = .ok (.aload_n 0, 1) := by decide +kernel
theorem dX12_corner_6 : decode cX12_corner 6 = .ok (.iload_n 1, 1) := by decide +kernel
theorem dX12_corner_7 : decode cX12_corner 7 = .ok (.iload_n 2, 1) := by decide +kernel
theorem dX12_corner_8 : decode cX12_corner 8 = .ok (.invokevirtual 591, 3) := by decide +kernel
theorem dX12_corner_11 : decode cX12_corner 11 = .ok (.ifCond .eq 12, 3) := by decide +kernel
theorem dX12_corner_14 : decode cX12_corner 14 = .ok (.iload_n 3, 1) := by decide +kernel
theorem dX12_corner_15 : decode cX12_corner 15 = .ok (.iconst 0, 1) := by decide +kernel
theorem dX12_corner_16 : decode cX12_corner 16 = .ok (.iconst 1, 1) := by decide +kernel
theorem dX12_corner_17 : decode cX12_corner 17 = .ok (.invokestatic 199, 3) := by decide +kernel
theorem dX12_corner_20 : decode cX12_corner 20 = .ok (.ifCond .ne 5, 3) := by decide +kernel
theorem dX12_corner_23 : decode cX12_corner 23 = .ok (.iconst (-1), 1) := by decide +kernel
theorem dX12_corner_24 : decode cX12_corner 24 = .ok (.ireturn, 1) := by decide +kernel
theorem dX12_corner_25 : decode cX12_corner 25 = .ok (.aload_n 0, 1) := by decide +kernel
theorem dX12_corner_26 : decode cX12_corner 26 = .ok (.iload_n 1, 1) := by decide +kernel
theorem dX12_corner_27 : decode cX12_corner 27 = .ok (.iload_n 2, 1) := by decide +kernel
theorem dX12_corner_28 : decode cX12_corner 28 = .ok (.invokevirtual 585, 3) := by decide +kernel
theorem dX12_corner_31 : decode cX12_corner 31 = .ok (.iconst (-1), 1) := by decide +kernel
theorem dX12_corner_32 : decode cX12_corner 32 = .ok (.istore 4, 2) := by decide +kernel
theorem dX12_corner_34 : decode cX12_corner 34 = .ok (.iconst 0, 1) := by decide +kernel
theorem dX12_corner_35 : decode cX12_corner 35 = .ok (.istore 5, 2) := by decide +kernel
theorem dX12_corner_37 : decode cX12_corner 37 = .ok (.iconst 0, 1) := by decide +kernel
theorem dX12_corner_38 : decode cX12_corner 38 = .ok (.istore 6, 2) := by decide +kernel
theorem dX12_corner_40 : decode cX12_corner 40 = .ok (.iload 6, 2) := by decide +kernel
theorem dX12_corner_42 : decode cX12_corner 42 = .ok (.iload_n 1, 1) := by decide +kernel
theorem dX12_corner_43 : decode cX12_corner 43 = .ok (.if_icmp .gt 91, 3) := by decide +kernel
theorem dX12_corner_46 : decode cX12_corner 46 = .ok (.iload 6, 2) := by decide +kernel
theorem dX12_corner_48 : decode cX12_corner 48 = .ok (.iload_n 1, 1) := by decide +kernel
theorem dX12_corner_49 : decode cX12_corner 49 = .ok (.iconst (-1), 1) := by decide +kernel
theorem dX12_corner_50 : decode cX12_corner 50 = .ok (.ixor, 1) := by decide +kernel
theorem dX12_corner_51 : decode cX12_corner 51 = .ok (.iand, 1) := by decide +kernel
theorem dX12_corner_52 : decode cX12_corner 52 = .ok (.ifCond .eq 6, 3) := by decide +kernel
theorem dX12_corner_55 : decode cX12_corner 55 = .ok (.goto 73, 3) := by decide +kernel
theorem dX12_corner_58 : decode cX12_corner 58 = .ok (.iconst 0, 1) := by decide +kernel
theorem dX12_corner_59 : decode cX12_corner 59 = .ok (.istore 7, 2) := by decide +kernel
theorem dX12_corner_61 : decode cX12_corner 61 = .ok (.iconst 0, 1) := by decide +kernel
theorem dX12_corner_62 : decode cX12_corner 62 = .ok (.istore 8, 2) := by decide +kernel
theorem dX12_corner_64 : decode cX12_corner 64 = .ok (.iload 8, 2) := by decide +kernel
theorem dX12_corner_66 : decode cX12_corner 66 = .ok (.aload_n 0, 1) := by decide +kernel
theorem dX12_corner_67 : decode cX12_corner 67 = .ok (.getfield 253, 3) := by decide +kernel
theorem dX12_corner_70 : decode cX12_corner 70 = .ok (.if_icmp .ge 35, 3) := by decide +kernel
theorem dX12_corner_73 : decode cX12_corner 73 = .ok (.iload 7, 2) := by decide +kernel
theorem dX12_corner_75 : decode cX12_corner 75 = .ok (.iload_n 1, 1) := by decide +kernel
theorem dX12_corner_76 : decode cX12_corner 76 = .ok (.iload 8, 2) := by decide +kernel
theorem dX12_corner_78 : decode cX12_corner 78 = .ok (.invokestatic 573, 3) := by decide +kernel
theorem dX12_corner_81 : decode cX12_corner 81 = .ok (.ifCond .eq 14, 3) := by decide +kernel
theorem dX12_corner_84 : decode cX12_corner 84 = .ok (.aload_n 0, 1) := by decide +kernel
theorem dX12_corner_85 : decode cX12_corner 85 = .ok (.iload 8, 2) := by decide +kernel
theorem dX12_corner_87 : decode cX12_corner 87 = .ok (.iload 6, 2) := by decide +kernel
theorem dX12_corner_89 : decode cX12_corner 89 = .ok (.invokevirtual 582, 3) := by decide +kernel
theorem dX12_corner_92 : decode cX12_corner 92 = .ok (.goto 4, 3) := by decide +kernel
theorem dX12_corner_95 : decode cX12_corner 95 = .ok (.iconst 0, 1) := by decide +kernel
theorem dX12_corner_96 : decode cX12_corner 96 = .ok (.iadd, 1) := by decide +kernel
theorem dX12_corner_97 : decode cX12_corner 97 = .ok (.istore 7, 2) := by decide +kernel
theorem dX12_corner_99 : decode cX12_corner 99 = .ok (.iinc 8 1, 3) := by decide +kernel
theorem dX12_corner_102 : decode cX12_corner 102 = .ok (.goto (-38), 3) := by decide +kernel
theorem dX12_corner_105 : decode cX12_corner 105 = .ok (.iload 4, 2) := by decide +kernel
theorem dX12_corner_107 : decode cX12_corner 107 = .ok (.ifCond .lt 13, 3) := by decide +kernel
theorem dX12_corner_110 : decode cX12_corner 110 = .ok (.iload 7, 2) := by decide +kernel
theorem dX12_corner_112 : decode cX12_corner 112 = .ok (.iload 5, 2) := by decide +kernel
theorem dX12_corner_114 : decode cX12_corner 114 = .ok (.if_icmp .lt 6, 3) := by decide +kernel
theorem dX12_corner_117 : decode cX12_corner 117 = .ok (.goto 11, 3) := by decide +kernel
theorem dX12_corner_120 : decode cX12_corner 120 = .ok (.iload 6, 2) := by decide +kernel
theorem dX12_corner_122 : decode cX12_corner 122 = .ok (.istore 4, 2) := by decide +kernel
theorem dX12_corner_124 : decode cX12_corner 124 = .ok (.iload 7, 2) := by decide +kernel
theorem dX12_corner_126 : decode cX12_corner 126 = .ok (.istore 5, 2) := by decide +kernel
theorem dX12_corner_128 : decode cX12_corner 128 = .ok (.iinc 6 1, 3) := by decide +kernel
theorem dX12_corner_131 : decode cX12_corner 131 = .ok (.goto (-91), 3) := by decide +kernel
theorem dX12_corner_134 : decode cX12_corner 134 = .ok (.iload_n 3, 1) := by decide +kernel
theorem dX12_corner_135 : decode cX12_corner 135 = .ok (.ifCond .ne 8, 3) := by decide +kernel
theorem dX12_corner_138 : decode cX12_corner 138 = .ok (.iload 5, 2) := by decide +kernel
theorem dX12_corner_140 : decode cX12_corner 140 = .ok (.goto 5, 3) := by decide +kernel
theorem dX12_corner_143 : decode cX12_corner 143 = .ok (.iload 4, 2) := by decide +kernel
theorem dX12_corner_145 : decode cX12_corner 145 = .ok (.ireturn, 1) := by decide +kernel
theorem dX12_common_0 : decode cX12_common 0 = .ok (.lload_n 0, 1) := by decide +kernel
theorem dX12_common_1 : decode cX12_common 1 = .ok (.lstore 4, 2) := by decide +kernel
theorem dX12_common_3 : decode cX12_common 3 = .ok (.lload_n 2, 1) := by decide +kernel
theorem dX12_common_4 : decode cX12_common 4 = .ok (.lstore 6, 2) := by decide +kernel
theorem dX12_common_6 : decode cX12_common 6 = .ok (.lload 6, 2) := by decide +kernel
theorem dX12_common_8 : decode cX12_common 8 = .ok (.lconst 0, 1) := by decide +kernel
theorem dX12_common_9 : decode cX12_common 9 = .ok (.lcmp, 1) := by decide +kernel
theorem dX12_common_10 : decode cX12_common 10 = .ok (.ifCond .eq 21, 3) := by decide +kernel
theorem dX12_common_13 : decode cX12_common 13 = .ok (.lload 4, 2) := by decide +kernel
theorem dX12_common_15 : decode cX12_common 15 = .ok (.lload 6, 2) := by decide +kernel
theorem dX12_common_17 : decode cX12_common 17 = .ok (.lrem, 1) := by decide +kernel
theorem dX12_common_18 : decode cX12_common 18 = .ok (.lstore 8, 2) := by decide +kernel
theorem dX12_common_20 : decode cX12_common 20 = .ok (.lload 6, 2) := by decide +kernel
theorem dX12_common_22 : decode cX12_common 22 = .ok (.lstore 4, 2) := by decide +kernel
theorem dX12_common_24 : decode cX12_common 24 = .ok (.lload 8, 2) := by decide +kernel
theorem dX12_common_26 : decode cX12_common 26 = .ok (.lstore 6, 2) := by decide +kernel
theorem dX12_common_28 : decode cX12_common 28 = .ok (.goto (-22), 3) := by decide +kernel
theorem dX12_common_31 : decode cX12_common 31 = .ok (.lload 4, 2) := by decide +kernel
theorem dX12_common_33 : decode cX12_common 33 = .ok (.lreturn, 1) := by decide +kernel
theorem dX12_saysOf_0 : decode cX12_saysOf 0 = .ok (.lconst 1, 1) := by decide +kernel
theorem dX12_saysOf_1 : decode cX12_saysOf 1 = .ok (.lstore 4, 2) := by decide +kernel
theorem dX12_saysOf_3 : decode cX12_saysOf 3 = .ok (.iconst 0, 1) := by decide +kernel
theorem dX12_saysOf_4 : decode cX12_saysOf 4 = .ok (.istore 6, 2) := by decide +kernel
theorem dX12_saysOf_6 : decode cX12_saysOf 6 = .ok (.iload 6, 2) := by decide +kernel
theorem dX12_saysOf_8 : decode cX12_saysOf 8 = .ok (.aload_n 0, 1) := by decide +kernel
theorem dX12_saysOf_9 : decode cX12_saysOf 9 = .ok (.getfield 262, 3) := by decide +kernel
theorem dX12_saysOf_12 : decode cX12_saysOf 12 = .ok (.if_icmp .ge 48, 3) := by decide +kernel
theorem dX12_saysOf_15 : decode cX12_saysOf 15 = .ok (.iload_n 2, 1) := by decide +kernel
theorem dX12_saysOf_16 : decode cX12_saysOf 16 = .ok (.iload 6, 2) := by decide +kernel
theorem dX12_saysOf_18 : decode cX12_saysOf 18 = .ok (.invokestatic 573, 3) := by decide +kernel
theorem dX12_saysOf_21 : decode cX12_saysOf 21 = .ok (.ifCond .eq 33, 3) := by decide +kernel
theorem dX12_saysOf_24 : decode cX12_saysOf 24 = .ok (.lload 4, 2) := by decide +kernel
theorem dX12_saysOf_26 : decode cX12_saysOf 26 = .ok (.iload_n 3, 1) := by decide +kernel
theorem dX12_saysOf_27 : decode cX12_saysOf 27 = .ok (.iload 6, 2) := by decide +kernel
theorem dX12_saysOf_29 : decode cX12_saysOf 29 = .ok (.invokestatic 573, 3) := by decide +kernel
theorem dX12_saysOf_32 : decode cX12_saysOf 32 = .ok (.ifCond .eq 11, 3) := by decide +kernel
theorem dX12_saysOf_35 : decode cX12_saysOf 35 = .ok (.aload_n 1, 1) := by decide +kernel
theorem dX12_saysOf_36 : decode cX12_saysOf 36 = .ok (.iload 6, 2) := by decide +kernel
theorem dX12_saysOf_38 : decode cX12_saysOf 38 = .ok (.iaload, 1) := by decide +kernel
theorem dX12_saysOf_39 : decode cX12_saysOf 39 = .ok (.i2l, 1) := by decide +kernel
theorem dX12_saysOf_40 : decode cX12_saysOf 40 = .ok (.goto 11, 3) := by decide +kernel
theorem dX12_saysOf_43 : decode cX12_saysOf 43 = .ok (.bipush 100, 2) := by decide +kernel
theorem dX12_saysOf_45 : decode cX12_saysOf 45 = .ok (.aload_n 1, 1) := by decide +kernel
theorem dX12_saysOf_46 : decode cX12_saysOf 46 = .ok (.iload 6, 2) := by decide +kernel
theorem dX12_saysOf_48 : decode cX12_saysOf 48 = .ok (.iaload, 1) := by decide +kernel
theorem dX12_saysOf_49 : decode cX12_saysOf 49 = .ok (.isub, 1) := by decide +kernel
theorem dX12_saysOf_50 : decode cX12_saysOf 50 = .ok (.i2l, 1) := by decide +kernel
theorem dX12_saysOf_51 : decode cX12_saysOf 51 = .ok (.lmul, 1) := by decide +kernel
theorem dX12_saysOf_52 : decode cX12_saysOf 52 = .ok (.lstore 4, 2) := by decide +kernel
theorem dX12_saysOf_54 : decode cX12_saysOf 54 = .ok (.iinc 6 1, 3) := by decide +kernel
theorem dX12_saysOf_57 : decode cX12_saysOf 57 = .ok (.goto (-51), 3) := by decide +kernel
theorem dX12_saysOf_60 : decode cX12_saysOf 60 = .ok (.lload 4, 2) := by decide +kernel
theorem dX12_saysOf_62 : decode cX12_saysOf 62 = .ok (.lreturn, 1) := by decide +kernel
theorem dX12_down_0 : decode cX12_down 0 = .ok (.aload_n 0, 1) := by decide +kernel
theorem dX12_down_1 : decode cX12_down 1 = .ok (.iconst 0, 1) := by decide +kernel
theorem dX12_down_2 : decode cX12_down 2 = .ok (.putfield 154, 3) := by decide +kernel
theorem dX12_down_5 : decode cX12_down 5 = .ok (.iload_n 1, 1) := by decide +kernel
theorem dX12_down_6 : decode cX12_down 6 = .ok (.iconst 0, 1) := by decide +kernel
theorem dX12_down_7 : decode cX12_down 7 = .ok (.bipush 100, 2) := by decide +kernel
theorem dX12_down_9 : decode cX12_down 9 = .ok (.invokestatic 199, 3) := by decide +kernel
theorem dX12_down_12 : decode cX12_down 12 = .ok (.ifCond .eq 38, 3) := by decide +kernel
theorem dX12_down_15 : decode cX12_down 15 = .ok (.iload_n 2, 1) := by decide +kernel
theorem dX12_down_16 : decode cX12_down 16 = .ok (.ifCond .lt 34, 3) := by decide +kernel
theorem dX12_down_19 : decode cX12_down 19 = .ok (.iload_n 2, 1) := by decide +kernel
theorem dX12_down_20 : decode cX12_down 20 = .ok (.aload_n 0, 1) := by decide +kernel
theorem dX12_down_21 : decode cX12_down 21 = .ok (.getfield 262, 3) := by decide +kernel
theorem dX12_down_24 : decode cX12_down 24 = .ok (.ishr, 1) := by decide +kernel
theorem dX12_down_25 : decode cX12_down 25 = .ok (.ifCond .ne 25, 3) := by decide +kernel
theorem dX12_down_28 : decode cX12_down 28 = .ok (.iload_n 3, 1) := by decide +kernel
theorem dX12_down_29 : decode cX12_down 29 = .ok (.ifCond .lt 21, 3) := by decide +kernel
theorem dX12_down_32 : decode cX12_down 32 = .ok (.iload_n 3, 1) := by decide +kernel
theorem dX12_down_33 : decode cX12_down 33 = .ok (.iload_n 2, 1) := by decide +kernel
theorem dX12_down_34 : decode cX12_down 34 = .ok (.iconst (-1), 1) := by decide +kernel
theorem dX12_down_35 : decode cX12_down 35 = .ok (.ixor, 1) := by decide +kernel
theorem dX12_down_36 : decode cX12_down 36 = .ok (.iand, 1) := by decide +kernel
theorem dX12_down_37 : decode cX12_down 37 = .ok (.ifCond .ne 13, 3) := by decide +kernel
theorem dX12_down_40 : decode cX12_down 40 = .ok (.iload 4, 2) := by decide +kernel
theorem dX12_down_42 : decode cX12_down 42 = .ok (.iconst 0, 1) := by decide +kernel
theorem dX12_down_43 : decode cX12_down 43 = .ok (.iconst 1, 1) := by decide +kernel
theorem dX12_down_44 : decode cX12_down 44 = .ok (.invokestatic 199, 3) := by decide +kernel
theorem dX12_down_47 : decode cX12_down 47 = .ok (.ifCond .ne 7, 3) := by decide +kernel
theorem dX12_down_50 : decode cX12_down 50 = .ok (.ldc2_w 597, 3) := by decide +kernel
theorem dX12_down_53 : decode cX12_down 53 = .ok (.lreturn, 1) := by decide +kernel
theorem dX12_down_54 : decode cX12_down 54 = .ok (.iload_n 1, 1) := by decide +kernel
theorem dX12_down_55 : decode cX12_down 55 = .ok (.i2l, 1) := by decide +kernel
theorem dX12_down_56 : decode cX12_down 56 = .ok (.aload_n 0, 1) := by decide +kernel
theorem dX12_down_57 : decode cX12_down 57 = .ok (.aload_n 0, 1) := by decide +kernel
theorem dX12_down_58 : decode cX12_down 58 = .ok (.getfield 75, 3) := by decide +kernel
theorem dX12_down_61 : decode cX12_down 61 = .ok (.iload_n 2, 1) := by decide +kernel
theorem dX12_down_62 : decode cX12_down 62 = .ok (.iload_n 3, 1) := by decide +kernel
theorem dX12_down_63 : decode cX12_down 63 = .ok (.invokevirtual 599, 3) := by decide +kernel
theorem dX12_down_66 : decode cX12_down 66 = .ok (.lmul, 1) := by decide +kernel
theorem dX12_down_67 : decode cX12_down 67 = .ok (.lstore 5, 2) := by decide +kernel
theorem dX12_down_69 : decode cX12_down 69 = .ok (.lload 5, 2) := by decide +kernel
theorem dX12_down_71 : decode cX12_down 71 = .ok (.bipush 100, 2) := by decide +kernel
theorem dX12_down_73 : decode cX12_down 73 = .ok (.iload_n 1, 1) := by decide +kernel
theorem dX12_down_74 : decode cX12_down 74 = .ok (.isub, 1) := by decide +kernel
theorem dX12_down_75 : decode cX12_down 75 = .ok (.i2l, 1) := by decide +kernel
theorem dX12_down_76 : decode cX12_down 76 = .ok (.aload_n 0, 1) := by decide +kernel
theorem dX12_down_77 : decode cX12_down 77 = .ok (.aload_n 0, 1) := by decide +kernel
theorem dX12_down_78 : decode cX12_down 78 = .ok (.getfield 78, 3) := by decide +kernel
theorem dX12_down_81 : decode cX12_down 81 = .ok (.iload_n 2, 1) := by decide +kernel
theorem dX12_down_82 : decode cX12_down 82 = .ok (.iload_n 3, 1) := by decide +kernel
theorem dX12_down_83 : decode cX12_down 83 = .ok (.invokevirtual 599, 3) := by decide +kernel
theorem dX12_down_86 : decode cX12_down 86 = .ok (.lmul, 1) := by decide +kernel
theorem dX12_down_87 : decode cX12_down 87 = .ok (.ladd, 1) := by decide +kernel
theorem dX12_down_88 : decode cX12_down 88 = .ok (.lstore 7, 2) := by decide +kernel
theorem dX12_down_90 : decode cX12_down 90 = .ok (.lload 7, 2) := by decide +kernel
theorem dX12_down_92 : decode cX12_down 92 = .ok (.lconst 0, 1) := by decide +kernel
theorem dX12_down_93 : decode cX12_down 93 = .ok (.lcmp, 1) := by decide +kernel
theorem dX12_down_94 : decode cX12_down 94 = .ok (.ifCond .ne 7, 3) := by decide +kernel
theorem dX12_down_97 : decode cX12_down 97 = .ok (.iload 4, 2) := by decide +kernel
theorem dX12_down_99 : decode cX12_down 99 = .ok (.i2l, 1) := by decide +kernel
theorem dX12_down_100 : decode cX12_down 100 = .ok (.lreturn, 1) := by decide +kernel
theorem dX12_down_101 : decode cX12_down 101 = .ok (.iload 4, 2) := by decide +kernel
theorem dX12_down_103 : decode cX12_down 103 = .ok (.ifCond .ne 8, 3) := by decide +kernel
theorem dX12_down_106 : decode cX12_down 106 = .ok (.lload 5, 2) := by decide +kernel
theorem dX12_down_108 : decode cX12_down 108 = .ok (.goto 5, 3) := by decide +kernel
theorem dX12_down_111 : decode cX12_down 111 = .ok (.lload 7, 2) := by decide +kernel
theorem dX12_down_113 : decode cX12_down 113 = .ok (.lload 5, 2) := by decide +kernel
theorem dX12_down_115 : decode cX12_down 115 = .ok (.lload 7, 2) := by decide +kernel
theorem dX12_down_117 : decode cX12_down 117 = .ok (.invokestatic 603, 3) := by decide +kernel
theorem dX12_down_120 : decode cX12_down 120 = .ok (.ldiv, 1) := by decide +kernel
theorem dX12_down_121 : decode cX12_down 121 = .ok (.lreturn, 1) := by decide +kernel
theorem dX12_likelyOf_0 : decode cX12_likelyOf 0 = .ok (.iconst 1, 1) := by decide +kernel
theorem dX12_likelyOf_1 : decode cX12_likelyOf 1 = .ok (.aload_n 0, 1) := by decide +kernel
theorem dX12_likelyOf_2 : decode cX12_likelyOf 2 = .ok (.getfield 262, 3) := by decide +kernel
theorem dX12_likelyOf_5 : decode cX12_likelyOf 5 = .ok (.ishl, 1) := by decide +kernel
theorem dX12_likelyOf_6 : decode cX12_likelyOf 6 = .ok (.iconst 1, 1) := by decide +kernel
theorem dX12_likelyOf_7 : decode cX12_likelyOf 7 = .ok (.isub, 1) := by decide +kernel
theorem dX12_likelyOf_8 : decode cX12_likelyOf 8 = .ok (.istore 4, 2) := by decide +kernel
theorem dX12_likelyOf_10 : decode cX12_likelyOf 10 = .ok (.lconst 0, 1) := by decide +kernel
theorem dX12_likelyOf_11 : decode cX12_likelyOf 11 = .ok (.lstore 5, 2) := by decide +kernel
theorem dX12_likelyOf_13 : decode cX12_likelyOf 13 = .ok (.iconst 0, 1) := by decide +kernel
theorem dX12_likelyOf_14 : decode cX12_likelyOf 14 = .ok (.istore 7, 2) := by decide +kernel
theorem dX12_likelyOf_16 : decode cX12_likelyOf 16 = .ok (.iload 7, 2) := by decide +kernel
theorem dX12_likelyOf_18 : decode cX12_likelyOf 18 = .ok (.iload 4, 2) := by decide +kernel
theorem dX12_likelyOf_20 : decode cX12_likelyOf 20 = .ok (.if_icmp .gt 41, 3) := by decide +kernel
theorem dX12_likelyOf_23 : decode cX12_likelyOf 23 = .ok (.iload 7, 2) := by decide +kernel
theorem dX12_likelyOf_25 : decode cX12_likelyOf 25 = .ok (.invokestatic 579, 3) := by decide +kernel
theorem dX12_likelyOf_28 : decode cX12_likelyOf 28 = .ok (.iload_n 2, 1) := by decide +kernel
theorem dX12_likelyOf_29 : decode cX12_likelyOf 29 = .ok (.if_icmp .ge 7, 3) := by decide +kernel
theorem dX12_likelyOf_32 : decode cX12_likelyOf 32 = .ok (.iconst 1, 1) := by decide +kernel
theorem dX12_likelyOf_33 : decode cX12_likelyOf 33 = .ok (.goto 4, 3) := by decide +kernel
theorem dX12_likelyOf_36 : decode cX12_likelyOf 36 = .ok (.iconst 0, 1) := by decide +kernel
theorem dX12_likelyOf_37 : decode cX12_likelyOf 37 = .ok (.iload_n 3, 1) := by decide +kernel
theorem dX12_likelyOf_38 : decode cX12_likelyOf 38 = .ok (.if_icmp .ne 17, 3) := by decide +kernel
theorem dX12_likelyOf_41 : decode cX12_likelyOf 41 = .ok (.lload 5, 2) := by decide +kernel
theorem dX12_likelyOf_43 : decode cX12_likelyOf 43 = .ok (.aload_n 0, 1) := by decide +kernel
theorem dX12_likelyOf_44 : decode cX12_likelyOf 44 = .ok (.aload_n 1, 1) := by decide +kernel
theorem dX12_likelyOf_45 : decode cX12_likelyOf 45 = .ok (.iload 4, 2) := by decide +kernel
theorem dX12_likelyOf_47 : decode cX12_likelyOf 47 = .ok (.iload 7, 2) := by decide +kernel
theorem dX12_likelyOf_49 : decode cX12_likelyOf 49 = .ok (.invokevirtual 599, 3) := by decide +kernel
theorem dX12_likelyOf_52 : decode cX12_likelyOf 52 = .ok (.ladd, 1) := by decide +kernel
theorem dX12_likelyOf_53 : decode cX12_likelyOf 53 = .ok (.lstore 5, 2) := by decide +kernel
theorem dX12_likelyOf_55 : decode cX12_likelyOf 55 = .ok (.iinc 7 1, 3) := by decide +kernel
theorem dX12_likelyOf_58 : decode cX12_likelyOf 58 = .ok (.goto (-42), 3) := by decide +kernel
theorem dX12_likelyOf_61 : decode cX12_likelyOf 61 = .ok (.lload 5, 2) := by decide +kernel
theorem dX12_likelyOf_63 : decode cX12_likelyOf 63 = .ok (.l2i, 1) := by decide +kernel
theorem dX12_likelyOf_64 : decode cX12_likelyOf 64 = .ok (.ireturn, 1) := by decide +kernel
theorem dX12_errors_0 : decode cX12_errors 0 = .ok (.aload_n 0, 1) := by decide +kernel
theorem dX12_errors_1 : decode cX12_errors 1 = .ok (.iconst 0, 1) := by decide +kernel
theorem dX12_errors_2 : decode cX12_errors 2 = .ok (.putfield 154, 3) := by decide +kernel
theorem dX12_errors_5 : decode cX12_errors 5 = .ok (.iload_n 1, 1) := by decide +kernel
theorem dX12_errors_6 : decode cX12_errors 6 = .ok (.iconst 0, 1) := by decide +kernel
theorem dX12_errors_7 : decode cX12_errors 7 = .ok (.iconst 5, 1) := by decide +kernel
theorem dX12_errors_8 : decode cX12_errors 8 = .ok (.invokestatic 199, 3) := by decide +kernel
theorem dX12_errors_11 : decode cX12_errors 11 = .ok (.ifCond .eq 12, 3) := by decide +kernel
theorem dX12_errors_14 : decode cX12_errors 14 = .ok (.iload_n 2, 1) := by decide +kernel
theorem dX12_errors_15 : decode cX12_errors 15 = .ok (.iconst 0, 1) := by decide +kernel
theorem dX12_errors_16 : decode cX12_errors 16 = .ok (.iconst 1, 1) := by decide +kernel
theorem dX12_errors_17 : decode cX12_errors 17 = .ok (.invokestatic 199, 3) := by decide +kernel
theorem dX12_errors_20 : decode cX12_errors 20 = .ok (.ifCond .ne 5, 3) := by decide +kernel
theorem dX12_errors_23 : decode cX12_errors 23 = .ok (.iconst (-1), 1) := by decide +kernel
theorem dX12_errors_24 : decode cX12_errors 24 = .ok (.ireturn, 1) := by decide +kernel
theorem dX12_errors_25 : decode cX12_errors 25 = .ok (.iload_n 2, 1) := by decide +kernel
theorem dX12_errors_26 : decode cX12_errors 26 = .ok (.ifCond .ne 16, 3) := by decide +kernel
theorem dX12_errors_29 : decode cX12_errors 29 = .ok (.aload_n 0, 1) := by decide +kernel
theorem dX12_errors_30 : decode cX12_errors 30 = .ok (.aload_n 0, 1) := by decide +kernel
theorem dX12_errors_31 : decode cX12_errors 31 = .ok (.getfield 75, 3) := by decide +kernel
theorem dX12_errors_34 : decode cX12_errors 34 = .ok (.iload_n 1, 1) := by decide +kernel
theorem dX12_errors_35 : decode cX12_errors 35 = .ok (.iconst 1, 1) := by decide +kernel
theorem dX12_errors_36 : decode cX12_errors 36 = .ok (.invokevirtual 606, 3) := by decide +kernel
theorem dX12_errors_39 : decode cX12_errors 39 = .ok (.goto 13, 3) := by decide +kernel
theorem dX12_errors_42 : decode cX12_errors 42 = .ok (.aload_n 0, 1) := by decide +kernel
theorem dX12_errors_43 : decode cX12_errors 43 = .ok (.aload_n 0, 1) := by decide +kernel
theorem dX12_errors_44 : decode cX12_errors 44 = .ok (.getfield 78, 3) := by decide +kernel
theorem dX12_errors_47 : decode cX12_errors 47 = .ok (.iload_n 1, 1) := by decide +kernel
theorem dX12_errors_48 : decode cX12_errors 48 = .ok (.iconst 0, 1) := by decide +kernel
theorem dX12_errors_49 : decode cX12_errors 49 = .ok (.invokevirtual 606, 3) := by decide +kernel
theorem dX12_errors_52 : decode cX12_errors 52 = .ok (.ireturn, 1) := by decide +kernel
theorem dX12_rule_0 : decode cX12_rule 0 = .ok (.aload_n 0, 1) := by decide +kernel
theorem dX12_rule_1 : decode cX12_rule 1 = .ok (.iconst 0, 1) := by decide +kernel
theorem dX12_rule_2 : decode cX12_rule 2 = .ok (.putfield 154, 3) := by decide +kernel
theorem dX12_rule_5 : decode cX12_rule 5 = .ok (.iconst 0, 1) := by decide +kernel
theorem dX12_rule_6 : decode cX12_rule 6 = .ok (.istore_n 1, 1) := by decide +kernel
theorem dX12_rule_7 : decode cX12_rule 7 = .ok (.iconst (-1), 1) := by decide +kernel
theorem dX12_rule_8 : decode cX12_rule 8 = .ok (.istore_n 2, 1) := by decide +kernel
theorem dX12_rule_9 : decode cX12_rule 9 = .ok (.iconst 0, 1) := by decide +kernel
theorem dX12_rule_10 : decode cX12_rule 10 = .ok (.istore_n 3, 1) := by decide +kernel
theorem dX12_rule_11 : decode cX12_rule 11 = .ok (.iload_n 3, 1) := by decide +kernel
theorem dX12_rule_12 : decode cX12_rule 12 = .ok (.bipush 6, 2) := by decide +kernel
theorem dX12_rule_14 : decode cX12_rule 14 = .ok (.if_icmp .ge 50, 3) := by decide +kernel
theorem dX12_rule_17 : decode cX12_rule 17 = .ok (.aload_n 0, 1) := by decide +kernel
theorem dX12_rule_18 : decode cX12_rule 18 = .ok (.aload_n 0, 1) := by decide +kernel
theorem dX12_rule_19 : decode cX12_rule 19 = .ok (.getfield 75, 3) := by decide +kernel
theorem dX12_rule_22 : decode cX12_rule 22 = .ok (.iload_n 3, 1) := by decide +kernel
theorem dX12_rule_23 : decode cX12_rule 23 = .ok (.iconst 1, 1) := by decide +kernel
theorem dX12_rule_24 : decode cX12_rule 24 = .ok (.invokevirtual 606, 3) := by decide +kernel
theorem dX12_rule_27 : decode cX12_rule 27 = .ok (.aload_n 0, 1) := by decide +kernel
theorem dX12_rule_28 : decode cX12_rule 28 = .ok (.aload_n 0, 1) := by decide +kernel
theorem dX12_rule_29 : decode cX12_rule 29 = .ok (.getfield 78, 3) := by decide +kernel
theorem dX12_rule_32 : decode cX12_rule 32 = .ok (.iload_n 3, 1) := by decide +kernel
theorem dX12_rule_33 : decode cX12_rule 33 = .ok (.iconst 0, 1) := by decide +kernel
theorem dX12_rule_34 : decode cX12_rule 34 = .ok (.invokevirtual 606, 3) := by decide +kernel
theorem dX12_rule_37 : decode cX12_rule 37 = .ok (.iadd, 1) := by decide +kernel
theorem dX12_rule_38 : decode cX12_rule 38 = .ok (.istore 4, 2) := by decide +kernel
theorem dX12_rule_40 : decode cX12_rule 40 = .ok (.iload_n 2, 1) := by decide +kernel
theorem dX12_rule_41 : decode cX12_rule 41 = .ok (.ifCond .lt 12, 3) := by decide +kernel
theorem dX12_rule_44 : decode cX12_rule 44 = .ok (.iload 4, 2) := by decide +kernel
theorem dX12_rule_46 : decode cX12_rule 46 = .ok (.iload_n 2, 1) := by decide +kernel
theorem dX12_rule_47 : decode cX12_rule 47 = .ok (.if_icmp .lt 6, 3) := by decide +kernel
theorem dX12_rule_50 : decode cX12_rule 50 = .ok (.goto 8, 3) := by decide +kernel
theorem dX12_rule_53 : decode cX12_rule 53 = .ok (.iload 4, 2) := by decide +kernel
theorem dX12_rule_55 : decode cX12_rule 55 = .ok (.istore_n 2, 1) := by decide +kernel
theorem dX12_rule_56 : decode cX12_rule 56 = .ok (.iload_n 3, 1) := by decide +kernel
theorem dX12_rule_57 : decode cX12_rule 57 = .ok (.istore_n 1, 1) := by decide +kernel
theorem dX12_rule_58 : decode cX12_rule 58 = .ok (.iinc 3 1, 3) := by decide +kernel
theorem dX12_rule_61 : decode cX12_rule 61 = .ok (.goto (-50), 3) := by decide +kernel
theorem dX12_rule_64 : decode cX12_rule 64 = .ok (.iload_n 1, 1) := by decide +kernel
theorem dX12_rule_65 : decode cX12_rule 65 = .ok (.ireturn, 1) := by decide +kernel
theorem dX12_keep_0 : decode cX12_keep 0 = .ok (.aload_n 0, 1) := by decide +kernel
theorem dX12_keep_1 : decode cX12_keep 1 = .ok (.iconst 0, 1) := by decide +kernel
theorem dX12_keep_2 : decode cX12_keep 2 = .ok (.putfield 154, 3) := by decide +kernel
theorem dX12_keep_5 : decode cX12_keep 5 = .ok (.aload_n 0, 1) := by decide +kernel
theorem dX12_keep_6 : decode cX12_keep 6 = .ok (.iconst 1, 1) := by decide +kernel
theorem dX12_keep_7 : decode cX12_keep 7 = .ok (.putfield 301, 3) := by decide +kernel
theorem dX12_keep_10 : decode cX12_keep 10 = .ok (.aload_n 0, 1) := by decide +kernel
theorem dX12_keep_11 : decode cX12_keep 11 = .ok (.aload_n 0, 1) := by decide +kernel
theorem dX12_keep_12 : decode cX12_keep 12 = .ok (.getfield 292, 3) := by decide +kernel
theorem dX12_keep_15 : decode cX12_keep 15 = .ok (.putfield 610, 3) := by decide +kernel
theorem dX12_keep_18 : decode cX12_keep 18 = .ok (.aload_n 0, 1) := by decide +kernel
theorem dX12_keep_19 : decode cX12_keep 19 = .ok (.aload_n 0, 1) := by decide +kernel
theorem dX12_keep_20 : decode cX12_keep 20 = .ok (.getfield 493, 3) := by decide +kernel
theorem dX12_keep_23 : decode cX12_keep 23 = .ok (.putfield 613, 3) := by decide +kernel
theorem dX12_keep_26 : decode cX12_keep 26 = .ok (.aload_n 0, 1) := by decide +kernel
theorem dX12_keep_27 : decode cX12_keep 27 = .ok (.aload_n 0, 1) := by decide +kernel
theorem dX12_keep_28 : decode cX12_keep 28 = .ok (.getfield 496, 3) := by decide +kernel
theorem dX12_keep_31 : decode cX12_keep 31 = .ok (.putfield 616, 3) := by decide +kernel
theorem dX12_keep_34 : decode cX12_keep 34 = .ok (.iconst 0, 1) := by decide +kernel
theorem dX12_keep_35 : decode cX12_keep 35 = .ok (.istore_n 1, 1) := by decide +kernel
theorem dX12_keep_36 : decode cX12_keep 36 = .ok (.iload_n 1, 1) := by decide +kernel
theorem dX12_keep_37 : decode cX12_keep 37 = .ok (.bipush 7, 2) := by decide +kernel
theorem dX12_keep_39 : decode cX12_keep 39 = .ok (.if_icmp .ge 21, 3) := by decide +kernel
theorem dX12_keep_42 : decode cX12_keep 42 = .ok (.aload_n 0, 1) := by decide +kernel
theorem dX12_keep_43 : decode cX12_keep 43 = .ok (.getfield 145, 3) := by decide +kernel
theorem dX12_keep_46 : decode cX12_keep 46 = .ok (.iload_n 1, 1) := by decide +kernel
theorem dX12_keep_47 : decode cX12_keep 47 = .ok (.aload_n 0, 1) := by decide +kernel
theorem dX12_keep_48 : decode cX12_keep 48 = .ok (.getfield 112, 3) := by decide +kernel
theorem dX12_keep_51 : decode cX12_keep 51 = .ok (.iload_n 1, 1) := by decide +kernel
theorem dX12_keep_52 : decode cX12_keep 52 = .ok (.iaload, 1) := by decide +kernel
theorem dX12_keep_53 : decode cX12_keep 53 = .ok (.iastore, 1) := by decide +kernel
theorem dX12_keep_54 : decode cX12_keep 54 = .ok (.iinc 1 1, 3) := by decide +kernel
theorem dX12_keep_57 : decode cX12_keep 57 = .ok (.goto (-21), 3) := by decide +kernel
theorem dX12_keep_60 : decode cX12_keep 60 = .ok (.aload_n 0, 1) := by decide +kernel
theorem dX12_keep_61 : decode cX12_keep 61 = .ok (.aload_n 0, 1) := by decide +kernel
theorem dX12_keep_62 : decode cX12_keep 62 = .ok (.getfield 288, 3) := by decide +kernel
theorem dX12_keep_65 : decode cX12_keep 65 = .ok (.putfield 619, 3) := by decide +kernel
theorem dX12_keep_68 : decode cX12_keep 68 = .ok (.aload_n 0, 1) := by decide +kernel
theorem dX12_keep_69 : decode cX12_keep 69 = .ok (.aload_n 0, 1) := by decide +kernel
theorem dX12_keep_70 : decode cX12_keep 70 = .ok (.getfield 282, 3) := by decide +kernel
theorem dX12_keep_73 : decode cX12_keep 73 = .ok (.putfield 622, 3) := by decide +kernel
theorem dX12_keep_76 : decode cX12_keep 76 = .ok (.aload_n 0, 1) := by decide +kernel
theorem dX12_keep_77 : decode cX12_keep 77 = .ok (.aload_n 0, 1) := by decide +kernel
theorem dX12_keep_78 : decode cX12_keep 78 = .ok (.getfield 285, 3) := by decide +kernel
theorem dX12_keep_81 : decode cX12_keep 81 = .ok (.putfield 625, 3) := by decide +kernel
theorem dX12_keep_84 : decode cX12_keep 84 = .ok (.aload_n 0, 1) := by decide +kernel
theorem dX12_keep_85 : decode cX12_keep 85 = .ok (.getfield 292, 3) := by decide +kernel
theorem dX12_keep_88 : decode cX12_keep 88 = .ok (.ifCond .eq 12, 3) := by decide +kernel
theorem dX12_keep_91 : decode cX12_keep 91 = .ok (.aload_n 0, 1) := by decide +kernel
theorem dX12_keep_92 : decode cX12_keep 92 = .ok (.getfield 112, 3) := by decide +kernel
theorem dX12_keep_95 : decode cX12_keep 95 = .ok (.iconst 0, 1) := by decide +kernel
theorem dX12_keep_96 : decode cX12_keep 96 = .ok (.iaload, 1) := by decide +kernel
theorem dX12_keep_97 : decode cX12_keep 97 = .ok (.goto 5, 3) := by decide +kernel
theorem dX12_keep_100 : decode cX12_keep 100 = .ok (.bipush (-2), 2) := by decide +kernel
theorem dX12_keep_102 : decode cX12_keep 102 = .ok (.ireturn, 1) := by decide +kernel
theorem dX12_back_0 : decode cX12_back 0 = .ok (.aload_n 0, 1) := by decide +kernel
theorem dX12_back_1 : decode cX12_back 1 = .ok (.iconst 0, 1) := by decide +kernel
theorem dX12_back_2 : decode cX12_back 2 = .ok (.putfield 154, 3) := by decide +kernel
theorem dX12_back_5 : decode cX12_back 5 = .ok (.aload_n 0, 1) := by decide +kernel
theorem dX12_back_6 : decode cX12_back 6 = .ok (.getfield 301, 3) := by decide +kernel
theorem dX12_back_9 : decode cX12_back 9 = .ok (.ifCond .ne 5, 3) := by decide +kernel
theorem dX12_back_12 : decode cX12_back 12 = .ok (.iconst (-1), 1) := by decide +kernel
theorem dX12_back_13 : decode cX12_back 13 = .ok (.ireturn, 1) := by decide +kernel
theorem dX12_back_14 : decode cX12_back 14 = .ok (.aload_n 0, 1) := by decide +kernel
theorem dX12_back_15 : decode cX12_back 15 = .ok (.aload_n 0, 1) := by decide +kernel
theorem dX12_back_16 : decode cX12_back 16 = .ok (.getfield 610, 3) := by decide +kernel
theorem dX12_back_19 : decode cX12_back 19 = .ok (.putfield 292, 3) := by decide +kernel
theorem dX12_back_22 : decode cX12_back 22 = .ok (.aload_n 0, 1) := by decide +kernel
theorem dX12_back_23 : decode cX12_back 23 = .ok (.aload_n 0, 1) := by decide +kernel
theorem dX12_back_24 : decode cX12_back 24 = .ok (.getfield 613, 3) := by decide +kernel
theorem dX12_back_27 : decode cX12_back 27 = .ok (.putfield 493, 3) := by decide +kernel
theorem dX12_back_30 : decode cX12_back 30 = .ok (.aload_n 0, 1) := by decide +kernel
theorem dX12_back_31 : decode cX12_back 31 = .ok (.aload_n 0, 1) := by decide +kernel
theorem dX12_back_32 : decode cX12_back 32 = .ok (.getfield 616, 3) := by decide +kernel
theorem dX12_back_35 : decode cX12_back 35 = .ok (.putfield 496, 3) := by decide +kernel
theorem dX12_back_38 : decode cX12_back 38 = .ok (.iconst 0, 1) := by decide +kernel
theorem dX12_back_39 : decode cX12_back 39 = .ok (.istore_n 1, 1) := by decide +kernel
theorem dX12_back_40 : decode cX12_back 40 = .ok (.iload_n 1, 1) := by decide +kernel
theorem dX12_back_41 : decode cX12_back 41 = .ok (.bipush 7, 2) := by decide +kernel
theorem dX12_back_43 : decode cX12_back 43 = .ok (.if_icmp .ge 21, 3) := by decide +kernel
theorem dX12_back_46 : decode cX12_back 46 = .ok (.aload_n 0, 1) := by decide +kernel
theorem dX12_back_47 : decode cX12_back 47 = .ok (.getfield 112, 3) := by decide +kernel
theorem dX12_back_50 : decode cX12_back 50 = .ok (.iload_n 1, 1) := by decide +kernel
theorem dX12_back_51 : decode cX12_back 51 = .ok (.aload_n 0, 1) := by decide +kernel
theorem dX12_back_52 : decode cX12_back 52 = .ok (.getfield 145, 3) := by decide +kernel
theorem dX12_back_55 : decode cX12_back 55 = .ok (.iload_n 1, 1) := by decide +kernel
theorem dX12_back_56 : decode cX12_back 56 = .ok (.iaload, 1) := by decide +kernel
theorem dX12_back_57 : decode cX12_back 57 = .ok (.iastore, 1) := by decide +kernel
theorem dX12_back_58 : decode cX12_back 58 = .ok (.iinc 1 1, 3) := by decide +kernel
theorem dX12_back_61 : decode cX12_back 61 = .ok (.goto (-21), 3) := by decide +kernel
theorem dX12_back_64 : decode cX12_back 64 = .ok (.aload_n 0, 1) := by decide +kernel
theorem dX12_back_65 : decode cX12_back 65 = .ok (.aload_n 0, 1) := by decide +kernel
theorem dX12_back_66 : decode cX12_back 66 = .ok (.getfield 619, 3) := by decide +kernel
theorem dX12_back_69 : decode cX12_back 69 = .ok (.putfield 288, 3) := by decide +kernel
theorem dX12_back_72 : decode cX12_back 72 = .ok (.aload_n 0, 1) := by decide +kernel
theorem dX12_back_73 : decode cX12_back 73 = .ok (.aload_n 0, 1) := by decide +kernel
theorem dX12_back_74 : decode cX12_back 74 = .ok (.getfield 622, 3) := by decide +kernel
theorem dX12_back_77 : decode cX12_back 77 = .ok (.putfield 282, 3) := by decide +kernel
theorem dX12_back_80 : decode cX12_back 80 = .ok (.aload_n 0, 1) := by decide +kernel
theorem dX12_back_81 : decode cX12_back 81 = .ok (.aload_n 0, 1) := by decide +kernel
theorem dX12_back_82 : decode cX12_back 82 = .ok (.getfield 625, 3) := by decide +kernel
theorem dX12_back_85 : decode cX12_back 85 = .ok (.putfield 285, 3) := by decide +kernel
theorem dX12_back_88 : decode cX12_back 88 = .ok (.aload_n 0, 1) := by decide +kernel
theorem dX12_back_89 : decode cX12_back 89 = .ok (.iconst 0, 1) := by decide +kernel
theorem dX12_back_90 : decode cX12_back 90 = .ok (.putfield 295, 3) := by decide +kernel
theorem dX12_back_93 : decode cX12_back 93 = .ok (.aload_n 0, 1) := by decide +kernel
theorem dX12_back_94 : decode cX12_back 94 = .ok (.getfield 292, 3) := by decide +kernel
theorem dX12_back_97 : decode cX12_back 97 = .ok (.ifCond .eq 12, 3) := by decide +kernel
theorem dX12_back_100 : decode cX12_back 100 = .ok (.aload_n 0, 1) := by decide +kernel
theorem dX12_back_101 : decode cX12_back 101 = .ok (.getfield 112, 3) := by decide +kernel
theorem dX12_back_104 : decode cX12_back 104 = .ok (.iconst 0, 1) := by decide +kernel
theorem dX12_back_105 : decode cX12_back 105 = .ok (.iaload, 1) := by decide +kernel
theorem dX12_back_106 : decode cX12_back 106 = .ok (.goto 5, 3) := by decide +kernel
theorem dX12_back_109 : decode cX12_back 109 = .ok (.bipush (-2), 2) := by decide +kernel
theorem dX12_back_111 : decode cX12_back 111 = .ok (.ireturn, 1) := by decide +kernel
theorem dX12_count_0 : decode cX12_count 0 = .ok (.aload_n 0, 1) := by decide +kernel
theorem dX12_count_1 : decode cX12_count 1 = .ok (.iconst 0, 1) := by decide +kernel
theorem dX12_count_2 : decode cX12_count 2 = .ok (.putfield 154, 3) := by decide +kernel
theorem dX12_count_5 : decode cX12_count 5 = .ok (.iload_n 1, 1) := by decide +kernel
theorem dX12_count_6 : decode cX12_count 6 = .ok (.tableswitch 113 0 10 #[58, 63, 68, 73, 78, 83, 88, 93, 98, 103, 108], 58) := by decide +kernel
theorem dX12_count_64 : decode cX12_count 64 = .ok (.aload_n 0, 1) := by decide +kernel
theorem dX12_count_65 : decode cX12_count 65 = .ok (.getfield 250, 3) := by decide +kernel
theorem dX12_count_68 : decode cX12_count 68 = .ok (.ireturn, 1) := by decide +kernel
theorem dX12_count_69 : decode cX12_count 69 = .ok (.aload_n 0, 1) := by decide +kernel
theorem dX12_count_70 : decode cX12_count 70 = .ok (.getfield 253, 3) := by decide +kernel
theorem dX12_count_73 : decode cX12_count 73 = .ok (.ireturn, 1) := by decide +kernel
theorem dX12_count_74 : decode cX12_count 74 = .ok (.aload_n 0, 1) := by decide +kernel
theorem dX12_count_75 : decode cX12_count 75 = .ok (.getfield 256, 3) := by decide +kernel
theorem dX12_count_78 : decode cX12_count 78 = .ok (.ireturn, 1) := by decide +kernel
theorem dX12_count_79 : decode cX12_count 79 = .ok (.aload_n 0, 1) := by decide +kernel
theorem dX12_count_80 : decode cX12_count 80 = .ok (.getfield 259, 3) := by decide +kernel
theorem dX12_count_83 : decode cX12_count 83 = .ok (.ireturn, 1) := by decide +kernel
theorem dX12_count_84 : decode cX12_count 84 = .ok (.aload_n 0, 1) := by decide +kernel
theorem dX12_count_85 : decode cX12_count 85 = .ok (.getfield 265, 3) := by decide +kernel
theorem dX12_count_88 : decode cX12_count 88 = .ok (.ireturn, 1) := by decide +kernel
theorem dX12_count_89 : decode cX12_count 89 = .ok (.aload_n 0, 1) := by decide +kernel
theorem dX12_count_90 : decode cX12_count 90 = .ok (.invokevirtual 476, 3) := by decide +kernel
theorem dX12_count_93 : decode cX12_count 93 = .ok (.ireturn, 1) := by decide +kernel
theorem dX12_count_94 : decode cX12_count 94 = .ok (.aload_n 0, 1) := by decide +kernel
theorem dX12_count_95 : decode cX12_count 95 = .ok (.getfield 298, 3) := by decide +kernel
theorem dX12_count_98 : decode cX12_count 98 = .ok (.ireturn, 1) := by decide +kernel
theorem dX12_count_99 : decode cX12_count 99 = .ok (.aload_n 0, 1) := by decide +kernel
theorem dX12_count_100 : decode cX12_count 100 = .ok (.invokevirtual 561, 3) := by decide +kernel
theorem dX12_count_103 : decode cX12_count 103 = .ok (.ireturn, 1) := by decide +kernel
theorem dX12_count_104 : decode cX12_count 104 = .ok (.aload_n 0, 1) := by decide +kernel
theorem dX12_count_105 : decode cX12_count 105 = .ok (.getfield 295, 3) := by decide +kernel
theorem dX12_count_108 : decode cX12_count 108 = .ok (.ireturn, 1) := by decide +kernel
theorem dX12_count_109 : decode cX12_count 109 = .ok (.aload_n 0, 1) := by decide +kernel
theorem dX12_count_110 : decode cX12_count 110 = .ok (.getfield 282, 3) := by decide +kernel
theorem dX12_count_113 : decode cX12_count 113 = .ok (.ireturn, 1) := by decide +kernel
theorem dX12_count_114 : decode cX12_count 114 = .ok (.aload_n 0, 1) := by decide +kernel
theorem dX12_count_115 : decode cX12_count 115 = .ok (.getfield 262, 3) := by decide +kernel
theorem dX12_count_118 : decode cX12_count 118 = .ok (.ireturn, 1) := by decide +kernel
theorem dX12_count_119 : decode cX12_count 119 = .ok (.iconst (-1), 1) := by decide +kernel
theorem dX12_count_120 : decode cX12_count 120 = .ok (.ireturn, 1) := by decide +kernel
