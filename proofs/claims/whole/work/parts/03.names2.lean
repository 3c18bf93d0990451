theorem dX7_isSetOfOutputs_1 : decode cX7_isSetOfOutputs 1 = .ok (.iconst 0, 1) := by decide +kernel
theorem dX7_isSetOfOutputs_2 : decode cX7_isSetOfOutputs 2 = .ok (.iconst 3, 1) := by decide +kernel
theorem dX7_isSetOfOutputs_3 : decode cX7_isSetOfOutputs 3 = .ok (.invokestatic 62, 3) := by decide +kernel
theorem dX7_isSetOfOutputs_6 : decode cX7_isSetOfOutputs 6 = .ok (.ireturn, 1) := by decide +kernel
theorem dX8_init_0 : decode cX8_init 0 = .ok (.aload_n 0, 1) := by decide +kernel
theorem dX8_init_1 : decode cX8_init 1 = .ok (.invokespecial 1, 3) := by decide +kernel
theorem dX8_init_4 : decode cX8_init 4 = .ok (.aload_n 0, 1) := by decide +kernel
theorem dX8_init_5 : decode cX8_init 5 = .ok (.iconst 4, 1) := by decide +kernel
theorem dX8_init_6 : decode cX8_init 6 = .ok (.newarray .int, 2) := by decide +kernel
theorem dX8_init_8 : decode cX8_init 8 = .ok (.putfield 7, 3) := by decide +kernel
theorem dX8_init_11 : decode cX8_init 11 = .ok (.aload_n 0, 1) := by decide +kernel
theorem dX8_init_12 : decode cX8_init 12 = .ok (.iconst 4, 1) := by decide +kernel
theorem dX8_init_13 : decode cX8_init 13 = .ok (.newarray .int, 2) := by decide +kernel
theorem dX8_init_15 : decode cX8_init 15 = .ok (.putfield 13, 3) := by decide +kernel
theorem dX8_init_18 : decode cX8_init 18 = .ok (.aload_n 0, 1) := by decide +kernel
theorem dX8_init_19 : decode cX8_init 19 = .ok (.iconst 4, 1) := by decide +kernel
theorem dX8_init_20 : decode cX8_init 20 = .ok (.newarray .int, 2) := by decide +kernel
theorem dX8_init_22 : decode cX8_init 22 = .ok (.putfield 16, 3) := by decide +kernel
theorem dX8_init_25 : decode cX8_init 25 = .ok (.aload_n 0, 1) := by decide +kernel
theorem dX8_init_26 : decode cX8_init 26 = .ok (.iconst 4, 1) := by decide +kernel
theorem dX8_init_27 : decode cX8_init 27 = .ok (.newarray .int, 2) := by decide +kernel
theorem dX8_init_29 : decode cX8_init 29 = .ok (.putfield 19, 3) := by decide +kernel
theorem dX8_init_32 : decode cX8_init 32 = .ok (.aload_n 0, 1) := by decide +kernel
theorem dX8_init_33 : decode cX8_init 33 = .ok (.iconst 4, 1) := by decide +kernel
theorem dX8_init_34 : decode cX8_init 34 = .ok (.newarray .int, 2) := by decide +kernel
theorem dX8_init_36 : decode cX8_init 36 = .ok (.putfield 22, 3) := by decide +kernel
theorem dX8_init_39 : decode cX8_init 39 = .ok (.aload_n 0, 1) := by decide +kernel
theorem dX8_init_40 : decode cX8_init 40 = .ok (.iconst 4, 1) := by decide +kernel
theorem dX8_init_41 : decode cX8_init 41 = .ok (.newarray .int, 2) := by decide +kernel
theorem dX8_init_43 : decode cX8_init 43 = .ok (.putfield 25, 3) := by decide +kernel
theorem dX8_init_46 : decode cX8_init 46 = .ok (.aload_n 0, 1) := by decide +kernel
theorem dX8_init_47 : decode cX8_init 47 = .ok (.iconst 4, 1) := by decide +kernel
theorem dX8_init_48 : decode cX8_init 48 = .ok (.newarray .int, 2) := by decide +kernel
theorem dX8_init_50 : decode cX8_init 50 = .ok (.putfield 28, 3) := by decide +kernel
theorem dX8_init_53 : decode cX8_init 53 = .ok (.aload_n 0, 1) := by decide +kernel
theorem dX8_init_54 : decode cX8_init 54 = .ok (.iconst 4, 1) := by decide +kernel
theorem dX8_init_55 : decode cX8_init 55 = .ok (.newarray .int, 2) := by decide +kernel
theorem dX8_init_57 : decode cX8_init 57 = .ok (.putfield 31, 3) := by decide +kernel
theorem dX8_init_60 : decode cX8_init 60 = .ok (.aload_n 0, 1) := by decide +kernel
theorem dX8_init_61 : decode cX8_init 61 = .ok (.iconst 4, 1) := by decide +kernel
theorem dX8_init_62 : decode cX8_init 62 = .ok (.newarray .int, 2) := by decide +kernel
theorem dX8_init_64 : decode cX8_init 64 = .ok (.putfield 34, 3) := by decide +kernel
theorem dX8_init_67 : decode cX8_init 67 = .ok (.aload_n 0, 1) := by decide +kernel
theorem dX8_init_68 : decode cX8_init 68 = .ok (.iconst 4, 1) := by decide +kernel
theorem dX8_init_69 : decode cX8_init 69 = .ok (.newarray .boolean, 2) := by decide +kernel
theorem dX8_init_71 : decode cX8_init 71 = .ok (.putfield 37, 3) := by decide +kernel
theorem dX8_init_74 : decode cX8_init 74 = .ok (.aload_n 0, 1) := by decide +kernel
theorem dX8_init_75 : decode cX8_init 75 = .ok (.iconst 4, 1) := by decide +kernel
theorem dX8_init_76 : decode cX8_init 76 = .ok (.newarray .boolean, 2) := by decide +kernel
theorem dX8_init_78 : decode cX8_init 78 = .ok (.putfield 41, 3) := by decide +kernel
theorem dX8_init_81 : decode cX8_init 81 = .ok (.aload_n 0, 1) := by decide +kernel
theorem dX8_init_82 : decode cX8_init 82 = .ok (.iconst 4, 1) := by decide +kernel
theorem dX8_init_83 : decode cX8_init 83 = .ok (.newarray .int, 2) := by decide +kernel
theorem dX8_init_85 : decode cX8_init 85 = .ok (.putfield 44, 3) := by decide +kernel
theorem dX8_init_88 : decode cX8_init 88 = .ok (.aload_n 0, 1) := by decide +kernel
theorem dX8_init_89 : decode cX8_init 89 = .ok (.iconst 4, 1) := by decide +kernel
theorem dX8_init_90 : decode cX8_init 90 = .ok (.newarray .int, 2) := by decide +kernel
theorem dX8_init_92 : decode cX8_init 92 = .ok (.putfield 47, 3) := by decide +kernel
theorem dX8_init_95 : decode cX8_init 95 = .ok (.aload_n 0, 1) := by decide +kernel
theorem dX8_init_96 : decode cX8_init 96 = .ok (.iconst 4, 1) := by decide +kernel
theorem dX8_init_97 : decode cX8_init 97 = .ok (.newarray .int, 2) := by decide +kernel
theorem dX8_init_99 : decode cX8_init 99 = .ok (.putfield 50, 3) := by decide +kernel
theorem dX8_init_102 : decode cX8_init 102 = .ok (.aload_n 0, 1) := by decide +kernel
theorem dX8_init_103 : decode cX8_init 103 = .ok (.iconst 4, 1) := by decide +kernel
theorem dX8_init_104 : decode cX8_init 104 = .ok (.newarray .int, 2) := by decide +kernel
theorem dX8_init_106 : decode cX8_init 106 = .ok (.putfield 53, 3) := by decide +kernel
theorem dX8_init_109 : decode cX8_init 109 = .ok (.aload_n 0, 1) := by decide +kernel
theorem dX8_init_110 : decode cX8_init 110 = .ok (.iconst 4, 1) := by decide +kernel
theorem dX8_init_111 : decode cX8_init 111 = .ok (.newarray .int, 2) := by decide +kernel
theorem dX8_init_113 : decode cX8_init 113 = .ok (.putfield 56, 3) := by decide +kernel
theorem dX8_init_116 : decode cX8_init 116 = .ok (.aload_n 0, 1) := by decide +kernel
theorem dX8_init_117 : decode cX8_init 117 = .ok (.iconst 4, 1) := by decide +kernel
theorem dX8_init_118 : decode cX8_init 118 = .ok (.newarray .int, 2) := by decide +kernel
theorem dX8_init_120 : decode cX8_init 120 = .ok (.putfield 59, 3) := by decide +kernel
theorem dX8_init_123 : decode cX8_init 123 = .ok (.aload_n 0, 1) := by decide +kernel
theorem dX8_init_124 : decode cX8_init 124 = .ok (.iconst 4, 1) := by decide +kernel
theorem dX8_init_125 : decode cX8_init 125 = .ok (.newarray .int, 2) := by decide +kernel
theorem dX8_init_127 : decode cX8_init 127 = .ok (.putfield 62, 3) := by decide +kernel
theorem dX8_init_130 : decode cX8_init 130 = .ok (.aload_n 0, 1) := by decide +kernel
theorem dX8_init_131 : decode cX8_init 131 = .ok (.iconst 4, 1) := by decide +kernel
theorem dX8_init_132 : decode cX8_init 132 = .ok (.newarray .int, 2) := by decide +kernel
theorem dX8_init_134 : decode cX8_init 134 = .ok (.putfield 65, 3) := by decide +kernel
theorem dX8_init_137 : decode cX8_init 137 = .ok (.aload_n 0, 1) := by decide +kernel
theorem dX8_init_138 : decode cX8_init 138 = .ok (.iconst 4, 1) := by decide +kernel
theorem dX8_init_139 : decode cX8_init 139 = .ok (.newarray .int, 2) := by decide +kernel
theorem dX8_init_141 : decode cX8_init 141 = .ok (.putfield 68, 3) := by decide +kernel
theorem dX8_init_144 : decode cX8_init 144 = .ok (.aload_n 0, 1) := by decide +kernel
theorem dX8_init_145 : decode cX8_init 145 = .ok (.iconst 4, 1) := by decide +kernel
theorem dX8_init_146 : decode cX8_init 146 = .ok (.newarray .int, 2) := by decide +kernel
theorem dX8_init_148 : decode cX8_init 148 = .ok (.putfield 71, 3) := by decide +kernel
theorem dX8_init_151 : decode cX8_init 151 = .ok (.aload_n 0, 1) := by decide +kernel
theorem dX8_init_152 : decode cX8_init 152 = .ok (.iconst 4, 1) := by decide +kernel
theorem dX8_init_153 : decode cX8_init 153 = .ok (.newarray .int, 2) := by decide +kernel
theorem dX8_init_155 : decode cX8_init 155 = .ok (.putfield 74, 3) := by decide +kernel
theorem dX8_init_158 : decode cX8_init 158 = .ok (.aload_n 0, 1) := by decide +kernel
theorem dX8_init_159 : decode cX8_init 159 = .ok (.iconst 4, 1) := by decide +kernel
theorem dX8_init_160 : decode cX8_init 160 = .ok (.newarray .int, 2) := by decide +kernel
theorem dX8_init_162 : decode cX8_init 162 = .ok (.putfield 77, 3) := by decide +kernel
theorem dX8_init_165 : decode cX8_init 165 = .ok (.aload_n 0, 1) := by decide +kernel
theorem dX8_init_166 : decode cX8_init 166 = .ok (.iconst 4, 1) := by decide +kernel
theorem dX8_init_167 : decode cX8_init 167 = .ok (.newarray .int, 2) := by decide +kernel
theorem dX8_init_169 : decode cX8_init 169 = .ok (.putfield 80, 3) := by decide +kernel
theorem dX8_init_172 : decode cX8_init 172 = .ok (.aload_n 0, 1) := by decide +kernel
theorem dX8_init_173 : decode cX8_init 173 = .ok (.iconst 4, 1) := by decide +kernel
theorem dX8_init_174 : decode cX8_init 174 = .ok (.newarray .int, 2) := by decide +kernel
theorem dX8_init_176 : decode cX8_init 176 = .ok (.putfield 83, 3) := by decide +kernel
theorem dX8_init_179 : decode cX8_init 179 = .ok (.aload_n 0, 1) := by decide +kernel
theorem dX8_init_180 : decode cX8_init 180 = .ok (.iconst 4, 1) := by decide +kernel
theorem dX8_init_181 : decode cX8_init 181 = .ok (.newarray .int, 2) := by decide +kernel
theorem dX8_init_183 : decode cX8_init 183 = .ok (.putfield 86, 3) := by decide +kernel
theorem dX8_init_186 : decode cX8_init 186 = .ok (.aload_n 0, 1) := by decide +kernel
theorem dX8_init_187 : decode cX8_init 187 = .ok (.iconst 4, 1) := by decide +kernel
theorem dX8_init_188 : decode cX8_init 188 = .ok (.newarray .int, 2) := by decide +kernel
theorem dX8_init_190 : decode cX8_init 190 = .ok (.putfield 89, 3) := by decide +kernel
theorem dX8_init_193 : decode cX8_init 193 = .ok (.aload_n 0, 1) := by decide +kernel
theorem dX8_init_194 : decode cX8_init 194 = .ok (.iconst 4, 1) := by decide +kernel
theorem dX8_init_195 : decode cX8_init 195 = .ok (.newarray .int, 2) := by decide +kernel
theorem dX8_init_197 : decode cX8_init 197 = .ok (.putfield 92, 3) := by decide +kernel
theorem dX8_init_200 : decode cX8_init 200 = .ok (.aload_n 0, 1) := by decide +kernel
theorem dX8_init_201 : decode cX8_init 201 = .ok (.iconst 4, 1) := by decide +kernel
theorem dX8_init_202 : decode cX8_init 202 = .ok (.newarray .int, 2) := by decide +kernel
theorem dX8_init_204 : decode cX8_init 204 = .ok (.putfield 95, 3) := by decide +kernel
theorem dX8_init_207 : decode cX8_init 207 = .ok (.aload_n 0, 1) := by decide +kernel
theorem dX8_init_208 : decode cX8_init 208 = .ok (.iconst 4, 1) := by decide +kernel
theorem dX8_init_209 : decode cX8_init 209 = .ok (.newarray .int, 2) := by decide +kernel
theorem dX8_init_211 : decode cX8_init 211 = .ok (.putfield 98, 3) := by decide +kernel
theorem dX8_init_214 : decode cX8_init 214 = .ok (.aload_n 0, 1) := by decide +kernel
theorem dX8_init_215 : decode cX8_init 215 = .ok (.iconst 4, 1) := by decide +kernel
theorem dX8_init_216 : decode cX8_init 216 = .ok (.newarray .int, 2) := by decide +kernel
theorem dX8_init_218 : decode cX8_init 218 = .ok (.putfield 101, 3) := by decide +kernel
theorem dX8_init_221 : decode cX8_init 221 = .ok (.aload_n 0, 1) := by decide +kernel
theorem dX8_init_222 : decode cX8_init 222 = .ok (.bipush 8, 2) := by decide +kernel
theorem dX8_init_224 : decode cX8_init 224 = .ok (.newarray .int, 2) := by decide +kernel
theorem dX8_init_226 : decode cX8_init 226 = .ok (.putfield 104, 3) := by decide +kernel
theorem dX8_init_229 : decode cX8_init 229 = .ok (.aload_n 0, 1) := by decide +kernel
theorem dX8_init_230 : decode cX8_init 230 = .ok (.bipush 24, 2) := by decide +kernel
theorem dX8_init_232 : decode cX8_init 232 = .ok (.newarray .int, 2) := by decide +kernel
theorem dX8_init_234 : decode cX8_init 234 = .ok (.putfield 107, 3) := by decide +kernel
theorem dX8_init_237 : decode cX8_init 237 = .ok (.aload_n 0, 1) := by decide +kernel
theorem dX8_init_238 : decode cX8_init 238 = .ok (.bipush 24, 2) := by decide +kernel
theorem dX8_init_240 : decode cX8_init 240 = .ok (.newarray .int, 2) := by decide +kernel
theorem dX8_init_242 : decode cX8_init 242 = .ok (.putfield 110, 3) := by decide +kernel
theorem dX8_init_245 : decode cX8_init 245 = .ok (.aload_n 0, 1) := by decide +kernel
theorem dX8_init_246 : decode cX8_init 246 = .ok (.bipush 24, 2) := by decide +kernel
theorem dX8_init_248 : decode cX8_init 248 = .ok (.newarray .int, 2) := by decide +kernel
theorem dX8_init_250 : decode cX8_init 250 = .ok (.putfield 113, 3) := by decide +kernel
theorem dX8_init_253 : decode cX8_init 253 = .ok (.aload_n 0, 1) := by decide +kernel
theorem dX8_init_254 : decode cX8_init 254 = .ok (.iconst 2, 1) := by decide +kernel
theorem dX8_init_255 : decode cX8_init 255 = .ok (.newarray .boolean, 2) := by decide +kernel
theorem dX8_init_257 : decode cX8_init 257 = .ok (.putfield 116, 3) := by decide +kernel
theorem dX8_init_260 : decode cX8_init 260 = .ok (.aload_n 0, 1) := by decide +kernel
theorem dX8_init_261 : decode cX8_init 261 = .ok (.iconst 2, 1) := by decide +kernel
theorem dX8_init_262 : decode cX8_init 262 = .ok (.newarray .int, 2) := by decide +kernel
theorem dX8_init_264 : decode cX8_init 264 = .ok (.putfield 119, 3) := by decide +kernel
theorem dX8_init_267 : decode cX8_init 267 = .ok (.aload_n 0, 1) := by decide +kernel
theorem dX8_init_268 : decode cX8_init 268 = .ok (.iconst 4, 1) := by decide +kernel
theorem dX8_init_269 : decode cX8_init 269 = .ok (.putfield 122, 3) := by decide +kernel
theorem dX8_init_272 : decode cX8_init 272 = .ok (.iconst 0, 1) := by decide +kernel
theorem dX8_init_273 : decode cX8_init 273 = .ok (.istore_n 1, 1) := by decide +kernel
theorem dX8_init_274 : decode cX8_init 274 = .ok (.iload_n 1, 1) := by decide +kernel
theorem dX8_init_275 : decode cX8_init 275 = .ok (.iconst 4, 1) := by decide +kernel
theorem dX8_init_276 : decode cX8_init 276 = .ok (.if_icmp .ge 53, 3) := by decide +kernel
theorem dX8_init_279 : decode cX8_init 279 = .ok (.aload_n 0, 1) := by decide +kernel
theorem dX8_init_280 : decode cX8_init 280 = .ok (.getfield 13, 3) := by decide +kernel
theorem dX8_init_283 : decode cX8_init 283 = .ok (.iload_n 1, 1) := by decide +kernel
theorem dX8_init_284 : decode cX8_init 284 = .ok (.bipush 99, 2) := by decide +kernel
theorem dX8_init_286 : decode cX8_init 286 = .ok (.iastore, 1) := by decide +kernel
theorem dX8_init_287 : decode cX8_init 287 = .ok (.aload_n 0, 1) := by decide +kernel
theorem dX8_init_288 : decode cX8_init 288 = .ok (.getfield 16, 3) := by decide +kernel
theorem dX8_init_291 : decode cX8_init 291 = .ok (.iload_n 1, 1) := by decide +kernel
theorem dX8_init_292 : decode cX8_init 292 = .ok (.iconst 1, 1) := by decide +kernel
theorem dX8_init_293 : decode cX8_init 293 = .ok (.iastore, 1) := by decide +kernel
theorem dX8_init_294 : decode cX8_init 294 = .ok (.aload_n 0, 1) := by decide +kernel
theorem dX8_init_295 : decode cX8_init 295 = .ok (.getfield 28, 3) := by decide +kernel
theorem dX8_init_298 : decode cX8_init 298 = .ok (.iload_n 1, 1) := by decide +kernel
theorem dX8_init_299 : decode cX8_init 299 = .ok (.iconst 1, 1) := by decide +kernel
theorem dX8_init_300 : decode cX8_init 300 = .ok (.iastore, 1) := by decide +kernel
theorem dX8_init_301 : decode cX8_init 301 = .ok (.aload_n 0, 1) := by decide +kernel
theorem dX8_init_302 : decode cX8_init 302 = .ok (.getfield 34, 3) := by decide +kernel
theorem dX8_init_305 : decode cX8_init 305 = .ok (.iload_n 1, 1) := by decide +kernel
theorem dX8_init_306 : decode cX8_init 306 = .ok (.bipush (-9), 2) := by decide +kernel
theorem dX8_init_308 : decode cX8_init 308 = .ok (.iastore, 1) := by decide +kernel
theorem dX8_init_309 : decode cX8_init 309 = .ok (.aload_n 0, 1) := by decide +kernel
theorem dX8_init_310 : decode cX8_init 310 = .ok (.getfield 50, 3) := by decide +kernel
theorem dX8_init_313 : decode cX8_init 313 = .ok (.iload_n 1, 1) := by decide +kernel
theorem dX8_init_314 : decode cX8_init 314 = .ok (.iconst 1, 1) := by decide +kernel
theorem dX8_init_315 : decode cX8_init 315 = .ok (.iastore, 1) := by decide +kernel
theorem dX8_init_316 : decode cX8_init 316 = .ok (.aload_n 0, 1) := by decide +kernel
theorem dX8_init_317 : decode cX8_init 317 = .ok (.getfield 65, 3) := by decide +kernel
theorem dX8_init_320 : decode cX8_init 320 = .ok (.iload_n 1, 1) := by decide +kernel
theorem dX8_init_321 : decode cX8_init 321 = .ok (.iconst 1, 1) := by decide +kernel
theorem dX8_init_322 : decode cX8_init 322 = .ok (.iastore, 1) := by decide +kernel
theorem dX8_init_323 : decode cX8_init 323 = .ok (.iinc 1 1, 3) := by decide +kernel
theorem dX8_init_326 : decode cX8_init 326 = .ok (.goto (-52), 3) := by decide +kernel
theorem dX8_init_329 : decode cX8_init 329 = .ok (.aload_n 0, 1) := by decide +kernel
theorem dX8_init_330 : decode cX8_init 330 = .ok (.getfield 119, 3) := by decide +kernel
theorem dX8_init_333 : decode cX8_init 333 = .ok (.iconst 0, 1) := by decide +kernel
theorem dX8_init_334 : decode cX8_init 334 = .ok (.bipush (-9), 2) := by decide +kernel
theorem dX8_init_336 : decode cX8_init 336 = .ok (.iastore, 1) := by decide +kernel
theorem dX8_init_337 : decode cX8_init 337 = .ok (.aload_n 0, 1) := by decide +kernel
theorem dX8_init_338 : decode cX8_init 338 = .ok (.getfield 119, 3) := by decide +kernel
theorem dX8_init_341 : decode cX8_init 341 = .ok (.iconst 1, 1) := by decide +kernel
theorem dX8_init_342 : decode cX8_init 342 = .ok (.bipush (-9), 2) := by decide +kernel
theorem dX8_init_344 : decode cX8_init 344 = .ok (.iastore, 1) := by decide +kernel
theorem dX8_init_345 : decode cX8_init 345 = .ok (.return_, 1) := by decide +kernel
theorem dX8_within_0 : decode cX8_within 0 = .ok (.iload_n 0, 1) := by decide +kernel
theorem dX8_within_1 : decode cX8_within 1 = .ok (.iload_n 1, 1) := by decide +kernel
theorem dX8_within_2 : decode cX8_within 2 = .ok (.if_icmp .lt 12, 3) := by decide +kernel
theorem dX8_within_5 : decode cX8_within 5 = .ok (.iload_n 0, 1) := by decide +kernel
theorem dX8_within_6 : decode cX8_within 6 = .ok (.iload_n 2, 1) := by decide +kernel
theorem dX8_within_7 : decode cX8_within 7 = .ok (.if_icmp .gt 7, 3) := by decide +kernel
theorem dX8_within_10 : decode cX8_within 10 = .ok (.iconst 1, 1) := by decide +kernel
theorem dX8_within_11 : decode cX8_within 11 = .ok (.goto 4, 3) := by decide +kernel
theorem dX8_within_14 : decode cX8_within 14 = .ok (.iconst 0, 1) := by decide +kernel
theorem dX8_within_15 : decode cX8_within 15 = .ok (.ireturn, 1) := by decide +kernel
set_option maxRecDepth 20000 in
theorem ggX8_isOne_X8_within : GoodIn wsX8_isOne wsX8_within := goodIn_r _ [4] (by decide +kernel) (by decide +kernel)
set_option maxRecDepth 20000 in
theorem gX8_isOne_X8_within : GoodIn wsX8_isOne (va_wsS RX8 126 yX8_within wsX8_within) := goodIn_app (goodIn_of _ (by decide +kernel)) ggX8_isOne_X8_within
theorem dX8_isOne_0 : decode cX8_isOne 0 = .ok (.iload_n 0, 1) := by decide +kernel
theorem dX8_isOne_1 : decode cX8_isOne 1 = .ok (.iconst 0, 1) := by decide +kernel
theorem dX8_isOne_2 : decode cX8_isOne 2 = .ok (.iconst 3, 1) := by decide +kernel
theorem dX8_isOne_3 : decode cX8_isOne 3 = .ok (.invokestatic 126, 3) := by decide +kernel
theorem dX8_isOne_6 : decode cX8_isOne 6 = .ok (.ireturn, 1) := by decide +kernel
set_option maxRecDepth 20000 in
theorem ggX8_counter_X8_isOne : GoodIn wsX8_counter wsX8_isOne := goodIn_r _ [12, 13, 14, 11, 15] (by decide +kernel) (by decide +kernel)
set_option maxRecDepth 20000 in
theorem gX8_counter_X8_isOne : GoodIn wsX8_counter (va_wsS RX8 130 yX8_isOne wsX8_isOne) := goodIn_app (goodIn_of _ (by decide +kernel)) ggX8_counter_X8_isOne
set_option maxRecDepth 20000 in
theorem ggX8_counter_X8_within : GoodIn wsX8_counter wsX8_within := goodIn_r _ [15] (by decide +kernel) (by decide +kernel)
set_option maxRecDepth 20000 in
theorem gX8_counter_X8_within : GoodIn wsX8_counter (va_wsS RX8 126 yX8_within wsX8_within) := goodIn_app (goodIn_of _ (by decide +kernel)) ggX8_counter_X8_within
theorem dX8_counter_0 : decode cX8_counter 0 = .ok (.iload_n 1, 1) := by decide +kernel
theorem dX8_counter_1 : decode cX8_counter 1 = .ok (.invokestatic 130, 3) := by decide +kernel
theorem dX8_counter_4 : decode cX8_counter 4 = .ok (.ifCond .ne 5, 3) := by decide +kernel
theorem dX8_counter_7 : decode cX8_counter 7 = .ok (.iconst (-1), 1) := by decide +kernel
theorem dX8_counter_8 : decode cX8_counter 8 = .ok (.ireturn, 1) := by decide +kernel
theorem dX8_counter_9 : decode cX8_counter 9 = .ok (.iload_n 2, 1) := by decide +kernel
theorem dX8_counter_10 : decode cX8_counter 10 = .ok (.iconst 0, 1) := by decide +kernel
theorem dX8_counter_11 : decode cX8_counter 11 = .ok (.iconst 2, 1) := by decide +kernel
theorem dX8_counter_12 : decode cX8_counter 12 = .ok (.invokestatic 126, 3) := by decide +kernel
theorem dX8_counter_15 : decode cX8_counter 15 = .ok (.ifCond .eq 25, 3) := by decide +kernel
theorem dX8_counter_18 : decode cX8_counter 18 = .ok (.iload_n 3, 1) := by decide +kernel
theorem dX8_counter_19 : decode cX8_counter 19 = .ok (.iconst 1, 1) := by decide +kernel
theorem dX8_counter_20 : decode cX8_counter 20 = .ok (.sipush 9999, 3) := by decide +kernel
theorem dX8_counter_23 : decode cX8_counter 23 = .ok (.invokestatic 126, 3) := by decide +kernel
theorem dX8_counter_26 : decode cX8_counter 26 = .ok (.ifCond .eq 14, 3) := by decide +kernel
theorem dX8_counter_29 : decode cX8_counter 29 = .ok (.iload 4, 2) := by decide +kernel
theorem dX8_counter_31 : decode cX8_counter 31 = .ok (.iconst 1, 1) := by decide +kernel
theorem dX8_counter_32 : decode cX8_counter 32 = .ok (.bipush 64, 2) := by decide +kernel
theorem dX8_counter_34 : decode cX8_counter 34 = .ok (.invokestatic 126, 3) := by decide +kernel
theorem dX8_counter_37 : decode cX8_counter 37 = .ok (.ifCond .ne 6, 3) := by decide +kernel
theorem dX8_counter_40 : decode cX8_counter 40 = .ok (.bipush (-2), 2) := by decide +kernel
theorem dX8_counter_42 : decode cX8_counter 42 = .ok (.ireturn, 1) := by decide +kernel
theorem dX8_counter_43 : decode cX8_counter 43 = .ok (.aload_n 0, 1) := by decide +kernel
theorem dX8_counter_44 : decode cX8_counter 44 = .ok (.getfield 7, 3) := by decide +kernel
theorem dX8_counter_47 : decode cX8_counter 47 = .ok (.iload_n 1, 1) := by decide +kernel
theorem dX8_counter_48 : decode cX8_counter 48 = .ok (.iload_n 2, 1) := by decide +kernel
theorem dX8_counter_49 : decode cX8_counter 49 = .ok (.iastore, 1) := by decide +kernel
theorem dX8_counter_50 : decode cX8_counter 50 = .ok (.aload_n 0, 1) := by decide +kernel
theorem dX8_counter_51 : decode cX8_counter 51 = .ok (.getfield 13, 3) := by decide +kernel
theorem dX8_counter_54 : decode cX8_counter 54 = .ok (.iload_n 1, 1) := by decide +kernel
theorem dX8_counter_55 : decode cX8_counter 55 = .ok (.iload_n 3, 1) := by decide +kernel
theorem dX8_counter_56 : decode cX8_counter 56 = .ok (.iastore, 1) := by decide +kernel
theorem dX8_counter_57 : decode cX8_counter 57 = .ok (.aload_n 0, 1) := by decide +kernel
theorem dX8_counter_58 : decode cX8_counter 58 = .ok (.getfield 16, 3) := by decide +kernel
theorem dX8_counter_61 : decode cX8_counter 61 = .ok (.iload_n 1, 1) := by decide +kernel
theorem dX8_counter_62 : decode cX8_counter 62 = .ok (.iload 4, 2) := by decide +kernel
theorem dX8_counter_64 : decode cX8_counter 64 = .ok (.iastore, 1) := by decide +kernel
theorem dX8_counter_65 : decode cX8_counter 65 = .ok (.aload_n 0, 1) := by decide +kernel
theorem dX8_counter_66 : decode cX8_counter 66 = .ok (.getfield 22, 3) := by decide +kernel
theorem dX8_counter_69 : decode cX8_counter 69 = .ok (.iload_n 1, 1) := by decide +kernel
theorem dX8_counter_70 : decode cX8_counter 70 = .ok (.iconst 0, 1) := by decide +kernel
theorem dX8_counter_71 : decode cX8_counter 71 = .ok (.iastore, 1) := by decide +kernel
theorem dX8_counter_72 : decode cX8_counter 72 = .ok (.aload_n 0, 1) := by decide +kernel
theorem dX8_counter_73 : decode cX8_counter 73 = .ok (.getfield 25, 3) := by decide +kernel
theorem dX8_counter_76 : decode cX8_counter 76 = .ok (.iload_n 1, 1) := by decide +kernel
theorem dX8_counter_77 : decode cX8_counter 77 = .ok (.iconst 0, 1) := by decide +kernel
theorem dX8_counter_78 : decode cX8_counter 78 = .ok (.iastore, 1) := by decide +kernel
theorem dX8_counter_79 : decode cX8_counter 79 = .ok (.aload_n 0, 1) := by decide +kernel
theorem dX8_counter_80 : decode cX8_counter 80 = .ok (.getfield 31, 3) := by decide +kernel
theorem dX8_counter_83 : decode cX8_counter 83 = .ok (.iload_n 1, 1) := by decide +kernel
theorem dX8_counter_84 : decode cX8_counter 84 = .ok (.iconst 0, 1) := by decide +kernel
theorem dX8_counter_85 : decode cX8_counter 85 = .ok (.iastore, 1) := by decide +kernel
theorem dX8_counter_86 : decode cX8_counter 86 = .ok (.aload_n 0, 1) := by decide +kernel
theorem dX8_counter_87 : decode cX8_counter 87 = .ok (.getfield 28, 3) := by decide +kernel
theorem dX8_counter_90 : decode cX8_counter 90 = .ok (.iload_n 1, 1) := by decide +kernel
theorem dX8_counter_91 : decode cX8_counter 91 = .ok (.iconst 1, 1) := by decide +kernel
theorem dX8_counter_92 : decode cX8_counter 92 = .ok (.iastore, 1) := by decide +kernel
theorem dX8_counter_93 : decode cX8_counter 93 = .ok (.aload_n 0, 1) := by decide +kernel
theorem dX8_counter_94 : decode cX8_counter 94 = .ok (.getfield 34, 3) := by decide +kernel
theorem dX8_counter_97 : decode cX8_counter 97 = .ok (.iload_n 1, 1) := by decide +kernel
theorem dX8_counter_98 : decode cX8_counter 98 = .ok (.bipush (-9), 2) := by decide +kernel
theorem dX8_counter_100 : decode cX8_counter 100 = .ok (.iastore, 1) := by decide +kernel
theorem dX8_counter_101 : decode cX8_counter 101 = .ok (.iconst 1, 1) := by decide +kernel
theorem dX8_counter_102 : decode cX8_counter 102 = .ok (.ireturn, 1) := by decide +kernel
set_option maxRecDepth 20000 in
theorem ggX8_source_X8_isOne : GoodIn wsX8_source wsX8_isOne := goodIn_r _ [5, 6, 7, 4, 8] (by decide +kernel) (by decide +kernel)
set_option maxRecDepth 20000 in
theorem gX8_source_X8_isOne : GoodIn wsX8_source (va_wsS RX8 130 yX8_isOne wsX8_isOne) := goodIn_app (goodIn_of _ (by decide +kernel)) ggX8_source_X8_isOne
set_option maxRecDepth 20000 in
theorem ggX8_source_X8_within : GoodIn wsX8_source wsX8_within := goodIn_r _ [8] (by decide +kernel) (by decide +kernel)
set_option maxRecDepth 20000 in
theorem gX8_source_X8_within : GoodIn wsX8_source (va_wsS RX8 126 yX8_within wsX8_within) := goodIn_app (goodIn_of _ (by decide +kernel)) ggX8_source_X8_within
theorem dX8_source_0 : decode cX8_source 0 = .ok (.iload_n 1, 1) := by decide +kernel
theorem dX8_source_1 : decode cX8_source 1 = .ok (.invokestatic 130, 3) := by decide +kernel
theorem dX8_source_4 : decode cX8_source 4 = .ok (.ifCond .ne 5, 3) := by decide +kernel
theorem dX8_source_7 : decode cX8_source 7 = .ok (.iconst (-1), 1) := by decide +kernel
theorem dX8_source_8 : decode cX8_source 8 = .ok (.ireturn, 1) := by decide +kernel
theorem dX8_source_9 : decode cX8_source 9 = .ok (.iload_n 2, 1) := by decide +kernel
theorem dX8_source_10 : decode cX8_source 10 = .ok (.iconst 0, 1) := by decide +kernel
theorem dX8_source_11 : decode cX8_source 11 = .ok (.iconst 3, 1) := by decide +kernel
theorem dX8_source_12 : decode cX8_source 12 = .ok (.invokestatic 126, 3) := by decide +kernel
theorem dX8_source_15 : decode cX8_source 15 = .ok (.ifCond .ne 6, 3) := by decide +kernel
theorem dX8_source_18 : decode cX8_source 18 = .ok (.bipush (-2), 2) := by decide +kernel
theorem dX8_source_20 : decode cX8_source 20 = .ok (.ireturn, 1) := by decide +kernel
theorem dX8_source_21 : decode cX8_source 21 = .ok (.iload_n 2, 1) := by decide +kernel
theorem dX8_source_22 : decode cX8_source 22 = .ok (.iconst 2, 1) := by decide +kernel
theorem dX8_source_23 : decode cX8_source 23 = .ok (.if_icmp .ne 10, 3) := by decide +kernel
theorem dX8_source_26 : decode cX8_source 26 = .ok (.iload_n 1, 1) := by decide +kernel
theorem dX8_source_27 : decode cX8_source 27 = .ok (.ifCond .ne 6, 3) := by decide +kernel
theorem dX8_source_30 : decode cX8_source 30 = .ok (.bipush (-3), 2) := by decide +kernel
theorem dX8_source_32 : decode cX8_source 32 = .ok (.ireturn, 1) := by decide +kernel
theorem dX8_source_33 : decode cX8_source 33 = .ok (.aload_n 0, 1) := by decide +kernel
theorem dX8_source_34 : decode cX8_source 34 = .ok (.getfield 19, 3) := by decide +kernel
theorem dX8_source_37 : decode cX8_source 37 = .ok (.iload_n 1, 1) := by decide +kernel
theorem dX8_source_38 : decode cX8_source 38 = .ok (.iaload, 1) := by decide +kernel
theorem dX8_source_39 : decode cX8_source 39 = .ok (.istore_n 3, 1) := by decide +kernel
theorem dX8_source_40 : decode cX8_source 40 = .ok (.aload_n 0, 1) := by decide +kernel
theorem dX8_source_41 : decode cX8_source 41 = .ok (.getfield 19, 3) := by decide +kernel
theorem dX8_source_44 : decode cX8_source 44 = .ok (.iload_n 1, 1) := by decide +kernel
theorem dX8_source_45 : decode cX8_source 45 = .ok (.iload_n 2, 1) := by decide +kernel
theorem dX8_source_46 : decode cX8_source 46 = .ok (.iastore, 1) := by decide +kernel
theorem dX8_source_47 : decode cX8_source 47 = .ok (.iload_n 3, 1) := by decide +kernel
theorem dX8_source_48 : decode cX8_source 48 = .ok (.ireturn, 1) := by decide +kernel
set_option maxRecDepth 20000 in
theorem ggX8_count_X8_isOne : GoodIn wsX8_count wsX8_isOne := goodIn_r _ [6, 7, 8, 5, 9] (by decide +kernel) (by decide +kernel)
set_option maxRecDepth 20000 in
theorem gX8_count_X8_isOne : GoodIn wsX8_count (va_wsS RX8 130 yX8_isOne wsX8_isOne) := goodIn_app (goodIn_of _ (by decide +kernel)) ggX8_count_X8_isOne
set_option maxRecDepth 20000 in
theorem ggX8_count_X8_within : GoodIn wsX8_count wsX8_within := goodIn_r _ [9] (by decide +kernel) (by decide +kernel)
set_option maxRecDepth 20000 in
theorem gX8_count_X8_within : GoodIn wsX8_count (va_wsS RX8 126 yX8_within wsX8_within) := goodIn_app (goodIn_of _ (by decide +kernel)) ggX8_count_X8_within
theorem dX8_count_0 : decode cX8_count 0 = .ok (.iload_n 1, 1) := by decide +kernel
theorem dX8_count_1 : decode cX8_count 1 = .ok (.invokestatic 130, 3) := by decide +kernel
theorem dX8_count_4 : decode cX8_count 4 = .ok (.ifCond .ne 5, 3) := by decide +kernel
theorem dX8_count_7 : decode cX8_count 7 = .ok (.iconst (-1), 1) := by decide +kernel
theorem dX8_count_8 : decode cX8_count 8 = .ok (.ireturn, 1) := by decide +kernel
theorem dX8_count_9 : decode cX8_count 9 = .ok (.iload_n 2, 1) := by decide +kernel
theorem dX8_count_10 : decode cX8_count 10 = .ok (.iconst 0, 1) := by decide +kernel
theorem dX8_count_11 : decode cX8_count 11 = .ok (.aload_n 0, 1) := by decide +kernel
theorem dX8_count_12 : decode cX8_count 12 = .ok (.getfield 13, 3) := by decide +kernel
theorem dX8_count_15 : decode cX8_count 15 = .ok (.iload_n 1, 1) := by decide +kernel
theorem dX8_count_16 : decode cX8_count 16 = .ok (.iaload, 1) := by decide +kernel
theorem dX8_count_17 : decode cX8_count 17 = .ok (.invokestatic 126, 3) := by decide +kernel
theorem dX8_count_20 : decode cX8_count 20 = .ok (.ifCond .ne 6, 3) := by decide +kernel
theorem dX8_count_23 : decode cX8_count 23 = .ok (.bipush (-2), 2) := by decide +kernel
theorem dX8_count_25 : decode cX8_count 25 = .ok (.ireturn, 1) := by decide +kernel
theorem dX8_count_26 : decode cX8_count 26 = .ok (.aload_n 0, 1) := by decide +kernel
theorem dX8_count_27 : decode cX8_count 27 = .ok (.getfield 22, 3) := by decide +kernel
theorem dX8_count_30 : decode cX8_count 30 = .ok (.iload_n 1, 1) := by decide +kernel
theorem dX8_count_31 : decode cX8_count 31 = .ok (.iaload, 1) := by decide +kernel
theorem dX8_count_32 : decode cX8_count 32 = .ok (.istore_n 3, 1) := by decide +kernel
theorem dX8_count_33 : decode cX8_count 33 = .ok (.aload_n 0, 1) := by decide +kernel
theorem dX8_count_34 : decode cX8_count 34 = .ok (.getfield 22, 3) := by decide +kernel
theorem dX8_count_37 : decode cX8_count 37 = .ok (.iload_n 1, 1) := by decide +kernel
theorem dX8_count_38 : decode cX8_count 38 = .ok (.iload_n 2, 1) := by decide +kernel
theorem dX8_count_39 : decode cX8_count 39 = .ok (.iastore, 1) := by decide +kernel
theorem dX8_count_40 : decode cX8_count 40 = .ok (.iload_n 3, 1) := by decide +kernel
theorem dX8_count_41 : decode cX8_count 41 = .ok (.ireturn, 1) := by decide +kernel
set_option maxRecDepth 20000 in
theorem ggX8_top_X8_isOne : GoodIn wsX8_top wsX8_isOne := goodIn_r _ [6, 7, 8, 5, 9] (by decide +kernel) (by decide +kernel)
set_option maxRecDepth 20000 in
theorem gX8_top_X8_isOne : GoodIn wsX8_top (va_wsS RX8 130 yX8_isOne wsX8_isOne) := goodIn_app (goodIn_of _ (by decide +kernel)) ggX8_top_X8_isOne
set_option maxRecDepth 20000 in
theorem ggX8_top_X8_within : GoodIn wsX8_top wsX8_within := goodIn_r _ [9] (by decide +kernel) (by decide +kernel)
set_option maxRecDepth 20000 in
theorem gX8_top_X8_within : GoodIn wsX8_top (va_wsS RX8 126 yX8_within wsX8_within) := goodIn_app (goodIn_of _ (by decide +kernel)) ggX8_top_X8_within
theorem dX8_top_0 : decode cX8_top 0 = .ok (.iload_n 1, 1) := by decide +kernel
theorem dX8_top_1 : decode cX8_top 1 = .ok (.invokestatic 130, 3) := by decide +kernel
theorem dX8_top_4 : decode cX8_top 4 = .ok (.ifCond .ne 5, 3) := by decide +kernel
theorem dX8_top_7 : decode cX8_top 7 = .ok (.iconst (-1), 1) := by decide +kernel
theorem dX8_top_8 : decode cX8_top 8 = .ok (.ireturn, 1) := by decide +kernel
theorem dX8_top_9 : decode cX8_top 9 = .ok (.iload_n 2, 1) := by decide +kernel
theorem dX8_top_10 : decode cX8_top 10 = .ok (.iconst 1, 1) := by decide +kernel
theorem dX8_top_11 : decode cX8_top 11 = .ok (.sipush 9999, 3) := by decide +kernel
theorem dX8_top_14 : decode cX8_top 14 = .ok (.invokestatic 126, 3) := by decide +kernel
theorem dX8_top_17 : decode cX8_top 17 = .ok (.ifCond .ne 6, 3) := by decide +kernel
theorem dX8_top_20 : decode cX8_top 20 = .ok (.bipush (-2), 2) := by decide +kernel
theorem dX8_top_22 : decode cX8_top 22 = .ok (.ireturn, 1) := by decide +kernel
theorem dX8_top_23 : decode cX8_top 23 = .ok (.aload_n 0, 1) := by decide +kernel
theorem dX8_top_24 : decode cX8_top 24 = .ok (.getfield 34, 3) := by decide +kernel
theorem dX8_top_27 : decode cX8_top 27 = .ok (.iload_n 1, 1) := by decide +kernel
theorem dX8_top_28 : decode cX8_top 28 = .ok (.iload_n 2, 1) := by decide +kernel
theorem dX8_top_29 : decode cX8_top 29 = .ok (.iastore, 1) := by decide +kernel
theorem dX8_top_30 : decode cX8_top 30 = .ok (.aload_n 0, 1) := by decide +kernel
theorem dX8_top_31 : decode cX8_top 31 = .ok (.getfield 13, 3) := by decide +kernel
theorem dX8_top_34 : decode cX8_top 34 = .ok (.iload_n 1, 1) := by decide +kernel
theorem dX8_top_35 : decode cX8_top 35 = .ok (.iaload, 1) := by decide +kernel
theorem dX8_top_36 : decode cX8_top 36 = .ok (.ireturn, 1) := by decide +kernel
set_option maxRecDepth 20000 in
theorem ggX8_ofCounter_X8_isOne : GoodIn wsX8_ofCounter wsX8_isOne := goodIn_r _ [13, 14, 15, 12, 16] (by decide +kernel) (by decide +kernel)
set_option maxRecDepth 20000 in
theorem gX8_ofCounter_X8_isOne : GoodIn wsX8_ofCounter (va_wsS RX8 130 yX8_isOne wsX8_isOne) := goodIn_app (goodIn_of _ (by decide +kernel)) ggX8_ofCounter_X8_isOne
theorem dX8_ofCounter_0 : decode cX8_ofCounter 0 = .ok (.iload_n 1, 1) := by decide +kernel
theorem dX8_ofCounter_1 : decode cX8_ofCounter 1 = .ok (.invokestatic 130, 3) := by decide +kernel
theorem dX8_ofCounter_4 : decode cX8_ofCounter 4 = .ok (.ifCond .ne 5, 3) := by decide +kernel
theorem dX8_ofCounter_7 : decode cX8_ofCounter 7 = .ok (.iconst (-1), 1) := by decide +kernel
theorem dX8_ofCounter_8 : decode cX8_ofCounter 8 = .ok (.ireturn, 1) := by decide +kernel
theorem dX8_ofCounter_9 : decode cX8_ofCounter 9 = .ok (.iload_n 2, 1) := by decide +kernel
theorem dX8_ofCounter_10 : decode cX8_ofCounter 10 = .ok (.tableswitch 113 0 8 #[50, 57, 64, 71, 78, 85, 92, 99, 106], 50) := by decide +kernel
theorem dX8_ofCounter_60 : decode cX8_ofCounter 60 = .ok (.aload_n 0, 1) := by decide +kernel
theorem dX8_ofCounter_61 : decode cX8_ofCounter 61 = .ok (.getfield 22, 3) := by decide +kernel
theorem dX8_ofCounter_64 : decode cX8_ofCounter 64 = .ok (.iload_n 1, 1) := by decide +kernel
theorem dX8_ofCounter_65 : decode cX8_ofCounter 65 = .ok (.iaload, 1) := by decide +kernel
theorem dX8_ofCounter_66 : decode cX8_ofCounter 66 = .ok (.ireturn, 1) := by decide +kernel
theorem dX8_ofCounter_67 : decode cX8_ofCounter 67 = .ok (.aload_n 0, 1) := by decide +kernel
theorem dX8_ofCounter_68 : decode cX8_ofCounter 68 = .ok (.getfield 13, 3) := by decide +kernel
theorem dX8_ofCounter_71 : decode cX8_ofCounter 71 = .ok (.iload_n 1, 1) := by decide +kernel
theorem dX8_ofCounter_72 : decode cX8_ofCounter 72 = .ok (.iaload, 1) := by decide +kernel
theorem dX8_ofCounter_73 : decode cX8_ofCounter 73 = .ok (.ireturn, 1) := by decide +kernel
theorem dX8_ofCounter_74 : decode cX8_ofCounter 74 = .ok (.aload_n 0, 1) := by decide +kernel
theorem dX8_ofCounter_75 : decode cX8_ofCounter 75 = .ok (.getfield 7, 3) := by decide +kernel
theorem dX8_ofCounter_78 : decode cX8_ofCounter 78 = .ok (.iload_n 1, 1) := by decide +kernel
theorem dX8_ofCounter_79 : decode cX8_ofCounter 79 = .ok (.iaload, 1) := by decide +kernel
theorem dX8_ofCounter_80 : decode cX8_ofCounter 80 = .ok (.ireturn, 1) := by decide +kernel
theorem dX8_ofCounter_81 : decode cX8_ofCounter 81 = .ok (.aload_n 0, 1) := by decide +kernel
theorem dX8_ofCounter_82 : decode cX8_ofCounter 82 = .ok (.getfield 16, 3) := by decide +kernel
theorem dX8_ofCounter_85 : decode cX8_ofCounter 85 = .ok (.iload_n 1, 1) := by decide +kernel
theorem dX8_ofCounter_86 : decode cX8_ofCounter 86 = .ok (.iaload, 1) := by decide +kernel
theorem dX8_ofCounter_87 : decode cX8_ofCounter 87 = .ok (.ireturn, 1) := by decide +kernel
theorem dX8_ofCounter_88 : decode cX8_ofCounter 88 = .ok (.aload_n 0, 1) := by decide +kernel
theorem dX8_ofCounter_89 : decode cX8_ofCounter 89 = .ok (.getfield 19, 3) := by decide +kernel
theorem dX8_ofCounter_92 : decode cX8_ofCounter 92 = .ok (.iload_n 1, 1) := by decide +kernel
theorem dX8_ofCounter_93 : decode cX8_ofCounter 93 = .ok (.iaload, 1) := by decide +kernel
theorem dX8_ofCounter_94 : decode cX8_ofCounter 94 = .ok (.ireturn, 1) := by decide +kernel
theorem dX8_ofCounter_95 : decode cX8_ofCounter 95 = .ok (.aload_n 0, 1) := by decide +kernel
theorem dX8_ofCounter_96 : decode cX8_ofCounter 96 = .ok (.getfield 25, 3) := by decide +kernel
theorem dX8_ofCounter_99 : decode cX8_ofCounter 99 = .ok (.iload_n 1, 1) := by decide +kernel
theorem dX8_ofCounter_100 : decode cX8_ofCounter 100 = .ok (.iaload, 1) := by decide +kernel
theorem dX8_ofCounter_101 : decode cX8_ofCounter 101 = .ok (.ireturn, 1) := by decide +kernel
theorem dX8_ofCounter_102 : decode cX8_ofCounter 102 = .ok (.aload_n 0, 1) := by decide +kernel
theorem dX8_ofCounter_103 : decode cX8_ofCounter 103 = .ok (.getfield 28, 3) := by decide +kernel
theorem dX8_ofCounter_106 : decode cX8_ofCounter 106 = .ok (.iload_n 1, 1) := by decide +kernel
theorem dX8_ofCounter_107 : decode cX8_ofCounter 107 = .ok (.iaload, 1) := by decide +kernel
theorem dX8_ofCounter_108 : decode cX8_ofCounter 108 = .ok (.ireturn, 1) := by decide +kernel
theorem dX8_ofCounter_109 : decode cX8_ofCounter 109 = .ok (.aload_n 0, 1) := by decide +kernel
theorem dX8_ofCounter_110 : decode cX8_ofCounter 110 = .ok (.getfield 31, 3) := by decide +kernel
theorem dX8_ofCounter_113 : decode cX8_ofCounter 113 = .ok (.iload_n 1, 1) := by decide +kernel
theorem dX8_ofCounter_114 : decode cX8_ofCounter 114 = .ok (.iaload, 1) := by decide +kernel
theorem dX8_ofCounter_115 : decode cX8_ofCounter 115 = .ok (.ireturn, 1) := by decide +kernel
theorem dX8_ofCounter_116 : decode cX8_ofCounter 116 = .ok (.aload_n 0, 1) := by decide +kernel
theorem dX8_ofCounter_117 : decode cX8_ofCounter 117 = .ok (.getfield 34, 3) := by decide +kernel
theorem dX8_ofCounter_120 : decode cX8_ofCounter 120 = .ok (.iload_n 1, 1) := by decide +kernel
theorem dX8_ofCounter_121 : decode cX8_ofCounter 121 = .ok (.iaload, 1) := by decide +kernel
theorem dX8_ofCounter_122 : decode cX8_ofCounter 122 = .ok (.ireturn, 1) := by decide +kernel
theorem dX8_ofCounter_123 : decode cX8_ofCounter 123 = .ok (.bipush (-2), 2) := by decide +kernel
theorem dX8_ofCounter_125 : decode cX8_ofCounter 125 = .ok (.ireturn, 1) := by decide +kernel
theorem dX8_hasPulse_0 : decode cX8_hasPulse 0 = .ok (.aload_n 0, 1) := by decide +kernel
theorem dX8_hasPulse_1 : decode cX8_hasPulse 1 = .ok (.getfield 19, 3) := by decide +kernel
theorem dX8_hasPulse_4 : decode cX8_hasPulse 4 = .ok (.iload_n 1, 1) := by decide +kernel
theorem dX8_hasPulse_5 : decode cX8_hasPulse 5 = .ok (.iaload, 1) := by decide +kernel
theorem dX8_hasPulse_6 : decode cX8_hasPulse 6 = .ok (.tableswitch 53 1 3 #[26, 28, 37], 26) := by decide +kernel
theorem dX8_hasPulse_32 : decode cX8_hasPulse 32 = .ok (.iconst 1, 1) := by decide +kernel
theorem dX8_hasPulse_33 : decode cX8_hasPulse 33 = .ok (.ireturn, 1) := by decide +kernel
theorem dX8_hasPulse_34 : decode cX8_hasPulse 34 = .ok (.aload_n 0, 1) := by decide +kernel
theorem dX8_hasPulse_35 : decode cX8_hasPulse 35 = .ok (.getfield 41, 3) := by decide +kernel
theorem dX8_hasPulse_38 : decode cX8_hasPulse 38 = .ok (.iload_n 1, 1) := by decide +kernel
theorem dX8_hasPulse_39 : decode cX8_hasPulse 39 = .ok (.iconst 1, 1) := by decide +kernel
theorem dX8_hasPulse_40 : decode cX8_hasPulse 40 = .ok (.isub, 1) := by decide +kernel
theorem dX8_hasPulse_41 : decode cX8_hasPulse 41 = .ok (.baload, 1) := by decide +kernel
theorem dX8_hasPulse_42 : decode cX8_hasPulse 42 = .ok (.ireturn, 1) := by decide +kernel
theorem dX8_hasPulse_43 : decode cX8_hasPulse 43 = .ok (.aload_n 0, 1) := by decide +kernel
theorem dX8_hasPulse_44 : decode cX8_hasPulse 44 = .ok (.getfield 56, 3) := by decide +kernel
theorem dX8_hasPulse_47 : decode cX8_hasPulse 47 = .ok (.iload_n 1, 1) := by decide +kernel
theorem dX8_hasPulse_48 : decode cX8_hasPulse 48 = .ok (.iaload, 1) := by decide +kernel
theorem dX8_hasPulse_49 : decode cX8_hasPulse 49 = .ok (.iconst 1, 1) := by decide +kernel
theorem dX8_hasPulse_50 : decode cX8_hasPulse 50 = .ok (.if_icmp .ne 7, 3) := by decide +kernel
theorem dX8_hasPulse_53 : decode cX8_hasPulse 53 = .ok (.iconst 1, 1) := by decide +kernel
theorem dX8_hasPulse_54 : decode cX8_hasPulse 54 = .ok (.goto 4, 3) := by decide +kernel
theorem dX8_hasPulse_57 : decode cX8_hasPulse 57 = .ok (.iconst 0, 1) := by decide +kernel
theorem dX8_hasPulse_58 : decode cX8_hasPulse 58 = .ok (.ireturn, 1) := by decide +kernel
theorem dX8_hasPulse_59 : decode cX8_hasPulse 59 = .ok (.iconst 0, 1) := by decide +kernel
theorem dX8_hasPulse_60 : decode cX8_hasPulse 60 = .ok (.ireturn, 1) := by decide +kernel
theorem dX8_goesOver_0 : decode cX8_goesOver 0 = .ok (.aload_n 0, 1) := by decide +kernel
theorem dX8_goesOver_1 : decode cX8_goesOver 1 = .ok (.getfield 41, 3) := by decide +kernel
theorem dX8_goesOver_4 : decode cX8_goesOver 4 = .ok (.iload_n 1, 1) := by decide +kernel
theorem dX8_goesOver_5 : decode cX8_goesOver 5 = .ok (.iconst 1, 1) := by decide +kernel
theorem dX8_goesOver_6 : decode cX8_goesOver 6 = .ok (.bastore, 1) := by decide +kernel
theorem dX8_goesOver_7 : decode cX8_goesOver 7 = .ok (.aload_n 0, 1) := by decide +kernel
theorem dX8_goesOver_8 : decode cX8_goesOver 8 = .ok (.getfield 31, 3) := by decide +kernel
theorem dX8_goesOver_11 : decode cX8_goesOver 11 = .ok (.iload_n 1, 1) := by decide +kernel
theorem dX8_goesOver_12 : decode cX8_goesOver 12 = .ok (.dup2, 1) := by decide +kernel
theorem dX8_goesOver_13 : decode cX8_goesOver 13 = .ok (.iaload, 1) := by decide +kernel
theorem dX8_goesOver_14 : decode cX8_goesOver 14 = .ok (.iconst 1, 1) := by decide +kernel
theorem dX8_goesOver_15 : decode cX8_goesOver 15 = .ok (.iadd, 1) := by decide +kernel
theorem dX8_goesOver_16 : decode cX8_goesOver 16 = .ok (.iastore, 1) := by decide +kernel
theorem dX8_goesOver_17 : decode cX8_goesOver 17 = .ok (.return_, 1) := by decide +kernel
theorem dX8_takesTop_0 : decode cX8_takesTop 0 = .ok (.aload_n 0, 1) := by decide +kernel
theorem dX8_takesTop_1 : decode cX8_takesTop 1 = .ok (.getfield 13, 3) := by decide +kernel
theorem dX8_takesTop_4 : decode cX8_takesTop 4 = .ok (.iload_n 1, 1) := by decide +kernel
theorem dX8_takesTop_5 : decode cX8_takesTop 5 = .ok (.aload_n 0, 1) := by decide +kernel
theorem dX8_takesTop_6 : decode cX8_takesTop 6 = .ok (.getfield 34, 3) := by decide +kernel
theorem dX8_takesTop_9 : decode cX8_takesTop 9 = .ok (.iload_n 1, 1) := by decide +kernel
theorem dX8_takesTop_10 : decode cX8_takesTop 10 = .ok (.iaload, 1) := by decide +kernel
theorem dX8_takesTop_11 : decode cX8_takesTop 11 = .ok (.bipush (-9), 2) := by decide +kernel
theorem dX8_takesTop_13 : decode cX8_takesTop 13 = .ok (.if_icmp .ne 12, 3) := by decide +kernel
theorem dX8_takesTop_16 : decode cX8_takesTop 16 = .ok (.aload_n 0, 1) := by decide +kernel
theorem dX8_takesTop_17 : decode cX8_takesTop 17 = .ok (.getfield 13, 3) := by decide +kernel
theorem dX8_takesTop_20 : decode cX8_takesTop 20 = .ok (.iload_n 1, 1) := by decide +kernel
theorem dX8_takesTop_21 : decode cX8_takesTop 21 = .ok (.iaload, 1) := by decide +kernel
theorem dX8_takesTop_22 : decode cX8_takesTop 22 = .ok (.goto 9, 3) := by decide +kernel
theorem dX8_takesTop_25 : decode cX8_takesTop 25 = .ok (.aload_n 0, 1) := by decide +kernel
theorem dX8_takesTop_26 : decode cX8_takesTop 26 = .ok (.getfield 34, 3) := by decide +kernel
theorem dX8_takesTop_29 : decode cX8_takesTop 29 = .ok (.iload_n 1, 1) := by decide +kernel
theorem dX8_takesTop_30 : decode cX8_takesTop 30 = .ok (.iaload, 1) := by decide +kernel
theorem dX8_takesTop_31 : decode cX8_takesTop 31 = .ok (.iastore, 1) := by decide +kernel
theorem dX8_takesTop_32 : decode cX8_takesTop 32 = .ok (.aload_n 0, 1) := by decide +kernel
theorem dX8_takesTop_33 : decode cX8_takesTop 33 = .ok (.getfield 34, 3) := by decide +kernel
theorem dX8_takesTop_36 : decode cX8_takesTop 36 = .ok (.iload_n 1, 1) := by decide +kernel
theorem dX8_takesTop_37 : decode cX8_takesTop 37 = .ok (.bipush (-9), 2) := by decide +kernel
theorem dX8_takesTop_39 : decode cX8_takesTop 39 = .ok (.iastore, 1) := by decide +kernel
theorem dX8_takesTop_40 : decode cX8_takesTop 40 = .ok (.return_, 1) := by decide +kernel
set_option maxRecDepth 20000 in
theorem ggX8_stepsUp_X8_goesOver : GoodIn wsX8_stepsUp wsX8_goesOver := goodIn_r _ [7, 8, 9, 15, 16, 17, 18, 19, 20, 21, 22, 23, 24, 25, 26, 27, 28, 29, 30, 31, 32, 33, 34, 35, 36, 37, 38, 39, 40, 41, 42, 43, 44, 45, 46, 47, 48, 49, 50, 51, 52, 53, 54, 55, 56, 57, 58, 59] (by decide +kernel) (by decide +kernel)
set_option maxRecDepth 20000 in
theorem gX8_stepsUp_X8_goesOver : GoodIn wsX8_stepsUp (wsV RX8 134 RX8 yX8_goesOver wsX8_goesOver) := goodIn_app (goodIn_of _ (by decide +kernel)) ggX8_stepsUp_X8_goesOver
set_option maxRecDepth 20000 in
theorem ggX8_stepsUp_X8_takesTop : GoodIn wsX8_stepsUp wsX8_takesTop := goodIn_r _ [13, 2, 14, 15, 16, 17, 18, 19, 20, 21, 22, 23, 24, 25, 26, 27, 28, 29, 30, 31, 32, 33, 34, 35, 36, 37, 38, 39, 40, 41, 42, 43, 44, 45, 46, 47, 48, 49, 50, 51, 52, 53, 54, 55, 56, 57, 58, 59] (by decide +kernel) (by decide +kernel)
set_option maxRecDepth 20000 in
theorem gX8_stepsUp_X8_takesTop : GoodIn wsX8_stepsUp (wsV RX8 138 RX8 yX8_takesTop wsX8_takesTop) := goodIn_app (goodIn_of _ (by decide +kernel)) ggX8_stepsUp_X8_takesTop
theorem dX8_stepsUp_0 : decode cX8_stepsUp 0 = .ok (.aload_n 0, 1) := by decide +kernel
theorem dX8_stepsUp_1 : decode cX8_stepsUp 1 = .ok (.getfield 22, 3) := by decide +kernel
theorem dX8_stepsUp_4 : decode cX8_stepsUp 4 = .ok (.iload_n 1, 1) := by decide +kernel
theorem dX8_stepsUp_5 : decode cX8_stepsUp 5 = .ok (.iaload, 1) := by decide +kernel
theorem dX8_stepsUp_6 : decode cX8_stepsUp 6 = .ok (.aload_n 0, 1) := by decide +kernel
theorem dX8_stepsUp_7 : decode cX8_stepsUp 7 = .ok (.getfield 13, 3) := by decide +kernel
theorem dX8_stepsUp_10 : decode cX8_stepsUp 10 = .ok (.iload_n 1, 1) := by decide +kernel
theorem dX8_stepsUp_11 : decode cX8_stepsUp 11 = .ok (.iaload, 1) := by decide +kernel
theorem dX8_stepsUp_12 : decode cX8_stepsUp 12 = .ok (.if_icmp .ne 23, 3) := by decide +kernel
theorem dX8_stepsUp_15 : decode cX8_stepsUp 15 = .ok (.aload_n 0, 1) := by decide +kernel
theorem dX8_stepsUp_16 : decode cX8_stepsUp 16 = .ok (.iload_n 1, 1) := by decide +kernel
theorem dX8_stepsUp_17 : decode cX8_stepsUp 17 = .ok (.invokevirtual 134, 3) := by decide +kernel
theorem dX8_stepsUp_20 : decode cX8_stepsUp 20 = .ok (.aload_n 0, 1) := by decide +kernel
theorem dX8_stepsUp_21 : decode cX8_stepsUp 21 = .ok (.iload_n 1, 1) := by decide +kernel
theorem dX8_stepsUp_22 : decode cX8_stepsUp 22 = .ok (.invokevirtual 138, 3) := by decide +kernel
theorem dX8_stepsUp_25 : decode cX8_stepsUp 25 = .ok (.aload_n 0, 1) := by decide +kernel
theorem dX8_stepsUp_26 : decode cX8_stepsUp 26 = .ok (.getfield 22, 3) := by decide +kernel
theorem dX8_stepsUp_29 : decode cX8_stepsUp 29 = .ok (.iload_n 1, 1) := by decide +kernel
theorem dX8_stepsUp_30 : decode cX8_stepsUp 30 = .ok (.iconst 0, 1) := by decide +kernel
theorem dX8_stepsUp_31 : decode cX8_stepsUp 31 = .ok (.iastore, 1) := by decide +kernel
theorem dX8_stepsUp_32 : decode cX8_stepsUp 32 = .ok (.goto 13, 3) := by decide +kernel
theorem dX8_stepsUp_35 : decode cX8_stepsUp 35 = .ok (.aload_n 0, 1) := by decide +kernel
theorem dX8_stepsUp_36 : decode cX8_stepsUp 36 = .ok (.getfield 22, 3) := by decide +kernel
theorem dX8_stepsUp_39 : decode cX8_stepsUp 39 = .ok (.iload_n 1, 1) := by decide +kernel
theorem dX8_stepsUp_40 : decode cX8_stepsUp 40 = .ok (.dup2, 1) := by decide +kernel
theorem dX8_stepsUp_41 : decode cX8_stepsUp 41 = .ok (.iaload, 1) := by decide +kernel
theorem dX8_stepsUp_42 : decode cX8_stepsUp 42 = .ok (.iconst 1, 1) := by decide +kernel
theorem dX8_stepsUp_43 : decode cX8_stepsUp 43 = .ok (.iadd, 1) := by decide +kernel
theorem dX8_stepsUp_44 : decode cX8_stepsUp 44 = .ok (.iastore, 1) := by decide +kernel
theorem dX8_stepsUp_45 : decode cX8_stepsUp 45 = .ok (.return_, 1) := by decide +kernel
set_option maxRecDepth 20000 in
theorem ggX8_stepsDown_X8_goesOver : GoodIn wsX8_stepsDown wsX8_goesOver := goodIn_r _ [7, 8, 9, 15, 16, 17, 18, 19, 20, 21, 22, 23, 24, 25, 26, 27, 28, 29, 30, 31, 32, 33, 34, 35, 36, 37, 38, 39, 40, 41, 42, 43, 44, 45, 46, 47, 48, 49, 50, 51, 52, 53, 54, 55, 56, 57, 58, 59] (by decide +kernel) (by decide +kernel)
set_option maxRecDepth 20000 in
theorem gX8_stepsDown_X8_goesOver : GoodIn wsX8_stepsDown (wsV RX8 134 RX8 yX8_goesOver wsX8_goesOver) := goodIn_app (goodIn_of _ (by decide +kernel)) ggX8_stepsDown_X8_goesOver
set_option maxRecDepth 20000 in
theorem ggX8_stepsDown_X8_takesTop : GoodIn wsX8_stepsDown wsX8_takesTop := goodIn_r _ [13, 2, 14, 15, 16, 17, 18, 19, 20, 21, 22, 23, 24, 25, 26, 27, 28, 29, 30, 31, 32, 33, 34, 35, 36, 37, 38, 39, 40, 41, 42, 43, 44, 45, 46, 47, 48, 49, 50, 51, 52, 53, 54, 55, 56, 57, 58, 59] (by decide +kernel) (by decide +kernel)
set_option maxRecDepth 20000 in
theorem gX8_stepsDown_X8_takesTop : GoodIn wsX8_stepsDown (wsV RX8 138 RX8 yX8_takesTop wsX8_takesTop) := goodIn_app (goodIn_of _ (by decide +kernel)) ggX8_stepsDown_X8_takesTop
theorem dX8_stepsDown_0 : decode cX8_stepsDown 0 = .ok (.aload_n 0, 1) := by decide +kernel
theorem dX8_stepsDown_1 : decode cX8_stepsDown 1 = .ok (.getfield 22, 3) := by decide +kernel
theorem dX8_stepsDown_4 : decode cX8_stepsDown 4 = .ok (.iload_n 1, 1) := by decide +kernel
theorem dX8_stepsDown_5 : decode cX8_stepsDown 5 = .ok (.iaload, 1) := by decide +kernel
theorem dX8_stepsDown_6 : decode cX8_stepsDown 6 = .ok (.ifCond .ne 28, 3) := by decide +kernel
theorem dX8_stepsDown_9 : decode cX8_stepsDown 9 = .ok (.aload_n 0, 1) := by decide +kernel
theorem dX8_stepsDown_10 : decode cX8_stepsDown 10 = .ok (.iload_n 1, 1) := by decide +kernel
theorem dX8_stepsDown_11 : decode cX8_stepsDown 11 = .ok (.invokevirtual 134, 3) := by decide +kernel
theorem dX8_stepsDown_14 : decode cX8_stepsDown 14 = .ok (.aload_n 0, 1) := by decide +kernel
theorem dX8_stepsDown_15 : decode cX8_stepsDown 15 = .ok (.iload_n 1, 1) := by decide +kernel
theorem dX8_stepsDown_16 : decode cX8_stepsDown 16 = .ok (.invokevirtual 138, 3) := by decide +kernel
theorem dX8_stepsDown_19 : decode cX8_stepsDown 19 = .ok (.aload_n 0, 1) := by decide +kernel
theorem dX8_stepsDown_20 : decode cX8_stepsDown 20 = .ok (.getfield 22, 3) := by decide +kernel
theorem dX8_stepsDown_23 : decode cX8_stepsDown 23 = .ok (.iload_n 1, 1) := by decide +kernel
theorem dX8_stepsDown_24 : decode cX8_stepsDown 24 = .ok (.aload_n 0, 1) := by decide +kernel
theorem dX8_stepsDown_25 : decode cX8_stepsDown 25 = .ok (.getfield 13, 3) := by decide +kernel
theorem dX8_stepsDown_28 : decode cX8_stepsDown 28 = .ok (.iload_n 1, 1) := by decide +kernel
theorem dX8_stepsDown_29 : decode cX8_stepsDown 29 = .ok (.iaload, 1) := by decide +kernel
theorem dX8_stepsDown_30 : decode cX8_stepsDown 30 = .ok (.iastore, 1) := by decide +kernel
theorem dX8_stepsDown_31 : decode cX8_stepsDown 31 = .ok (.goto 13, 3) := by decide +kernel
theorem dX8_stepsDown_34 : decode cX8_stepsDown 34 = .ok (.aload_n 0, 1) := by decide +kernel
theorem dX8_stepsDown_35 : decode cX8_stepsDown 35 = .ok (.getfield 22, 3) := by decide +kernel
theorem dX8_stepsDown_38 : decode cX8_stepsDown 38 = .ok (.iload_n 1, 1) := by decide +kernel
theorem dX8_stepsDown_39 : decode cX8_stepsDown 39 = .ok (.dup2, 1) := by decide +kernel
theorem dX8_stepsDown_40 : decode cX8_stepsDown 40 = .ok (.iaload, 1) := by decide +kernel
theorem dX8_stepsDown_41 : decode cX8_stepsDown 41 = .ok (.iconst 1, 1) := by decide +kernel
theorem dX8_stepsDown_42 : decode cX8_stepsDown 42 = .ok (.isub, 1) := by decide +kernel
theorem dX8_stepsDown_43 : decode cX8_stepsDown 43 = .ok (.iastore, 1) := by decide +kernel
theorem dX8_stepsDown_44 : decode cX8_stepsDown 44 = .ok (.return_, 1) := by decide +kernel
set_option maxRecDepth 20000 in
theorem ggX8_stepsBoth_X8_goesOver : GoodIn wsX8_stepsBoth wsX8_goesOver := goodIn_r _ [8, 9, 10, 16, 17, 18, 19, 20, 21, 22, 23, 24, 25, 26, 27, 28, 29, 30, 31, 32, 33, 34, 35, 36, 37, 38, 39, 40, 41, 42, 43, 44, 45, 46, 47, 48, 49, 50, 51, 52, 53, 54, 55, 56, 57, 58, 59, 60] (by decide +kernel) (by decide +kernel)
set_option maxRecDepth 20000 in
theorem gX8_stepsBoth_X8_goesOver : GoodIn wsX8_stepsBoth (wsV RX8 134 RX8 yX8_goesOver wsX8_goesOver) := goodIn_app (goodIn_of _ (by decide +kernel)) ggX8_stepsBoth_X8_goesOver
set_option maxRecDepth 20000 in
theorem ggX8_stepsBoth_X8_takesTop : GoodIn wsX8_stepsBoth wsX8_takesTop := goodIn_r _ [14, 3, 15, 16, 17, 18, 19, 20, 21, 22, 23, 24, 25, 26, 27, 28, 29, 30, 31, 32, 33, 34, 35, 36, 37, 38, 39, 40, 41, 42, 43, 44, 45, 46, 47, 48, 49, 50, 51, 52, 53, 54, 55, 56, 57, 58, 59, 60] (by decide +kernel) (by decide +kernel)
set_option maxRecDepth 20000 in
theorem gX8_stepsBoth_X8_takesTop : GoodIn wsX8_stepsBoth (wsV RX8 138 RX8 yX8_takesTop wsX8_takesTop) := goodIn_app (goodIn_of _ (by decide +kernel)) ggX8_stepsBoth_X8_takesTop
theorem dX8_stepsBoth_0 : decode cX8_stepsBoth 0 = .ok (.aload_n 0, 1) := by decide +kernel
theorem dX8_stepsBoth_1 : decode cX8_stepsBoth 1 = .ok (.getfield 28, 3) := by decide +kernel
theorem dX8_stepsBoth_4 : decode cX8_stepsBoth 4 = .ok (.iload_n 1, 1) := by decide +kernel
theorem dX8_stepsBoth_5 : decode cX8_stepsBoth 5 = .ok (.iaload, 1) := by decide +kernel
theorem dX8_stepsBoth_6 : decode cX8_stepsBoth 6 = .ok (.iconst 1, 1) := by decide +kernel
theorem dX8_stepsBoth_7 : decode cX8_stepsBoth 7 = .ok (.if_icmp .ne 33, 3) := by decide +kernel
theorem dX8_stepsBoth_10 : decode cX8_stepsBoth 10 = .ok (.aload_n 0, 1) := by decide +kernel
theorem dX8_stepsBoth_11 : decode cX8_stepsBoth 11 = .ok (.getfield 22, 3) := by decide +kernel
theorem dX8_stepsBoth_14 : decode cX8_stepsBoth 14 = .ok (.iload_n 1, 1) := by decide +kernel
theorem dX8_stepsBoth_15 : decode cX8_stepsBoth 15 = .ok (.iaload, 1) := by decide +kernel
theorem dX8_stepsBoth_16 : decode cX8_stepsBoth 16 = .ok (.aload_n 0, 1) := by decide +kernel
theorem dX8_stepsBoth_17 : decode cX8_stepsBoth 17 = .ok (.getfield 13, 3) := by decide +kernel
theorem dX8_stepsBoth_20 : decode cX8_stepsBoth 20 = .ok (.iload_n 1, 1) := by decide +kernel
theorem dX8_stepsBoth_21 : decode cX8_stepsBoth 21 = .ok (.iaload, 1) := by decide +kernel
theorem dX8_stepsBoth_22 : decode cX8_stepsBoth 22 = .ok (.if_icmp .ne 18, 3) := by decide +kernel
theorem dX8_stepsBoth_25 : decode cX8_stepsBoth 25 = .ok (.aload_n 0, 1) := by decide +kernel
theorem dX8_stepsBoth_26 : decode cX8_stepsBoth 26 = .ok (.iload_n 1, 1) := by decide +kernel
theorem dX8_stepsBoth_27 : decode cX8_stepsBoth 27 = .ok (.invokevirtual 134, 3) := by decide +kernel
theorem dX8_stepsBoth_30 : decode cX8_stepsBoth 30 = .ok (.aload_n 0, 1) := by decide +kernel
theorem dX8_stepsBoth_31 : decode cX8_stepsBoth 31 = .ok (.getfield 28, 3) := by decide +kernel
theorem dX8_stepsBoth_34 : decode cX8_stepsBoth 34 = .ok (.iload_n 1, 1) := by decide +kernel
theorem dX8_stepsBoth_35 : decode cX8_stepsBoth 35 = .ok (.iconst 0, 1) := by decide +kernel
theorem dX8_stepsBoth_36 : decode cX8_stepsBoth 36 = .ok (.iastore, 1) := by decide +kernel
theorem dX8_stepsBoth_37 : decode cX8_stepsBoth 37 = .ok (.goto 38, 3) := by decide +kernel
theorem dX8_stepsBoth_40 : decode cX8_stepsBoth 40 = .ok (.aload_n 0, 1) := by decide +kernel
theorem dX8_stepsBoth_41 : decode cX8_stepsBoth 41 = .ok (.getfield 28, 3) := by decide +kernel
theorem dX8_stepsBoth_44 : decode cX8_stepsBoth 44 = .ok (.iload_n 1, 1) := by decide +kernel
theorem dX8_stepsBoth_45 : decode cX8_stepsBoth 45 = .ok (.iaload, 1) := by decide +kernel
theorem dX8_stepsBoth_46 : decode cX8_stepsBoth 46 = .ok (.ifCond .ne 29, 3) := by decide +kernel
theorem dX8_stepsBoth_49 : decode cX8_stepsBoth 49 = .ok (.aload_n 0, 1) := by decide +kernel
theorem dX8_stepsBoth_50 : decode cX8_stepsBoth 50 = .ok (.getfield 22, 3) := by decide +kernel
theorem dX8_stepsBoth_53 : decode cX8_stepsBoth 53 = .ok (.iload_n 1, 1) := by decide +kernel
theorem dX8_stepsBoth_54 : decode cX8_stepsBoth 54 = .ok (.iaload, 1) := by decide +kernel
theorem dX8_stepsBoth_55 : decode cX8_stepsBoth 55 = .ok (.ifCond .ne 20, 3) := by decide +kernel
theorem dX8_stepsBoth_58 : decode cX8_stepsBoth 58 = .ok (.aload_n 0, 1) := by decide +kernel
theorem dX8_stepsBoth_59 : decode cX8_stepsBoth 59 = .ok (.iload_n 1, 1) := by decide +kernel
theorem dX8_stepsBoth_60 : decode cX8_stepsBoth 60 = .ok (.invokevirtual 134, 3) := by decide +kernel
theorem dX8_stepsBoth_63 : decode cX8_stepsBoth 63 = .ok (.aload_n 0, 1) := by decide +kernel
theorem dX8_stepsBoth_64 : decode cX8_stepsBoth 64 = .ok (.getfield 28, 3) := by decide +kernel
theorem dX8_stepsBoth_67 : decode cX8_stepsBoth 67 = .ok (.iload_n 1, 1) := by decide +kernel
theorem dX8_stepsBoth_68 : decode cX8_stepsBoth 68 = .ok (.iconst 1, 1) := by decide +kernel
theorem dX8_stepsBoth_69 : decode cX8_stepsBoth 69 = .ok (.iastore, 1) := by decide +kernel
theorem dX8_stepsBoth_70 : decode cX8_stepsBoth 70 = .ok (.aload_n 0, 1) := by decide +kernel
theorem dX8_stepsBoth_71 : decode cX8_stepsBoth 71 = .ok (.iload_n 1, 1) := by decide +kernel
theorem dX8_stepsBoth_72 : decode cX8_stepsBoth 72 = .ok (.invokevirtual 138, 3) := by decide +kernel
theorem dX8_stepsBoth_75 : decode cX8_stepsBoth 75 = .ok (.aload_n 0, 1) := by decide +kernel
theorem dX8_stepsBoth_76 : decode cX8_stepsBoth 76 = .ok (.getfield 22, 3) := by decide +kernel
theorem dX8_stepsBoth_79 : decode cX8_stepsBoth 79 = .ok (.iload_n 1, 1) := by decide +kernel
theorem dX8_stepsBoth_80 : decode cX8_stepsBoth 80 = .ok (.dup2, 1) := by decide +kernel
theorem dX8_stepsBoth_81 : decode cX8_stepsBoth 81 = .ok (.iaload, 1) := by decide +kernel
theorem dX8_stepsBoth_82 : decode cX8_stepsBoth 82 = .ok (.aload_n 0, 1) := by decide +kernel
theorem dX8_stepsBoth_83 : decode cX8_stepsBoth 83 = .ok (.getfield 28, 3) := by decide +kernel
theorem dX8_stepsBoth_86 : decode cX8_stepsBoth 86 = .ok (.iload_n 1, 1) := by decide +kernel
theorem dX8_stepsBoth_87 : decode cX8_stepsBoth 87 = .ok (.iaload, 1) := by decide +kernel
theorem dX8_stepsBoth_88 : decode cX8_stepsBoth 88 = .ok (.iconst 1, 1) := by decide +kernel
theorem dX8_stepsBoth_89 : decode cX8_stepsBoth 89 = .ok (.if_icmp .ne 7, 3) := by decide +kernel
theorem dX8_stepsBoth_92 : decode cX8_stepsBoth 92 = .ok (.iconst 1, 1) := by decide +kernel
theorem dX8_stepsBoth_93 : decode cX8_stepsBoth 93 = .ok (.goto 4, 3) := by decide +kernel
theorem dX8_stepsBoth_96 : decode cX8_stepsBoth 96 = .ok (.iconst (-1), 1) := by decide +kernel
theorem dX8_stepsBoth_97 : decode cX8_stepsBoth 97 = .ok (.iadd, 1) := by decide +kernel
theorem dX8_stepsBoth_98 : decode cX8_stepsBoth 98 = .ok (.iastore, 1) := by decide +kernel
theorem dX8_stepsBoth_99 : decode cX8_stepsBoth 99 = .ok (.return_, 1) := by decide +kernel
set_option maxRecDepth 20000 in
theorem ggX8_steps_X8_stepsUp : GoodIn wsX8_steps wsX8_stepsUp := goodIn_r _ [7, 8, 9, 10, 11, 12, 6, 13, 14, 15, 16, 17, 18, 19, 20, 30, 31, 32, 33, 34, 35, 36, 37, 38, 39, 40, 41, 42, 43, 44, 45, 46, 47, 48, 49, 50, 51, 52, 53, 54, 55, 56, 57, 58, 59, 60, 61, 62, 63, 64, 65, 66, 67, 68, 69, 70, 71, 72, 73, 74] (by decide +kernel) (by decide +kernel)
set_option maxRecDepth 20000 in
theorem gX8_steps_X8_stepsUp : GoodIn wsX8_steps (wsV RX8 141 RX8 yX8_stepsUp wsX8_stepsUp) := goodIn_app (goodIn_of _ (by decide +kernel)) ggX8_steps_X8_stepsUp
set_option maxRecDepth 20000 in
theorem ggX8_steps_X8_stepsDown : GoodIn wsX8_steps wsX8_stepsDown := goodIn_r _ [24, 8, 9, 10, 11, 12, 6, 13, 14, 15, 16, 17, 18, 19, 20, 30, 31, 32, 33, 34, 35, 36, 37, 38, 39, 40, 41, 42, 43, 44, 45, 46, 47, 48, 49, 50, 51, 52, 53, 54, 55, 56, 57, 58, 59, 60, 61, 62, 63, 64, 65, 66, 67, 68, 69, 70, 71, 72, 73, 74] (by decide +kernel) (by decide +kernel)
set_option maxRecDepth 20000 in
theorem gX8_steps_X8_stepsDown : GoodIn wsX8_steps (wsV RX8 144 RX8 yX8_stepsDown wsX8_stepsDown) := goodIn_app (goodIn_of _ (by decide +kernel)) ggX8_steps_X8_stepsDown
set_option maxRecDepth 20000 in
theorem ggX8_steps_X8_stepsBoth : GoodIn wsX8_steps wsX8_stepsBoth := goodIn_r _ [28, 29, 8, 9, 10, 11, 12, 6, 13, 14, 15, 16, 17, 18, 19, 20, 30, 31, 32, 33, 34, 35, 36, 37, 38, 39, 40, 41, 42, 43, 44, 45, 46, 47, 48, 49, 50, 51, 52, 53, 54, 55, 56, 57, 58, 59, 60, 61, 62, 63, 64, 65, 66, 67, 68, 69, 70, 71, 72, 73, 74] (by decide +kernel) (by decide +kernel)
set_option maxRecDepth 20000 in
theorem gX8_steps_X8_stepsBoth : GoodIn wsX8_steps (wsV RX8 147 RX8 yX8_stepsBoth wsX8_stepsBoth) := goodIn_app (goodIn_of _ (by decide +kernel)) ggX8_steps_X8_stepsBoth
theorem dX8_steps_0 : decode cX8_steps 0 = .ok (.aload_n 0, 1) := by decide +kernel
theorem dX8_steps_1 : decode cX8_steps 1 = .ok (.getfield 37, 3) := by decide +kernel
theorem dX8_steps_4 : decode cX8_steps 4 = .ok (.iload_n 1, 1) := by decide +kernel
theorem dX8_steps_5 : decode cX8_steps 5 = .ok (.iconst 1, 1) := by decide +kernel
theorem dX8_steps_6 : decode cX8_steps 6 = .ok (.bastore, 1) := by decide +kernel
theorem dX8_steps_7 : decode cX8_steps 7 = .ok (.aload_n 0, 1) := by decide +kernel
theorem dX8_steps_8 : decode cX8_steps 8 = .ok (.getfield 7, 3) := by decide +kernel
theorem dX8_steps_11 : decode cX8_steps 11 = .ok (.iload_n 1, 1) := by decide +kernel
theorem dX8_steps_12 : decode cX8_steps 12 = .ok (.iaload, 1) := by decide +kernel
theorem dX8_steps_13 : decode cX8_steps 13 = .ok (.ifCond .ne 11, 3) := by decide +kernel
theorem dX8_steps_16 : decode cX8_steps 16 = .ok (.aload_n 0, 1) := by decide +kernel
theorem dX8_steps_17 : decode cX8_steps 17 = .ok (.iload_n 1, 1) := by decide +kernel
theorem dX8_steps_18 : decode cX8_steps 18 = .ok (.invokevirtual 141, 3) := by decide +kernel
theorem dX8_steps_21 : decode cX8_steps 21 = .ok (.goto 26, 3) := by decide +kernel
theorem dX8_steps_24 : decode cX8_steps 24 = .ok (.aload_n 0, 1) := by decide +kernel
theorem dX8_steps_25 : decode cX8_steps 25 = .ok (.getfield 7, 3) := by decide +kernel
theorem dX8_steps_28 : decode cX8_steps 28 = .ok (.iload_n 1, 1) := by decide +kernel
theorem dX8_steps_29 : decode cX8_steps 29 = .ok (.iaload, 1) := by decide +kernel
theorem dX8_steps_30 : decode cX8_steps 30 = .ok (.iconst 1, 1) := by decide +kernel
theorem dX8_steps_31 : decode cX8_steps 31 = .ok (.if_icmp .ne 11, 3) := by decide +kernel
theorem dX8_steps_34 : decode cX8_steps 34 = .ok (.aload_n 0, 1) := by decide +kernel
theorem dX8_steps_35 : decode cX8_steps 35 = .ok (.iload_n 1, 1) := by decide +kernel
theorem dX8_steps_36 : decode cX8_steps 36 = .ok (.invokevirtual 144, 3) := by decide +kernel
theorem dX8_steps_39 : decode cX8_steps 39 = .ok (.goto 8, 3) := by decide +kernel
theorem dX8_steps_42 : decode cX8_steps 42 = .ok (.aload_n 0, 1) := by decide +kernel
theorem dX8_steps_43 : decode cX8_steps 43 = .ok (.iload_n 1, 1) := by decide +kernel
theorem dX8_steps_44 : decode cX8_steps 44 = .ok (.invokevirtual 147, 3) := by decide +kernel
theorem dX8_steps_47 : decode cX8_steps 47 = .ok (.return_, 1) := by decide +kernel
set_option maxRecDepth 20000 in
theorem ggX8_counters_X8_hasPulse : GoodIn wsX8_counters wsX8_hasPulse := goodIn_r _ [9, 10, 2, 11, 42, 43, 44, 45, 46, 47, 48, 49, 50, 51, 52, 53, 54, 55, 56, 57, 58, 59, 60, 61, 62, 63, 64, 65, 66, 67, 68, 69, 70, 71, 72, 73, 74, 75, 76, 77, 78, 79, 80, 81, 82, 83, 84, 85, 86] (by decide +kernel) (by decide +kernel)
set_option maxRecDepth 20000 in
theorem gX8_counters_X8_hasPulse : GoodIn wsX8_counters (wsV RX8 150 RX8 yX8_hasPulse wsX8_hasPulse) := goodIn_app (goodIn_of _ (by decide +kernel)) ggX8_counters_X8_hasPulse
set_option maxRecDepth 20000 in
theorem ggX8_counters_X8_steps : GoodIn wsX8_counters wsX8_steps := goodIn_r _ [15, 1, 16, 17, 18, 19, 8, 20, 21, 22, 23, 24, 25, 26, 2, 27, 28, 29, 30, 31, 32, 33, 34, 35, 36, 37, 38, 39, 40, 41, 42, 43, 44, 45, 46, 47, 48, 49, 50, 51, 52, 53, 54, 55, 56, 57, 58, 59, 60, 61, 62, 63, 64, 65, 66, 67, 68, 69, 70, 71, 72, 73, 74, 75, 76, 77, 78, 79, 80, 81, 82, 83, 84, 85, 86] (by decide +kernel) (by decide +kernel)
set_option maxRecDepth 20000 in
theorem gX8_counters_X8_steps : GoodIn wsX8_counters (wsV RX8 153 RX8 yX8_steps wsX8_steps) := goodIn_app (goodIn_of _ (by decide +kernel)) ggX8_counters_X8_steps
theorem dX8_counters_0 : decode cX8_counters 0 = .ok (.iconst 0, 1) := by decide +kernel
theorem dX8_counters_1 : decode cX8_counters 1 = .ok (.istore_n 1, 1) := by decide +kernel
theorem dX8_counters_2 : decode cX8_counters 2 = .ok (.iload_n 1, 1) := by decide +kernel
theorem dX8_counters_3 : decode cX8_counters 3 = .ok (.iconst 4, 1) := by decide +kernel
theorem dX8_counters_4 : decode cX8_counters 4 = .ok (.if_icmp .ge 68, 3) := by decide +kernel
theorem dX8_counters_7 : decode cX8_counters 7 = .ok (.aload_n 0, 1) := by decide +kernel
theorem dX8_counters_8 : decode cX8_counters 8 = .ok (.getfield 37, 3) := by decide +kernel
theorem dX8_counters_11 : decode cX8_counters 11 = .ok (.iload_n 1, 1) := by decide +kernel
theorem dX8_counters_12 : decode cX8_counters 12 = .ok (.iconst 0, 1) := by decide +kernel
theorem dX8_counters_13 : decode cX8_counters 13 = .ok (.bastore, 1) := by decide +kernel
theorem dX8_counters_14 : decode cX8_counters 14 = .ok (.aload_n 0, 1) := by decide +kernel
theorem dX8_counters_15 : decode cX8_counters 15 = .ok (.getfield 41, 3) := by decide +kernel
theorem dX8_counters_18 : decode cX8_counters 18 = .ok (.iload_n 1, 1) := by decide +kernel
theorem dX8_counters_19 : decode cX8_counters 19 = .ok (.iconst 0, 1) := by decide +kernel
theorem dX8_counters_20 : decode cX8_counters 20 = .ok (.bastore, 1) := by decide +kernel
theorem dX8_counters_21 : decode cX8_counters 21 = .ok (.aload_n 0, 1) := by decide +kernel
theorem dX8_counters_22 : decode cX8_counters 22 = .ok (.iload_n 1, 1) := by decide +kernel
theorem dX8_counters_23 : decode cX8_counters 23 = .ok (.invokevirtual 150, 3) := by decide +kernel
theorem dX8_counters_26 : decode cX8_counters 26 = .ok (.ifCond .eq 40, 3) := by decide +kernel
theorem dX8_counters_29 : decode cX8_counters 29 = .ok (.aload_n 0, 1) := by decide +kernel
theorem dX8_counters_30 : decode cX8_counters 30 = .ok (.getfield 25, 3) := by decide +kernel
theorem dX8_counters_33 : decode cX8_counters 33 = .ok (.iload_n 1, 1) := by decide +kernel
theorem dX8_counters_34 : decode cX8_counters 34 = .ok (.dup2, 1) := by decide +kernel
theorem dX8_counters_35 : decode cX8_counters 35 = .ok (.iaload, 1) := by decide +kernel
theorem dX8_counters_36 : decode cX8_counters 36 = .ok (.iconst 1, 1) := by decide +kernel
theorem dX8_counters_37 : decode cX8_counters 37 = .ok (.iadd, 1) := by decide +kernel
theorem dX8_counters_38 : decode cX8_counters 38 = .ok (.iastore, 1) := by decide +kernel
theorem dX8_counters_39 : decode cX8_counters 39 = .ok (.aload_n 0, 1) := by decide +kernel
theorem dX8_counters_40 : decode cX8_counters 40 = .ok (.getfield 25, 3) := by decide +kernel
theorem dX8_counters_43 : decode cX8_counters 43 = .ok (.iload_n 1, 1) := by decide +kernel
theorem dX8_counters_44 : decode cX8_counters 44 = .ok (.iaload, 1) := by decide +kernel
theorem dX8_counters_45 : decode cX8_counters 45 = .ok (.aload_n 0, 1) := by decide +kernel
theorem dX8_counters_46 : decode cX8_counters 46 = .ok (.getfield 16, 3) := by decide +kernel
theorem dX8_counters_49 : decode cX8_counters 49 = .ok (.iload_n 1, 1) := by decide +kernel
theorem dX8_counters_50 : decode cX8_counters 50 = .ok (.iaload, 1) := by decide +kernel
theorem dX8_counters_51 : decode cX8_counters 51 = .ok (.if_icmp .ne 15, 3) := by decide +kernel
theorem dX8_counters_54 : decode cX8_counters 54 = .ok (.aload_n 0, 1) := by decide +kernel
theorem dX8_counters_55 : decode cX8_counters 55 = .ok (.getfield 25, 3) := by decide +kernel
theorem dX8_counters_58 : decode cX8_counters 58 = .ok (.iload_n 1, 1) := by decide +kernel
theorem dX8_counters_59 : decode cX8_counters 59 = .ok (.iconst 0, 1) := by decide +kernel
theorem dX8_counters_60 : decode cX8_counters 60 = .ok (.iastore, 1) := by decide +kernel
theorem dX8_counters_61 : decode cX8_counters 61 = .ok (.aload_n 0, 1) := by decide +kernel
theorem dX8_counters_62 : decode cX8_counters 62 = .ok (.iload_n 1, 1) := by decide +kernel
theorem dX8_counters_63 : decode cX8_counters 63 = .ok (.invokevirtual 153, 3) := by decide +kernel
theorem dX8_counters_66 : decode cX8_counters 66 = .ok (.iinc 1 1, 3) := by decide +kernel
theorem dX8_counters_69 : decode cX8_counters 69 = .ok (.goto (-67), 3) := by decide +kernel
theorem dX8_counters_72 : decode cX8_counters 72 = .ok (.return_, 1) := by decide +kernel
set_option maxRecDepth 20000 in
theorem ggX8_input_X8_isOne : GoodIn wsX8_input wsX8_isOne := goodIn_r _ [5, 6, 7, 4, 8] (by decide +kernel) (by decide +kernel)
set_option maxRecDepth 20000 in
theorem gX8_input_X8_isOne : GoodIn wsX8_input (va_wsS RX8 130 yX8_isOne wsX8_isOne) := goodIn_app (goodIn_of _ (by decide +kernel)) ggX8_input_X8_isOne
set_option maxRecDepth 20000 in
theorem ggX8_input_X8_within : GoodIn wsX8_input wsX8_within := goodIn_r _ [8] (by decide +kernel) (by decide +kernel)
set_option maxRecDepth 20000 in
theorem gX8_input_X8_within : GoodIn wsX8_input (va_wsS RX8 126 yX8_within wsX8_within) := goodIn_app (goodIn_of _ (by decide +kernel)) ggX8_input_X8_within
theorem dX8_input_0 : decode cX8_input 0 = .ok (.iload_n 1, 1) := by decide +kernel
theorem dX8_input_1 : decode cX8_input 1 = .ok (.invokestatic 130, 3) := by decide +kernel
theorem dX8_input_4 : decode cX8_input 4 = .ok (.ifCond .ne 5, 3) := by decide +kernel
theorem dX8_input_7 : decode cX8_input 7 = .ok (.iconst (-1), 1) := by decide +kernel
theorem dX8_input_8 : decode cX8_input 8 = .ok (.ireturn, 1) := by decide +kernel
theorem dX8_input_9 : decode cX8_input 9 = .ok (.iload_n 2, 1) := by decide +kernel
theorem dX8_input_10 : decode cX8_input 10 = .ok (.iconst 0, 1) := by decide +kernel
theorem dX8_input_11 : decode cX8_input 11 = .ok (.iconst 1, 1) := by decide +kernel
theorem dX8_input_12 : decode cX8_input 12 = .ok (.invokestatic 126, 3) := by decide +kernel
theorem dX8_input_15 : decode cX8_input 15 = .ok (.ifCond .ne 6, 3) := by decide +kernel
theorem dX8_input_18 : decode cX8_input 18 = .ok (.bipush (-2), 2) := by decide +kernel
theorem dX8_input_20 : decode cX8_input 20 = .ok (.ireturn, 1) := by decide +kernel
theorem dX8_input_21 : decode cX8_input 21 = .ok (.aload_n 0, 1) := by decide +kernel
theorem dX8_input_22 : decode cX8_input 22 = .ok (.getfield 44, 3) := by decide +kernel
theorem dX8_input_25 : decode cX8_input 25 = .ok (.iload_n 1, 1) := by decide +kernel
theorem dX8_input_26 : decode cX8_input 26 = .ok (.iaload, 1) := by decide +kernel
theorem dX8_input_27 : decode cX8_input 27 = .ok (.istore_n 3, 1) := by decide +kernel
theorem dX8_input_28 : decode cX8_input 28 = .ok (.aload_n 0, 1) := by decide +kernel
theorem dX8_input_29 : decode cX8_input 29 = .ok (.getfield 44, 3) := by decide +kernel
theorem dX8_input_32 : decode cX8_input 32 = .ok (.iload_n 1, 1) := by decide +kernel
theorem dX8_input_33 : decode cX8_input 33 = .ok (.iload_n 2, 1) := by decide +kernel
theorem dX8_input_34 : decode cX8_input 34 = .ok (.iastore, 1) := by decide +kernel
theorem dX8_input_35 : decode cX8_input 35 = .ok (.iload_n 3, 1) := by decide +kernel
theorem dX8_input_36 : decode cX8_input 36 = .ok (.ireturn, 1) := by decide +kernel
set_option maxRecDepth 20000 in
theorem ggX8_filter_X8_isOne : GoodIn wsX8_filter wsX8_isOne := goodIn_r _ [5, 6, 7, 4, 8] (by decide +kernel) (by decide +kernel)
set_option maxRecDepth 20000 in
theorem gX8_filter_X8_isOne : GoodIn wsX8_filter (va_wsS RX8 130 yX8_isOne wsX8_isOne) := goodIn_app (goodIn_of _ (by decide +kernel)) ggX8_filter_X8_isOne
set_option maxRecDepth 20000 in
theorem ggX8_filter_X8_within : GoodIn wsX8_filter wsX8_within := goodIn_r _ [8] (by decide +kernel) (by decide +kernel)
set_option maxRecDepth 20000 in
theorem gX8_filter_X8_within : GoodIn wsX8_filter (va_wsS RX8 126 yX8_within wsX8_within) := goodIn_app (goodIn_of _ (by decide +kernel)) ggX8_filter_X8_within
theorem dX8_filter_0 : decode cX8_filter 0 = .ok (.iload_n 1, 1) := by decide +kernel
theorem dX8_filter_1 : decode cX8_filter 1 = .ok (.invokestatic 130, 3) := by decide +kernel
theorem dX8_filter_4 : decode cX8_filter 4 = .ok (.ifCond .ne 5, 3) := by decide +kernel
theorem dX8_filter_7 : decode cX8_filter 7 = .ok (.iconst (-1), 1) := by decide +kernel
theorem dX8_filter_8 : decode cX8_filter 8 = .ok (.ireturn, 1) := by decide +kernel
theorem dX8_filter_9 : decode cX8_filter 9 = .ok (.iload_n 2, 1) := by decide +kernel
theorem dX8_filter_10 : decode cX8_filter 10 = .ok (.iconst 1, 1) := by decide +kernel
theorem dX8_filter_11 : decode cX8_filter 11 = .ok (.bipush 8, 2) := by decide +kernel
theorem dX8_filter_13 : decode cX8_filter 13 = .ok (.invokestatic 126, 3) := by decide +kernel
theorem dX8_filter_16 : decode cX8_filter 16 = .ok (.ifCond .ne 6, 3) := by decide +kernel
theorem dX8_filter_19 : decode cX8_filter 19 = .ok (.bipush (-2), 2) := by decide +kernel
theorem dX8_filter_21 : decode cX8_filter 21 = .ok (.ireturn, 1) := by decide +kernel
theorem dX8_filter_22 : decode cX8_filter 22 = .ok (.aload_n 0, 1) := by decide +kernel
theorem dX8_filter_23 : decode cX8_filter 23 = .ok (.getfield 50, 3) := by decide +kernel
theorem dX8_filter_26 : decode cX8_filter 26 = .ok (.iload_n 1, 1) := by decide +kernel
theorem dX8_filter_27 : decode cX8_filter 27 = .ok (.iaload, 1) := by decide +kernel
theorem dX8_filter_28 : decode cX8_filter 28 = .ok (.istore_n 3, 1) := by decide +kernel
theorem dX8_filter_29 : decode cX8_filter 29 = .ok (.aload_n 0, 1) := by decide +kernel
theorem dX8_filter_30 : decode cX8_filter 30 = .ok (.getfield 50, 3) := by decide +kernel
theorem dX8_filter_33 : decode cX8_filter 33 = .ok (.iload_n 1, 1) := by decide +kernel
theorem dX8_filter_34 : decode cX8_filter 34 = .ok (.iload_n 2, 1) := by decide +kernel
theorem dX8_filter_35 : decode cX8_filter 35 = .ok (.iastore, 1) := by decide +kernel
theorem dX8_filter_36 : decode cX8_filter 36 = .ok (.iload_n 3, 1) := by decide +kernel
theorem dX8_filter_37 : decode cX8_filter 37 = .ok (.ireturn, 1) := by decide +kernel
set_option maxRecDepth 20000 in
theorem ggX8_ofInput_X8_isOne : GoodIn wsX8_ofInput wsX8_isOne := goodIn_r _ [8, 9, 10, 7, 11] (by decide +kernel) (by decide +kernel)
set_option maxRecDepth 20000 in
theorem gX8_ofInput_X8_isOne : GoodIn wsX8_ofInput (va_wsS RX8 130 yX8_isOne wsX8_isOne) := goodIn_app (goodIn_of _ (by decide +kernel)) ggX8_ofInput_X8_isOne
theorem dX8_ofInput_0 : decode cX8_ofInput 0 = .ok (.iload_n 1, 1) := by decide +kernel
theorem dX8_ofInput_1 : decode cX8_ofInput 1 = .ok (.invokestatic 130, 3) := by decide +kernel
theorem dX8_ofInput_4 : decode cX8_ofInput 4 = .ok (.ifCond .ne 5, 3) := by decide +kernel
theorem dX8_ofInput_7 : decode cX8_ofInput 7 = .ok (.iconst (-1), 1) := by decide +kernel
theorem dX8_ofInput_8 : decode cX8_ofInput 8 = .ok (.ireturn, 1) := by decide +kernel
theorem dX8_ofInput_9 : decode cX8_ofInput 9 = .ok (.iload_n 2, 1) := by decide +kernel
theorem dX8_ofInput_10 : decode cX8_ofInput 10 = .ok (.tableswitch 58 0 3 #[30, 37, 44, 51], 30) := by decide +kernel
theorem dX8_ofInput_40 : decode cX8_ofInput 40 = .ok (.aload_n 0, 1) := by decide +kernel
theorem dX8_ofInput_41 : decode cX8_ofInput 41 = .ok (.getfield 44, 3) := by decide +kernel
theorem dX8_ofInput_44 : decode cX8_ofInput 44 = .ok (.iload_n 1, 1) := by decide +kernel
theorem dX8_ofInput_45 : decode cX8_ofInput 45 = .ok (.iaload, 1) := by decide +kernel
theorem dX8_ofInput_46 : decode cX8_ofInput 46 = .ok (.ireturn, 1) := by decide +kernel
theorem dX8_ofInput_47 : decode cX8_ofInput 47 = .ok (.aload_n 0, 1) := by decide +kernel
theorem dX8_ofInput_48 : decode cX8_ofInput 48 = .ok (.getfield 47, 3) := by decide +kernel
theorem dX8_ofInput_51 : decode cX8_ofInput 51 = .ok (.iload_n 1, 1) := by decide +kernel
theorem dX8_ofInput_52 : decode cX8_ofInput 52 = .ok (.iaload, 1) := by decide +kernel
theorem dX8_ofInput_53 : decode cX8_ofInput 53 = .ok (.ireturn, 1) := by decide +kernel
theorem dX8_ofInput_54 : decode cX8_ofInput 54 = .ok (.aload_n 0, 1) := by decide +kernel
theorem dX8_ofInput_55 : decode cX8_ofInput 55 = .ok (.getfield 53, 3) := by decide +kernel
theorem dX8_ofInput_58 : decode cX8_ofInput 58 = .ok (.iload_n 1, 1) := by decide +kernel
theorem dX8_ofInput_59 : decode cX8_ofInput 59 = .ok (.iaload, 1) := by decide +kernel
theorem dX8_ofInput_60 : decode cX8_ofInput 60 = .ok (.ireturn, 1) := by decide +kernel
theorem dX8_ofInput_61 : decode cX8_ofInput 61 = .ok (.aload_n 0, 1) := by decide +kernel
theorem dX8_ofInput_62 : decode cX8_ofInput 62 = .ok (.getfield 50, 3) := by decide +kernel
theorem dX8_ofInput_65 : decode cX8_ofInput 65 = .ok (.iload_n 1, 1) := by decide +kernel
theorem dX8_ofInput_66 : decode cX8_ofInput 66 = .ok (.iaload, 1) := by decide +kernel
theorem dX8_ofInput_67 : decode cX8_ofInput 67 = .ok (.ireturn, 1) := by decide +kernel
theorem dX8_ofInput_68 : decode cX8_ofInput 68 = .ok (.bipush (-2), 2) := by decide +kernel
theorem dX8_ofInput_70 : decode cX8_ofInput 70 = .ok (.ireturn, 1) := by decide +kernel
theorem dX8_inputs_0 : decode cX8_inputs 0 = .ok (.iconst 0, 1) := by decide +kernel
theorem dX8_inputs_1 : decode cX8_inputs 1 = .ok (.istore_n 1, 1) := by decide +kernel
theorem dX8_inputs_2 : decode cX8_inputs 2 = .ok (.iload_n 1, 1) := by decide +kernel
theorem dX8_inputs_3 : decode cX8_inputs 3 = .ok (.iconst 4, 1) := by decide +kernel
theorem dX8_inputs_4 : decode cX8_inputs 4 = .ok (.if_icmp .ge 104, 3) := by decide +kernel
theorem dX8_inputs_7 : decode cX8_inputs 7 = .ok (.aload_n 0, 1) := by decide +kernel
theorem dX8_inputs_8 : decode cX8_inputs 8 = .ok (.getfield 56, 3) := by decide +kernel
theorem dX8_inputs_11 : decode cX8_inputs 11 = .ok (.iload_n 1, 1) := by decide +kernel
theorem dX8_inputs_12 : decode cX8_inputs 12 = .ok (.iconst 0, 1) := by decide +kernel
theorem dX8_inputs_13 : decode cX8_inputs 13 = .ok (.iastore, 1) := by decide +kernel
theorem dX8_inputs_14 : decode cX8_inputs 14 = .ok (.aload_n 0, 1) := by decide +kernel
theorem dX8_inputs_15 : decode cX8_inputs 15 = .ok (.getfield 53, 3) := by decide +kernel
theorem dX8_inputs_18 : decode cX8_inputs 18 = .ok (.iload_n 1, 1) := by decide +kernel
theorem dX8_inputs_19 : decode cX8_inputs 19 = .ok (.aload_n 0, 1) := by decide +kernel
theorem dX8_inputs_20 : decode cX8_inputs 20 = .ok (.getfield 44, 3) := by decide +kernel
theorem dX8_inputs_23 : decode cX8_inputs 23 = .ok (.iload_n 1, 1) := by decide +kernel
theorem dX8_inputs_24 : decode cX8_inputs 24 = .ok (.iaload, 1) := by decide +kernel
theorem dX8_inputs_25 : decode cX8_inputs 25 = .ok (.aload_n 0, 1) := by decide +kernel
theorem dX8_inputs_26 : decode cX8_inputs 26 = .ok (.getfield 47, 3) := by decide +kernel
theorem dX8_inputs_29 : decode cX8_inputs 29 = .ok (.iload_n 1, 1) := by decide +kernel
theorem dX8_inputs_30 : decode cX8_inputs 30 = .ok (.iaload, 1) := by decide +kernel
theorem dX8_inputs_31 : decode cX8_inputs 31 = .ok (.if_icmp .ne 7, 3) := by decide +kernel
theorem dX8_inputs_34 : decode cX8_inputs 34 = .ok (.iconst 0, 1) := by decide +kernel
theorem dX8_inputs_35 : decode cX8_inputs 35 = .ok (.goto 11, 3) := by decide +kernel
theorem dX8_inputs_38 : decode cX8_inputs 38 = .ok (.aload_n 0, 1) := by decide +kernel
theorem dX8_inputs_39 : decode cX8_inputs 39 = .ok (.getfield 53, 3) := by decide +kernel
theorem dX8_inputs_42 : decode cX8_inputs 42 = .ok (.iload_n 1, 1) := by decide +kernel
theorem dX8_inputs_43 : decode cX8_inputs 43 = .ok (.iaload, 1) := by decide +kernel
theorem dX8_inputs_44 : decode cX8_inputs 44 = .ok (.iconst 1, 1) := by decide +kernel
theorem dX8_inputs_45 : decode cX8_inputs 45 = .ok (.iadd, 1) := by decide +kernel
theorem dX8_inputs_46 : decode cX8_inputs 46 = .ok (.iastore, 1) := by decide +kernel
theorem dX8_inputs_47 : decode cX8_inputs 47 = .ok (.aload_n 0, 1) := by decide +kernel
theorem dX8_inputs_48 : decode cX8_inputs 48 = .ok (.getfield 53, 3) := by decide +kernel
theorem dX8_inputs_51 : decode cX8_inputs 51 = .ok (.iload_n 1, 1) := by decide +kernel
theorem dX8_inputs_52 : decode cX8_inputs 52 = .ok (.iaload, 1) := by decide +kernel
theorem dX8_inputs_53 : decode cX8_inputs 53 = .ok (.aload_n 0, 1) := by decide +kernel
theorem dX8_inputs_54 : decode cX8_inputs 54 = .ok (.getfield 50, 3) := by decide +kernel
theorem dX8_inputs_57 : decode cX8_inputs 57 = .ok (.iload_n 1, 1) := by decide +kernel
theorem dX8_inputs_58 : decode cX8_inputs 58 = .ok (.iaload, 1) := by decide +kernel
theorem dX8_inputs_59 : decode cX8_inputs 59 = .ok (.if_icmp .lt 43, 3) := by decide +kernel
theorem dX8_inputs_62 : decode cX8_inputs 62 = .ok (.aload_n 0, 1) := by decide +kernel
theorem dX8_inputs_63 : decode cX8_inputs 63 = .ok (.getfield 47, 3) := by decide +kernel
theorem dX8_inputs_66 : decode cX8_inputs 66 = .ok (.iload_n 1, 1) := by decide +kernel
theorem dX8_inputs_67 : decode cX8_inputs 67 = .ok (.aload_n 0, 1) := by decide +kernel
theorem dX8_inputs_68 : decode cX8_inputs 68 = .ok (.getfield 44, 3) := by decide +kernel
theorem dX8_inputs_71 : decode cX8_inputs 71 = .ok (.iload_n 1, 1) := by decide +kernel
theorem dX8_inputs_72 : decode cX8_inputs 72 = .ok (.iaload, 1) := by decide +kernel
theorem dX8_inputs_73 : decode cX8_inputs 73 = .ok (.iastore, 1) := by decide +kernel
theorem dX8_inputs_74 : decode cX8_inputs 74 = .ok (.aload_n 0, 1) := by decide +kernel
theorem dX8_inputs_75 : decode cX8_inputs 75 = .ok (.getfield 53, 3) := by decide +kernel
theorem dX8_inputs_78 : decode cX8_inputs 78 = .ok (.iload_n 1, 1) := by decide +kernel
theorem dX8_inputs_79 : decode cX8_inputs 79 = .ok (.iconst 0, 1) := by decide +kernel
theorem dX8_inputs_80 : decode cX8_inputs 80 = .ok (.iastore, 1) := by decide +kernel
theorem dX8_inputs_81 : decode cX8_inputs 81 = .ok (.aload_n 0, 1) := by decide +kernel
theorem dX8_inputs_82 : decode cX8_inputs 82 = .ok (.getfield 56, 3) := by decide +kernel
theorem dX8_inputs_85 : decode cX8_inputs 85 = .ok (.iload_n 1, 1) := by decide +kernel
theorem dX8_inputs_86 : decode cX8_inputs 86 = .ok (.aload_n 0, 1) := by decide +kernel
theorem dX8_inputs_87 : decode cX8_inputs 87 = .ok (.getfield 44, 3) := by decide +kernel
theorem dX8_inputs_90 : decode cX8_inputs 90 = .ok (.iload_n 1, 1) := by decide +kernel
theorem dX8_inputs_91 : decode cX8_inputs 91 = .ok (.iaload, 1) := by decide +kernel
theorem dX8_inputs_92 : decode cX8_inputs 92 = .ok (.iconst 1, 1) := by decide +kernel
theorem dX8_inputs_93 : decode cX8_inputs 93 = .ok (.if_icmp .ne 7, 3) := by decide +kernel
theorem dX8_inputs_96 : decode cX8_inputs 96 = .ok (.iconst 1, 1) := by decide +kernel
theorem dX8_inputs_97 : decode cX8_inputs 97 = .ok (.goto 4, 3) := by decide +kernel
theorem dX8_inputs_100 : decode cX8_inputs 100 = .ok (.iconst 2, 1) := by decide +kernel
theorem dX8_inputs_101 : decode cX8_inputs 101 = .ok (.iastore, 1) := by decide +kernel
theorem dX8_inputs_102 : decode cX8_inputs 102 = .ok (.iinc 1 1, 3) := by decide +kernel
theorem dX8_inputs_105 : decode cX8_inputs 105 = .ok (.goto (-103), 3) := by decide +kernel
theorem dX8_inputs_108 : decode cX8_inputs 108 = .ok (.return_, 1) := by decide +kernel
set_option maxRecDepth 20000 in
theorem ggX8_catcher_X8_isOne : GoodIn wsX8_catcher wsX8_isOne := goodIn_r _ [11, 12, 13, 10, 14] (by decide +kernel) (by decide +kernel)
set_option maxRecDepth 20000 in
theorem gX8_catcher_X8_isOne : GoodIn wsX8_catcher (va_wsS RX8 130 yX8_isOne wsX8_isOne) := goodIn_app (goodIn_of _ (by decide +kernel)) ggX8_catcher_X8_isOne
set_option maxRecDepth 20000 in
theorem ggX8_catcher_X8_within : GoodIn wsX8_catcher wsX8_within := goodIn_r _ [14] (by decide +kernel) (by decide +kernel)
set_option maxRecDepth 20000 in
theorem gX8_catcher_X8_within : GoodIn wsX8_catcher (va_wsS RX8 126 yX8_within wsX8_within) := goodIn_app (goodIn_of _ (by decide +kernel)) ggX8_catcher_X8_within
theorem dX8_catcher_0 : decode cX8_catcher 0 = .ok (.iload_n 1, 1) := by decide +kernel
theorem dX8_catcher_1 : decode cX8_catcher 1 = .ok (.invokestatic 130, 3) := by decide +kernel
theorem dX8_catcher_4 : decode cX8_catcher 4 = .ok (.ifCond .eq 10, 3) := by decide +kernel
theorem dX8_catcher_7 : decode cX8_catcher 7 = .ok (.iload_n 2, 1) := by decide +kernel
theorem dX8_catcher_8 : decode cX8_catcher 8 = .ok (.invokestatic 130, 3) := by decide +kernel
theorem dX8_catcher_11 : decode cX8_catcher 11 = .ok (.ifCond .ne 5, 3) := by decide +kernel
theorem dX8_catcher_14 : decode cX8_catcher 14 = .ok (.iconst (-1), 1) := by decide +kernel
theorem dX8_catcher_15 : decode cX8_catcher 15 = .ok (.ireturn, 1) := by decide +kernel
theorem dX8_catcher_16 : decode cX8_catcher 16 = .ok (.iload_n 3, 1) := by decide +kernel
theorem dX8_catcher_17 : decode cX8_catcher 17 = .ok (.iconst 0, 1) := by decide +kernel
theorem dX8_catcher_18 : decode cX8_catcher 18 = .ok (.iconst 3, 1) := by decide +kernel
theorem dX8_catcher_19 : decode cX8_catcher 19 = .ok (.invokestatic 126, 3) := by decide +kernel
theorem dX8_catcher_22 : decode cX8_catcher 22 = .ok (.ifCond .eq 13, 3) := by decide +kernel
theorem dX8_catcher_25 : decode cX8_catcher 25 = .ok (.iload 4, 2) := by decide +kernel
theorem dX8_catcher_27 : decode cX8_catcher 27 = .ok (.iconst 1, 1) := by decide +kernel
theorem dX8_catcher_28 : decode cX8_catcher 28 = .ok (.iconst 4, 1) := by decide +kernel
theorem dX8_catcher_29 : decode cX8_catcher 29 = .ok (.invokestatic 126, 3) := by decide +kernel
theorem dX8_catcher_32 : decode cX8_catcher 32 = .ok (.ifCond .ne 6, 3) := by decide +kernel
theorem dX8_catcher_35 : decode cX8_catcher 35 = .ok (.bipush (-2), 2) := by decide +kernel
theorem dX8_catcher_37 : decode cX8_catcher 37 = .ok (.ireturn, 1) := by decide +kernel
theorem dX8_catcher_38 : decode cX8_catcher 38 = .ok (.aload_n 0, 1) := by decide +kernel
theorem dX8_catcher_39 : decode cX8_catcher 39 = .ok (.getfield 59, 3) := by decide +kernel
theorem dX8_catcher_42 : decode cX8_catcher 42 = .ok (.iload_n 1, 1) := by decide +kernel
theorem dX8_catcher_43 : decode cX8_catcher 43 = .ok (.iload_n 2, 1) := by decide +kernel
theorem dX8_catcher_44 : decode cX8_catcher 44 = .ok (.iastore, 1) := by decide +kernel
theorem dX8_catcher_45 : decode cX8_catcher 45 = .ok (.aload_n 0, 1) := by decide +kernel
theorem dX8_catcher_46 : decode cX8_catcher 46 = .ok (.getfield 62, 3) := by decide +kernel
theorem dX8_catcher_49 : decode cX8_catcher 49 = .ok (.iload_n 1, 1) := by decide +kernel
theorem dX8_catcher_50 : decode cX8_catcher 50 = .ok (.iload_n 3, 1) := by decide +kernel
theorem dX8_catcher_51 : decode cX8_catcher 51 = .ok (.iastore, 1) := by decide +kernel
theorem dX8_catcher_52 : decode cX8_catcher 52 = .ok (.aload_n 0, 1) := by decide +kernel
theorem dX8_catcher_53 : decode cX8_catcher 53 = .ok (.getfield 65, 3) := by decide +kernel
theorem dX8_catcher_56 : decode cX8_catcher 56 = .ok (.iload_n 1, 1) := by decide +kernel
theorem dX8_catcher_57 : decode cX8_catcher 57 = .ok (.iload 4, 2) := by decide +kernel
theorem dX8_catcher_59 : decode cX8_catcher 59 = .ok (.iastore, 1) := by decide +kernel
theorem dX8_catcher_60 : decode cX8_catcher 60 = .ok (.aload_n 0, 1) := by decide +kernel
theorem dX8_catcher_61 : decode cX8_catcher 61 = .ok (.getfield 68, 3) := by decide +kernel
theorem dX8_catcher_64 : decode cX8_catcher 64 = .ok (.iload_n 1, 1) := by decide +kernel
theorem dX8_catcher_65 : decode cX8_catcher 65 = .ok (.iconst 0, 1) := by decide +kernel
theorem dX8_catcher_66 : decode cX8_catcher 66 = .ok (.iastore, 1) := by decide +kernel
theorem dX8_catcher_67 : decode cX8_catcher 67 = .ok (.aload_n 0, 1) := by decide +kernel
theorem dX8_catcher_68 : decode cX8_catcher 68 = .ok (.getfield 71, 3) := by decide +kernel
theorem dX8_catcher_71 : decode cX8_catcher 71 = .ok (.iload_n 1, 1) := by decide +kernel
theorem dX8_catcher_72 : decode cX8_catcher 72 = .ok (.iconst 0, 1) := by decide +kernel
theorem dX8_catcher_73 : decode cX8_catcher 73 = .ok (.iastore, 1) := by decide +kernel
theorem dX8_catcher_74 : decode cX8_catcher 74 = .ok (.aload_n 0, 1) := by decide +kernel
theorem dX8_catcher_75 : decode cX8_catcher 75 = .ok (.getfield 74, 3) := by decide +kernel
theorem dX8_catcher_78 : decode cX8_catcher 78 = .ok (.iload_n 1, 1) := by decide +kernel
theorem dX8_catcher_79 : decode cX8_catcher 79 = .ok (.iconst 0, 1) := by decide +kernel
theorem dX8_catcher_80 : decode cX8_catcher 80 = .ok (.iastore, 1) := by decide +kernel
theorem dX8_catcher_81 : decode cX8_catcher 81 = .ok (.aload_n 0, 1) := by decide +kernel
theorem dX8_catcher_82 : decode cX8_catcher 82 = .ok (.getfield 77, 3) := by decide +kernel
theorem dX8_catcher_85 : decode cX8_catcher 85 = .ok (.iload_n 1, 1) := by decide +kernel
theorem dX8_catcher_86 : decode cX8_catcher 86 = .ok (.iconst 0, 1) := by decide +kernel
theorem dX8_catcher_87 : decode cX8_catcher 87 = .ok (.iastore, 1) := by decide +kernel
theorem dX8_catcher_88 : decode cX8_catcher 88 = .ok (.iconst 1, 1) := by decide +kernel
theorem dX8_catcher_89 : decode cX8_catcher 89 = .ok (.ireturn, 1) := by decide +kernel
set_option maxRecDepth 20000 in
theorem ggX8_taken_X8_isOne : GoodIn wsX8_taken wsX8_isOne := goodIn_r _ [6, 7, 8, 5, 9] (by decide +kernel) (by decide +kernel)
set_option maxRecDepth 20000 in
theorem gX8_taken_X8_isOne : GoodIn wsX8_taken (va_wsS RX8 130 yX8_isOne wsX8_isOne) := goodIn_app (goodIn_of _ (by decide +kernel)) ggX8_taken_X8_isOne
theorem dX8_taken_0 : decode cX8_taken 0 = .ok (.iload_n 1, 1) := by decide +kernel
theorem dX8_taken_1 : decode cX8_taken 1 = .ok (.invokestatic 130, 3) := by decide +kernel
theorem dX8_taken_4 : decode cX8_taken 4 = .ok (.ifCond .ne 5, 3) := by decide +kernel
theorem dX8_taken_7 : decode cX8_taken 7 = .ok (.iconst (-1), 1) := by decide +kernel
theorem dX8_taken_8 : decode cX8_taken 8 = .ok (.ireturn, 1) := by decide +kernel
theorem dX8_taken_9 : decode cX8_taken 9 = .ok (.aload_n 0, 1) := by decide +kernel
theorem dX8_taken_10 : decode cX8_taken 10 = .ok (.getfield 74, 3) := by decide +kernel
theorem dX8_taken_13 : decode cX8_taken 13 = .ok (.iload_n 1, 1) := by decide +kernel
theorem dX8_taken_14 : decode cX8_taken 14 = .ok (.iaload, 1) := by decide +kernel
theorem dX8_taken_15 : decode cX8_taken 15 = .ok (.ifCond .ne 6, 3) := by decide +kernel
theorem dX8_taken_18 : decode cX8_taken 18 = .ok (.bipush (-9), 2) := by decide +kernel
theorem dX8_taken_20 : decode cX8_taken 20 = .ok (.ireturn, 1) := by decide +kernel
theorem dX8_taken_21 : decode cX8_taken 21 = .ok (.aload_n 0, 1) := by decide +kernel
theorem dX8_taken_22 : decode cX8_taken 22 = .ok (.getfield 74, 3) := by decide +kernel
theorem dX8_taken_25 : decode cX8_taken 25 = .ok (.iload_n 1, 1) := by decide +kernel
theorem dX8_taken_26 : decode cX8_taken 26 = .ok (.iconst 0, 1) := by decide +kernel
theorem dX8_taken_27 : decode cX8_taken 27 = .ok (.iastore, 1) := by decide +kernel
theorem dX8_taken_28 : decode cX8_taken 28 = .ok (.aload_n 0, 1) := by decide +kernel
theorem dX8_taken_29 : decode cX8_taken 29 = .ok (.getfield 71, 3) := by decide +kernel
theorem dX8_taken_32 : decode cX8_taken 32 = .ok (.iload_n 1, 1) := by decide +kernel
theorem dX8_taken_33 : decode cX8_taken 33 = .ok (.iaload, 1) := by decide +kernel
theorem dX8_taken_34 : decode cX8_taken 34 = .ok (.ireturn, 1) := by decide +kernel
set_option maxRecDepth 20000 in
theorem ggX8_ofCatcher_X8_isOne : GoodIn wsX8_ofCatcher wsX8_isOne := goodIn_r _ [11, 12, 13, 10, 14] (by decide +kernel) (by decide +kernel)
set_option maxRecDepth 20000 in
theorem gX8_ofCatcher_X8_isOne : GoodIn wsX8_ofCatcher (va_wsS RX8 130 yX8_isOne wsX8_isOne) := goodIn_app (goodIn_of _ (by decide +kernel)) ggX8_ofCatcher_X8_isOne
theorem dX8_ofCatcher_0 : decode cX8_ofCatcher 0 = .ok (.iload_n 1, 1) := by decide +kernel
theorem dX8_ofCatcher_1 : decode cX8_ofCatcher 1 = .ok (.invokestatic 130, 3) := by decide +kernel
theorem dX8_ofCatcher_4 : decode cX8_ofCatcher 4 = .ok (.ifCond .ne 5, 3) := by decide +kernel
theorem dX8_ofCatcher_7 : decode cX8_ofCatcher 7 = .ok (.iconst (-1), 1) := by decide +kernel
theorem dX8_ofCatcher_8 : decode cX8_ofCatcher 8 = .ok (.ireturn, 1) := by decide +kernel
theorem dX8_ofCatcher_9 : decode cX8_ofCatcher 9 = .ok (.iload_n 2, 1) := by decide +kernel
theorem dX8_ofCatcher_10 : decode cX8_ofCatcher 10 = .ok (.tableswitch 91 0 6 #[42, 49, 56, 63, 70, 77, 84], 42) := by decide +kernel
theorem dX8_ofCatcher_52 : decode cX8_ofCatcher 52 = .ok (.aload_n 0, 1) := by decide +kernel
theorem dX8_ofCatcher_53 : decode cX8_ofCatcher 53 = .ok (.getfield 59, 3) := by decide +kernel
theorem dX8_ofCatcher_56 : decode cX8_ofCatcher 56 = .ok (.iload_n 1, 1) := by decide +kernel
theorem dX8_ofCatcher_57 : decode cX8_ofCatcher 57 = .ok (.iaload, 1) := by decide +kernel
theorem dX8_ofCatcher_58 : decode cX8_ofCatcher 58 = .ok (.ireturn, 1) := by decide +kernel
theorem dX8_ofCatcher_59 : decode cX8_ofCatcher 59 = .ok (.aload_n 0, 1) := by decide +kernel
theorem dX8_ofCatcher_60 : decode cX8_ofCatcher 60 = .ok (.getfield 62, 3) := by decide +kernel
theorem dX8_ofCatcher_63 : decode cX8_ofCatcher 63 = .ok (.iload_n 1, 1) := by decide +kernel
theorem dX8_ofCatcher_64 : decode cX8_ofCatcher 64 = .ok (.iaload, 1) := by decide +kernel
theorem dX8_ofCatcher_65 : decode cX8_ofCatcher 65 = .ok (.ireturn, 1) := by decide +kernel
theorem dX8_ofCatcher_66 : decode cX8_ofCatcher 66 = .ok (.aload_n 0, 1) := by decide +kernel
theorem dX8_ofCatcher_67 : decode cX8_ofCatcher 67 = .ok (.getfield 65, 3) := by decide +kernel
theorem dX8_ofCatcher_70 : decode cX8_ofCatcher 70 = .ok (.iload_n 1, 1) := by decide +kernel
theorem dX8_ofCatcher_71 : decode cX8_ofCatcher 71 = .ok (.iaload, 1) := by decide +kernel
theorem dX8_ofCatcher_72 : decode cX8_ofCatcher 72 = .ok (.ireturn, 1) := by decide +kernel
theorem dX8_ofCatcher_73 : decode cX8_ofCatcher 73 = .ok (.aload_n 0, 1) := by decide +kernel
theorem dX8_ofCatcher_74 : decode cX8_ofCatcher 74 = .ok (.getfield 68, 3) := by decide +kernel
theorem dX8_ofCatcher_77 : decode cX8_ofCatcher 77 = .ok (.iload_n 1, 1) := by decide +kernel
theorem dX8_ofCatcher_78 : decode cX8_ofCatcher 78 = .ok (.iaload, 1) := by decide +kernel
theorem dX8_ofCatcher_79 : decode cX8_ofCatcher 79 = .ok (.ireturn, 1) := by decide +kernel
theorem dX8_ofCatcher_80 : decode cX8_ofCatcher 80 = .ok (.aload_n 0, 1) := by decide +kernel
theorem dX8_ofCatcher_81 : decode cX8_ofCatcher 81 = .ok (.getfield 71, 3) := by decide +kernel
theorem dX8_ofCatcher_84 : decode cX8_ofCatcher 84 = .ok (.iload_n 1, 1) := by decide +kernel
theorem dX8_ofCatcher_85 : decode cX8_ofCatcher 85 = .ok (.iaload, 1) := by decide +kernel
theorem dX8_ofCatcher_86 : decode cX8_ofCatcher 86 = .ok (.ireturn, 1) := by decide +kernel
theorem dX8_ofCatcher_87 : decode cX8_ofCatcher 87 = .ok (.aload_n 0, 1) := by decide +kernel
theorem dX8_ofCatcher_88 : decode cX8_ofCatcher 88 = .ok (.getfield 74, 3) := by decide +kernel
theorem dX8_ofCatcher_91 : decode cX8_ofCatcher 91 = .ok (.iload_n 1, 1) := by decide +kernel
theorem dX8_ofCatcher_92 : decode cX8_ofCatcher 92 = .ok (.iaload, 1) := by decide +kernel
theorem dX8_ofCatcher_93 : decode cX8_ofCatcher 93 = .ok (.ireturn, 1) := by decide +kernel
theorem dX8_ofCatcher_94 : decode cX8_ofCatcher 94 = .ok (.aload_n 0, 1) := by decide +kernel
theorem dX8_ofCatcher_95 : decode cX8_ofCatcher 95 = .ok (.getfield 77, 3) := by decide +kernel
theorem dX8_ofCatcher_98 : decode cX8_ofCatcher 98 = .ok (.iload_n 1, 1) := by decide +kernel
theorem dX8_ofCatcher_99 : decode cX8_ofCatcher 99 = .ok (.iaload, 1) := by decide +kernel
theorem dX8_ofCatcher_100 : decode cX8_ofCatcher 100 = .ok (.ireturn, 1) := by decide +kernel
theorem dX8_ofCatcher_101 : decode cX8_ofCatcher 101 = .ok (.bipush (-2), 2) := by decide +kernel
theorem dX8_ofCatcher_103 : decode cX8_ofCatcher 103 = .ok (.ireturn, 1) := by decide +kernel
theorem dX8_catchers_0 : decode cX8_catchers 0 = .ok (.iconst 0, 1) := by decide +kernel
theorem dX8_catchers_1 : decode cX8_catchers 1 = .ok (.istore_n 1, 1) := by decide +kernel
theorem dX8_catchers_2 : decode cX8_catchers 2 = .ok (.iload_n 1, 1) := by decide +kernel
theorem dX8_catchers_3 : decode cX8_catchers 3 = .ok (.iconst 4, 1) := by decide +kernel
theorem dX8_catchers_4 : decode cX8_catchers 4 = .ok (.if_icmp .ge 117, 3) := by decide +kernel
theorem dX8_catchers_7 : decode cX8_catchers 7 = .ok (.aload_n 0, 1) := by decide +kernel
theorem dX8_catchers_8 : decode cX8_catchers 8 = .ok (.getfield 56, 3) := by decide +kernel
theorem dX8_catchers_11 : decode cX8_catchers 11 = .ok (.iload_n 1, 1) := by decide +kernel
theorem dX8_catchers_12 : decode cX8_catchers 12 = .ok (.iaload, 1) := by decide +kernel
theorem dX8_catchers_13 : decode cX8_catchers 13 = .ok (.ifCond .eq 23, 3) := by decide +kernel
theorem dX8_catchers_16 : decode cX8_catchers 16 = .ok (.aload_n 0, 1) := by decide +kernel
theorem dX8_catchers_17 : decode cX8_catchers 17 = .ok (.getfield 62, 3) := by decide +kernel
theorem dX8_catchers_20 : decode cX8_catchers 20 = .ok (.iload_n 1, 1) := by decide +kernel
theorem dX8_catchers_21 : decode cX8_catchers 21 = .ok (.iaload, 1) := by decide +kernel
theorem dX8_catchers_22 : decode cX8_catchers 22 = .ok (.aload_n 0, 1) := by decide +kernel
theorem dX8_catchers_23 : decode cX8_catchers 23 = .ok (.getfield 56, 3) := by decide +kernel
theorem dX8_catchers_26 : decode cX8_catchers 26 = .ok (.iload_n 1, 1) := by decide +kernel
theorem dX8_catchers_27 : decode cX8_catchers 27 = .ok (.iaload, 1) := by decide +kernel
theorem dX8_catchers_28 : decode cX8_catchers 28 = .ok (.iand, 1) := by decide +kernel
theorem dX8_catchers_29 : decode cX8_catchers 29 = .ok (.ifCond .eq 7, 3) := by decide +kernel
theorem dX8_catchers_32 : decode cX8_catchers 32 = .ok (.iconst 1, 1) := by decide +kernel
theorem dX8_catchers_33 : decode cX8_catchers 33 = .ok (.goto 4, 3) := by decide +kernel
theorem dX8_catchers_36 : decode cX8_catchers 36 = .ok (.iconst 0, 1) := by decide +kernel
theorem dX8_catchers_37 : decode cX8_catchers 37 = .ok (.istore_n 2, 1) := by decide +kernel
theorem dX8_catchers_38 : decode cX8_catchers 38 = .ok (.aload_n 0, 1) := by decide +kernel
theorem dX8_catchers_39 : decode cX8_catchers 39 = .ok (.getfield 68, 3) := by decide +kernel
theorem dX8_catchers_42 : decode cX8_catchers 42 = .ok (.iload_n 1, 1) := by decide +kernel
theorem dX8_catchers_43 : decode cX8_catchers 43 = .ok (.dup2, 1) := by decide +kernel
theorem dX8_catchers_44 : decode cX8_catchers 44 = .ok (.iaload, 1) := by decide +kernel
theorem dX8_catchers_45 : decode cX8_catchers 45 = .ok (.iload_n 2, 1) := by decide +kernel
theorem dX8_catchers_46 : decode cX8_catchers 46 = .ok (.ifCond .eq 7, 3) := by decide +kernel
theorem dX8_catchers_49 : decode cX8_catchers 49 = .ok (.iconst 1, 1) := by decide +kernel
theorem dX8_catchers_50 : decode cX8_catchers 50 = .ok (.goto 4, 3) := by decide +kernel
theorem dX8_catchers_53 : decode cX8_catchers 53 = .ok (.iconst 0, 1) := by decide +kernel
theorem dX8_catchers_54 : decode cX8_catchers 54 = .ok (.iadd, 1) := by decide +kernel
theorem dX8_catchers_55 : decode cX8_catchers 55 = .ok (.iastore, 1) := by decide +kernel
theorem dX8_catchers_56 : decode cX8_catchers 56 = .ok (.iload_n 2, 1) := by decide +kernel
theorem dX8_catchers_57 : decode cX8_catchers 57 = .ok (.ifCond .eq 58, 3) := by decide +kernel
theorem dX8_catchers_60 : decode cX8_catchers 60 = .ok (.aload_n 0, 1) := by decide +kernel
theorem dX8_catchers_61 : decode cX8_catchers 61 = .ok (.getfield 68, 3) := by decide +kernel
theorem dX8_catchers_64 : decode cX8_catchers 64 = .ok (.iload_n 1, 1) := by decide +kernel
theorem dX8_catchers_65 : decode cX8_catchers 65 = .ok (.iaload, 1) := by decide +kernel
theorem dX8_catchers_66 : decode cX8_catchers 66 = .ok (.aload_n 0, 1) := by decide +kernel
theorem dX8_catchers_67 : decode cX8_catchers 67 = .ok (.getfield 65, 3) := by decide +kernel
theorem dX8_catchers_70 : decode cX8_catchers 70 = .ok (.iload_n 1, 1) := by decide +kernel
theorem dX8_catchers_71 : decode cX8_catchers 71 = .ok (.iaload, 1) := by decide +kernel
theorem dX8_catchers_72 : decode cX8_catchers 72 = .ok (.irem, 1) := by decide +kernel
theorem dX8_catchers_73 : decode cX8_catchers 73 = .ok (.ifCond .ne 42, 3) := by decide +kernel
theorem dX8_catchers_76 : decode cX8_catchers 76 = .ok (.aload_n 0, 1) := by decide +kernel
theorem dX8_catchers_77 : decode cX8_catchers 77 = .ok (.getfield 77, 3) := by decide +kernel
theorem dX8_catchers_80 : decode cX8_catchers 80 = .ok (.iload_n 1, 1) := by decide +kernel
theorem dX8_catchers_81 : decode cX8_catchers 81 = .ok (.dup2, 1) := by decide +kernel
theorem dX8_catchers_82 : decode cX8_catchers 82 = .ok (.iaload, 1) := by decide +kernel
theorem dX8_catchers_83 : decode cX8_catchers 83 = .ok (.aload_n 0, 1) := by decide +kernel
theorem dX8_catchers_84 : decode cX8_catchers 84 = .ok (.getfield 74, 3) := by decide +kernel
theorem dX8_catchers_87 : decode cX8_catchers 87 = .ok (.iload_n 1, 1) := by decide +kernel
theorem dX8_catchers_88 : decode cX8_catchers 88 = .ok (.iaload, 1) := by decide +kernel
theorem dX8_catchers_89 : decode cX8_catchers 89 = .ok (.iadd, 1) := by decide +kernel
theorem dX8_catchers_90 : decode cX8_catchers 90 = .ok (.iastore, 1) := by decide +kernel
theorem dX8_catchers_91 : decode cX8_catchers 91 = .ok (.aload_n 0, 1) := by decide +kernel
theorem dX8_catchers_92 : decode cX8_catchers 92 = .ok (.getfield 71, 3) := by decide +kernel
theorem dX8_catchers_95 : decode cX8_catchers 95 = .ok (.iload_n 1, 1) := by decide +kernel
theorem dX8_catchers_96 : decode cX8_catchers 96 = .ok (.aload_n 0, 1) := by decide +kernel
theorem dX8_catchers_97 : decode cX8_catchers 97 = .ok (.getfield 22, 3) := by decide +kernel
theorem dX8_catchers_100 : decode cX8_catchers 100 = .ok (.aload_n 0, 1) := by decide +kernel
theorem dX8_catchers_101 : decode cX8_catchers 101 = .ok (.getfield 59, 3) := by decide +kernel
theorem dX8_catchers_104 : decode cX8_catchers 104 = .ok (.iload_n 1, 1) := by decide +kernel
theorem dX8_catchers_105 : decode cX8_catchers 105 = .ok (.iaload, 1) := by decide +kernel
theorem dX8_catchers_106 : decode cX8_catchers 106 = .ok (.iaload, 1) := by decide +kernel
theorem dX8_catchers_107 : decode cX8_catchers 107 = .ok (.iastore, 1) := by decide +kernel
theorem dX8_catchers_108 : decode cX8_catchers 108 = .ok (.aload_n 0, 1) := by decide +kernel
theorem dX8_catchers_109 : decode cX8_catchers 109 = .ok (.getfield 74, 3) := by decide +kernel
theorem dX8_catchers_112 : decode cX8_catchers 112 = .ok (.iload_n 1, 1) := by decide +kernel
theorem dX8_catchers_113 : decode cX8_catchers 113 = .ok (.iconst 1, 1) := by decide +kernel
theorem dX8_catchers_114 : decode cX8_catchers 114 = .ok (.iastore, 1) := by decide +kernel
theorem dX8_catchers_115 : decode cX8_catchers 115 = .ok (.iinc 1 1, 3) := by decide +kernel
theorem dX8_catchers_118 : decode cX8_catchers 118 = .ok (.goto (-116), 3) := by decide +kernel
theorem dX8_catchers_121 : decode cX8_catchers 121 = .ok (.return_, 1) := by decide +kernel
set_option maxRecDepth 20000 in
theorem ggX8_oneTick_X8_inputs : GoodIn wsX8_oneTick wsX8_inputs := goodIn_r _ [11, 12, 13, 14, 15, 16, 119, 120, 121, 122, 123, 124, 125, 126, 127, 128, 129, 130, 131, 132, 133, 134, 135, 136, 137, 138, 139, 140, 141, 142, 143, 144, 145, 146, 147, 148, 149, 150, 151, 152, 153, 154, 155, 156, 157, 158, 159, 160, 161, 162, 163] (by decide +kernel) (by decide +kernel)
set_option maxRecDepth 20000 in
theorem gX8_oneTick_X8_inputs : GoodIn wsX8_oneTick (wsV RX8 162 RX8 yX8_inputs wsX8_inputs) := goodIn_app (goodIn_of _ (by decide +kernel)) ggX8_oneTick_X8_inputs
set_option maxRecDepth 20000 in
theorem ggX8_oneTick_X8_counters : GoodIn wsX8_oneTick wsX8_counters := goodIn_r _ [20, 21, 22, 23, 24, 25, 26, 27, 10, 28, 29, 12, 30, 31, 32, 33, 34, 35, 36, 37, 38, 1, 39, 40, 41, 42, 43, 44, 45, 46, 47, 48, 49, 50, 51, 52, 53, 54, 55, 56, 57, 58, 119, 120, 121, 122, 123, 124, 125, 126, 127, 128, 129, 130, 131, 132, 133, 134, 135, 136, 137, 138, 139, 140, 141, 142, 143, 144, 145, 146, 147, 148, 149, 150, 151, 152, 153, 154, 155, 156, 157, 158, 159, 160, 161, 162, 163] (by decide +kernel) (by decide +kernel)
set_option maxRecDepth 20000 in
theorem gX8_oneTick_X8_counters : GoodIn wsX8_oneTick (wsV RX8 165 RX8 yX8_counters wsX8_counters) := goodIn_app (goodIn_of _ (by decide +kernel)) ggX8_oneTick_X8_counters
set_option maxRecDepth 20000 in
theorem ggX8_oneTick_X8_catchers : GoodIn wsX8_oneTick wsX8_catchers := goodIn_r _ [62, 12, 63, 64, 65, 66, 67, 68, 1, 69, 119, 120, 121, 122, 123, 124, 125, 126, 127, 128, 129, 130, 131, 132, 133, 134, 135, 136, 137, 138, 139, 140, 141, 142, 143, 144, 145, 146, 147, 148, 149, 150, 151, 152, 153, 154, 155, 156, 157, 158, 159, 160, 161, 162, 163] (by decide +kernel) (by decide +kernel)
set_option maxRecDepth 20000 in
theorem gX8_oneTick_X8_catchers : GoodIn wsX8_oneTick (wsV RX8 168 RX8 yX8_catchers wsX8_catchers) := goodIn_app (goodIn_of _ (by decide +kernel)) ggX8_oneTick_X8_catchers
set_option maxRecDepth 20000 in
theorem ggX8_oneTick_X8_channels : GoodIn wsX8_oneTick wsX8_channels := goodIn_r _ [73, 74, 75, 76, 77, 78, 10, 79, 80, 21, 1, 81, 82, 119, 120, 121, 122, 123, 124, 125, 126, 127, 128, 129, 130, 131, 132, 133, 134, 135, 136, 137, 138, 139, 140, 141, 142, 143, 144, 145, 146, 147, 148, 149, 150, 151, 152, 153, 154, 155, 156, 157, 158, 159, 160, 161, 162, 163] (by decide +kernel) (by decide +kernel)
set_option maxRecDepth 20000 in
theorem gX8_oneTick_X8_channels : GoodIn wsX8_oneTick (wsV RX8 171 RX8 yX8_channels wsX8_channels) := goodIn_app (goodIn_of _ (by decide +kernel)) ggX8_oneTick_X8_channels
set_option maxRecDepth 20000 in
theorem ggX8_oneTick_X8_sampleOf : GoodIn wsX8_oneTick wsX8_sampleOf := goodIn_r _ [86, 87, 88, 89, 10, 90, 91, 92, 93, 119, 120, 121, 122, 123, 124, 125, 126, 127, 128, 129, 130, 131, 132, 133, 134, 135, 136, 137, 138, 139, 140, 141, 142, 143, 144, 145, 146, 147, 148, 149, 150, 151, 152, 153, 154, 155, 156, 157, 158, 159, 160, 161, 162, 163] (by decide +kernel) (by decide +kernel)
set_option maxRecDepth 20000 in
theorem gX8_oneTick_X8_sampleOf : GoodIn wsX8_oneTick (wsV RX8 180 RX8 yX8_sampleOf wsX8_sampleOf) := goodIn_app (goodIn_of _ (by decide +kernel)) ggX8_oneTick_X8_sampleOf
set_option maxRecDepth 20000 in
theorem ggX8_oneTick_X8_pins : GoodIn wsX8_oneTick wsX8_pins := goodIn_r _ [97, 98, 99, 100, 101, 10, 102, 103, 104, 105, 106, 107, 108, 109, 82, 75, 74, 110, 111, 112, 113, 114, 115, 116, 117, 118, 3, 119, 120, 121, 122, 123, 124, 125, 126, 127, 128, 129, 130, 131, 132, 133, 134, 135, 136, 137, 138, 139, 140, 141, 142, 143, 144, 145, 146, 147, 148, 149, 150, 151, 152, 153, 154, 155, 156, 157, 158, 159, 160, 161, 162, 163] (by decide +kernel) (by decide +kernel)
set_option maxRecDepth 20000 in
theorem gX8_oneTick_X8_pins : GoodIn wsX8_oneTick (wsV RX8 184 RX8 yX8_pins wsX8_pins) := goodIn_app (goodIn_of _ (by decide +kernel)) ggX8_oneTick_X8_pins
theorem dX8_oneTick_0 : decode cX8_oneTick 0 = .ok (.aload_n 0, 1) := by decide +kernel
theorem dX8_oneTick_1 : decode cX8_oneTick 1 = .ok (.getfield 22, 3) := by decide +kernel
theorem dX8_oneTick_4 : decode cX8_oneTick 4 = .ok (.aload_n 0, 1) := by decide +kernel
theorem dX8_oneTick_5 : decode cX8_oneTick 5 = .ok (.getfield 156, 3) := by decide +kernel
theorem dX8_oneTick_8 : decode cX8_oneTick 8 = .ok (.iaload, 1) := by decide +kernel
theorem dX8_oneTick_9 : decode cX8_oneTick 9 = .ok (.istore_n 1, 1) := by decide +kernel
theorem dX8_oneTick_10 : decode cX8_oneTick 10 = .ok (.aload_n 0, 1) := by decide +kernel
theorem dX8_oneTick_11 : decode cX8_oneTick 11 = .ok (.dup, 1) := by decide +kernel
theorem dX8_oneTick_12 : decode cX8_oneTick 12 = .ok (.getfield 159, 3) := by decide +kernel
theorem dX8_oneTick_15 : decode cX8_oneTick 15 = .ok (.iconst 1, 1) := by decide +kernel
theorem dX8_oneTick_16 : decode cX8_oneTick 16 = .ok (.iadd, 1) := by decide +kernel
theorem dX8_oneTick_17 : decode cX8_oneTick 17 = .ok (.putfield 159, 3) := by decide +kernel
theorem dX8_oneTick_20 : decode cX8_oneTick 20 = .ok (.aload_n 0, 1) := by decide +kernel
theorem dX8_oneTick_21 : decode cX8_oneTick 21 = .ok (.invokevirtual 162, 3) := by decide +kernel
theorem dX8_oneTick_24 : decode cX8_oneTick 24 = .ok (.aload_n 0, 1) := by decide +kernel
theorem dX8_oneTick_25 : decode cX8_oneTick 25 = .ok (.invokevirtual 165, 3) := by decide +kernel
theorem dX8_oneTick_28 : decode cX8_oneTick 28 = .ok (.aload_n 0, 1) := by decide +kernel
theorem dX8_oneTick_29 : decode cX8_oneTick 29 = .ok (.invokevirtual 168, 3) := by decide +kernel
theorem dX8_oneTick_32 : decode cX8_oneTick 32 = .ok (.aload_n 0, 1) := by decide +kernel
theorem dX8_oneTick_33 : decode cX8_oneTick 33 = .ok (.invokevirtual 171, 3) := by decide +kernel
theorem dX8_oneTick_36 : decode cX8_oneTick 36 = .ok (.aload_n 0, 1) := by decide +kernel
theorem dX8_oneTick_37 : decode cX8_oneTick 37 = .ok (.getfield 159, 3) := by decide +kernel
theorem dX8_oneTick_40 : decode cX8_oneTick 40 = .ok (.aload_n 0, 1) := by decide +kernel
theorem dX8_oneTick_41 : decode cX8_oneTick 41 = .ok (.getfield 122, 3) := by decide +kernel
theorem dX8_oneTick_44 : decode cX8_oneTick 44 = .ok (.irem, 1) := by decide +kernel
theorem dX8_oneTick_45 : decode cX8_oneTick 45 = .ok (.ifCond .ne 29, 3) := by decide +kernel
theorem dX8_oneTick_48 : decode cX8_oneTick 48 = .ok (.aload_n 0, 1) := by decide +kernel
theorem dX8_oneTick_49 : decode cX8_oneTick 49 = .ok (.aload_n 0, 1) := by decide +kernel
theorem dX8_oneTick_50 : decode cX8_oneTick 50 = .ok (.getfield 174, 3) := by decide +kernel
theorem dX8_oneTick_53 : decode cX8_oneTick 53 = .ok (.putfield 177, 3) := by decide +kernel
theorem dX8_oneTick_56 : decode cX8_oneTick 56 = .ok (.aload_n 0, 1) := by decide +kernel
theorem dX8_oneTick_57 : decode cX8_oneTick 57 = .ok (.aload_n 0, 1) := by decide +kernel
theorem dX8_oneTick_58 : decode cX8_oneTick 58 = .ok (.iload_n 1, 1) := by decide +kernel
theorem dX8_oneTick_59 : decode cX8_oneTick 59 = .ok (.aload_n 0, 1) := by decide +kernel
theorem dX8_oneTick_60 : decode cX8_oneTick 60 = .ok (.getfield 22, 3) := by decide +kernel
theorem dX8_oneTick_63 : decode cX8_oneTick 63 = .ok (.aload_n 0, 1) := by decide +kernel
theorem dX8_oneTick_64 : decode cX8_oneTick 64 = .ok (.getfield 156, 3) := by decide +kernel
theorem dX8_oneTick_67 : decode cX8_oneTick 67 = .ok (.iaload, 1) := by decide +kernel
theorem dX8_oneTick_68 : decode cX8_oneTick 68 = .ok (.invokevirtual 180, 3) := by decide +kernel
theorem dX8_oneTick_71 : decode cX8_oneTick 71 = .ok (.putfield 174, 3) := by decide +kernel
theorem dX8_oneTick_74 : decode cX8_oneTick 74 = .ok (.aload_n 0, 1) := by decide +kernel
theorem dX8_oneTick_75 : decode cX8_oneTick 75 = .ok (.invokevirtual 184, 3) := by decide +kernel
theorem dX8_oneTick_78 : decode cX8_oneTick 78 = .ok (.return_, 1) := by decide +kernel
set_option maxRecDepth 20000 in
theorem ggX8_ticks_X8_within : GoodIn wsX8_ticks wsX8_within := goodIn_r _ [5] (by decide +kernel) (by decide +kernel)
set_option maxRecDepth 20000 in
theorem gX8_ticks_X8_within : GoodIn wsX8_ticks (va_wsS RX8 126 yX8_within wsX8_within) := goodIn_app (goodIn_of _ (by decide +kernel)) ggX8_ticks_X8_within
set_option maxRecDepth 20000 in
theorem ggX8_ticks_X8_oneTick : GoodIn wsX8_ticks wsX8_oneTick := goodIn_r _ [9, 10, 11, 1, 12, 13, 14, 15, 16, 17, 4, 18, 19, 20, 21, 22, 23, 24, 25, 26, 27, 28, 29, 30, 31, 32, 33, 34, 35, 36, 37, 38, 39, 40, 41, 42, 43, 44, 45, 46, 47, 48, 49, 50, 51, 52, 53, 54, 55, 56, 57, 58, 59, 60, 61, 62, 63, 64, 65, 66, 67, 68, 69, 70, 71, 72, 73, 74, 75, 76, 77, 78, 79, 80, 81, 82, 83, 84, 85, 86, 87, 88, 89, 90, 91, 92, 93, 94, 95, 96, 97, 98, 99, 100, 101, 102, 103, 104, 105, 106, 107, 108, 109, 110, 111, 112, 113, 114, 115, 116, 117, 118, 119, 120, 121, 122, 123, 124, 125, 126, 127, 128, 129, 130, 131, 132, 133, 134, 135, 136, 137, 138, 139, 140, 141, 142, 143, 144, 145, 146, 147, 148, 149, 150, 151, 152, 153, 154, 155, 156, 157, 158, 159, 160, 161, 162, 163, 164, 165, 166, 167, 168, 169, 170] (by decide +kernel) (by decide +kernel)
set_option maxRecDepth 20000 in
theorem gX8_ticks_X8_oneTick : GoodIn wsX8_ticks (wsV RX8 187 RX8 yX8_oneTick wsX8_oneTick) := goodIn_app (goodIn_of _ (by decide +kernel)) ggX8_ticks_X8_oneTick
theorem dX8_ticks_0 : decode cX8_ticks 0 = .ok (.iload_n 1, 1) := by decide +kernel
theorem dX8_ticks_1 : decode cX8_ticks 1 = .ok (.iconst 0, 1) := by decide +kernel
theorem dX8_ticks_2 : decode cX8_ticks 2 = .ok (.sipush 400, 3) := by decide +kernel
theorem dX8_ticks_5 : decode cX8_ticks 5 = .ok (.invokestatic 126, 3) := by decide +kernel
theorem dX8_ticks_8 : decode cX8_ticks 8 = .ok (.ifCond .ne 6, 3) := by decide +kernel
theorem dX8_ticks_11 : decode cX8_ticks 11 = .ok (.bipush (-2), 2) := by decide +kernel
theorem dX8_ticks_13 : decode cX8_ticks 13 = .ok (.ireturn, 1) := by decide +kernel
theorem dX8_ticks_14 : decode cX8_ticks 14 = .ok (.iconst 0, 1) := by decide +kernel
theorem dX8_ticks_15 : decode cX8_ticks 15 = .ok (.istore_n 2, 1) := by decide +kernel
theorem dX8_ticks_16 : decode cX8_ticks 16 = .ok (.iload_n 2, 1) := by decide +kernel
theorem dX8_ticks_17 : decode cX8_ticks 17 = .ok (.iload_n 1, 1) := by decide +kernel
theorem dX8_ticks_18 : decode cX8_ticks 18 = .ok (.if_icmp .ge 13, 3) := by decide +kernel
theorem dX8_ticks_21 : decode cX8_ticks 21 = .ok (.aload_n 0, 1) := by decide +kernel
theorem dX8_ticks_22 : decode cX8_ticks 22 = .ok (.invokevirtual 187, 3) := by decide +kernel
theorem dX8_ticks_25 : decode cX8_ticks 25 = .ok (.iinc 2 1, 3) := by decide +kernel
theorem dX8_ticks_28 : decode cX8_ticks 28 = .ok (.goto (-12), 3) := by decide +kernel
theorem dX8_ticks_31 : decode cX8_ticks 31 = .ok (.aload_n 0, 1) := by decide +kernel
theorem dX8_ticks_32 : decode cX8_ticks 32 = .ok (.getfield 159, 3) := by decide +kernel
theorem dX8_ticks_35 : decode cX8_ticks 35 = .ok (.ireturn, 1) := by decide +kernel
set_option maxRecDepth 20000 in
theorem ggX8_channel_X8_isOne : GoodIn wsX8_channel wsX8_isOne := goodIn_r _ [9, 10, 11, 8, 12] (by decide +kernel) (by decide +kernel)
set_option maxRecDepth 20000 in
theorem gX8_channel_X8_isOne : GoodIn wsX8_channel (va_wsS RX8 130 yX8_isOne wsX8_isOne) := goodIn_app (goodIn_of _ (by decide +kernel)) ggX8_channel_X8_isOne
set_option maxRecDepth 20000 in
theorem ggX8_channel_X8_within : GoodIn wsX8_channel wsX8_within := goodIn_r _ [12] (by decide +kernel) (by decide +kernel)
set_option maxRecDepth 20000 in
theorem gX8_channel_X8_within : GoodIn wsX8_channel (va_wsS RX8 126 yX8_within wsX8_within) := goodIn_app (goodIn_of _ (by decide +kernel)) ggX8_channel_X8_within
set_option maxRecDepth 20000 in
theorem ggX8_channel_X8_pins : GoodIn wsX8_channel wsX8_pins := goodIn_r _ [16, 17, 18, 19, 20, 8, 21, 22, 23, 24, 25, 26, 27, 28, 2, 4, 5, 29, 30, 31, 32, 33, 34, 35, 36, 37, 38, 39, 40, 41, 42, 43, 44, 45, 46, 47, 48, 49, 50, 51, 52, 53, 54, 55, 56, 57, 58, 59, 60, 61, 62, 63, 64, 65, 66, 67, 68, 69, 70, 71, 72, 73, 74, 75, 76, 77, 78, 79, 80, 81, 82, 83] (by decide +kernel) (by decide +kernel)
set_option maxRecDepth 20000 in
theorem gX8_channel_X8_pins : GoodIn wsX8_channel (wsV RX8 184 RX8 yX8_pins wsX8_pins) := goodIn_app (goodIn_of _ (by decide +kernel)) ggX8_channel_X8_pins
theorem dX8_channel_0 : decode cX8_channel 0 = .ok (.iload_n 1, 1) := by decide +kernel
theorem dX8_channel_1 : decode cX8_channel 1 = .ok (.invokestatic 130, 3) := by decide +kernel
theorem dX8_channel_4 : decode cX8_channel 4 = .ok (.ifCond .eq 10, 3) := by decide +kernel
theorem dX8_channel_7 : decode cX8_channel 7 = .ok (.iload_n 2, 1) := by decide +kernel
theorem dX8_channel_8 : decode cX8_channel 8 = .ok (.invokestatic 130, 3) := by decide +kernel
theorem dX8_channel_11 : decode cX8_channel 11 = .ok (.ifCond .ne 5, 3) := by decide +kernel
theorem dX8_channel_14 : decode cX8_channel 14 = .ok (.iconst (-1), 1) := by decide +kernel
theorem dX8_channel_15 : decode cX8_channel 15 = .ok (.ireturn, 1) := by decide +kernel
theorem dX8_channel_16 : decode cX8_channel 16 = .ok (.iload_n 3, 1) := by decide +kernel
theorem dX8_channel_17 : decode cX8_channel 17 = .ok (.iconst 0, 1) := by decide +kernel
theorem dX8_channel_18 : decode cX8_channel 18 = .ok (.iconst 4, 1) := by decide +kernel
theorem dX8_channel_19 : decode cX8_channel 19 = .ok (.invokestatic 126, 3) := by decide +kernel
theorem dX8_channel_22 : decode cX8_channel 22 = .ok (.ifCond .eq 15, 3) := by decide +kernel
theorem dX8_channel_25 : decode cX8_channel 25 = .ok (.iload 4, 2) := by decide +kernel
theorem dX8_channel_27 : decode cX8_channel 27 = .ok (.iconst 0, 1) := by decide +kernel
theorem dX8_channel_28 : decode cX8_channel 28 = .ok (.sipush 9999, 3) := by decide +kernel
theorem dX8_channel_31 : decode cX8_channel 31 = .ok (.invokestatic 126, 3) := by decide +kernel
theorem dX8_channel_34 : decode cX8_channel 34 = .ok (.ifCond .ne 6, 3) := by decide +kernel
theorem dX8_channel_37 : decode cX8_channel 37 = .ok (.bipush (-2), 2) := by decide +kernel
theorem dX8_channel_39 : decode cX8_channel 39 = .ok (.ireturn, 1) := by decide +kernel
theorem dX8_channel_40 : decode cX8_channel 40 = .ok (.aload_n 0, 1) := by decide +kernel
theorem dX8_channel_41 : decode cX8_channel 41 = .ok (.getfield 80, 3) := by decide +kernel
theorem dX8_channel_44 : decode cX8_channel 44 = .ok (.iload_n 1, 1) := by decide +kernel
theorem dX8_channel_45 : decode cX8_channel 45 = .ok (.iload_n 2, 1) := by decide +kernel
theorem dX8_channel_46 : decode cX8_channel 46 = .ok (.iastore, 1) := by decide +kernel
theorem dX8_channel_47 : decode cX8_channel 47 = .ok (.aload_n 0, 1) := by decide +kernel
theorem dX8_channel_48 : decode cX8_channel 48 = .ok (.getfield 83, 3) := by decide +kernel
theorem dX8_channel_51 : decode cX8_channel 51 = .ok (.iload_n 1, 1) := by decide +kernel
theorem dX8_channel_52 : decode cX8_channel 52 = .ok (.iload_n 3, 1) := by decide +kernel
theorem dX8_channel_53 : decode cX8_channel 53 = .ok (.iastore, 1) := by decide +kernel
theorem dX8_channel_54 : decode cX8_channel 54 = .ok (.aload_n 0, 1) := by decide +kernel
theorem dX8_channel_55 : decode cX8_channel 55 = .ok (.getfield 86, 3) := by decide +kernel
theorem dX8_channel_58 : decode cX8_channel 58 = .ok (.iload_n 1, 1) := by decide +kernel
theorem dX8_channel_59 : decode cX8_channel 59 = .ok (.iload 4, 2) := by decide +kernel
theorem dX8_channel_61 : decode cX8_channel 61 = .ok (.iastore, 1) := by decide +kernel
theorem dX8_channel_62 : decode cX8_channel 62 = .ok (.aload_n 0, 1) := by decide +kernel
theorem dX8_channel_63 : decode cX8_channel 63 = .ok (.getfield 89, 3) := by decide +kernel
theorem dX8_channel_66 : decode cX8_channel 66 = .ok (.iload_n 1, 1) := by decide +kernel
theorem dX8_channel_67 : decode cX8_channel 67 = .ok (.iconst 0, 1) := by decide +kernel
theorem dX8_channel_68 : decode cX8_channel 68 = .ok (.iastore, 1) := by decide +kernel
theorem dX8_channel_69 : decode cX8_channel 69 = .ok (.aload_n 0, 1) := by decide +kernel
theorem dX8_channel_70 : decode cX8_channel 70 = .ok (.getfield 92, 3) := by decide +kernel
theorem dX8_channel_73 : decode cX8_channel 73 = .ok (.iload_n 1, 1) := by decide +kernel
theorem dX8_channel_74 : decode cX8_channel 74 = .ok (.iconst 0, 1) := by decide +kernel
theorem dX8_channel_75 : decode cX8_channel 75 = .ok (.iastore, 1) := by decide +kernel
theorem dX8_channel_76 : decode cX8_channel 76 = .ok (.aload_n 0, 1) := by decide +kernel
theorem dX8_channel_77 : decode cX8_channel 77 = .ok (.invokevirtual 184, 3) := by decide +kernel
theorem dX8_channel_80 : decode cX8_channel 80 = .ok (.iconst 1, 1) := by decide +kernel
theorem dX8_channel_81 : decode cX8_channel 81 = .ok (.ireturn, 1) := by decide +kernel
set_option maxRecDepth 20000 in
theorem ggX8_outputs_X8_isOne : GoodIn wsX8_outputs wsX8_isOne := goodIn_r _ [7, 8, 9, 6, 10] (by decide +kernel) (by decide +kernel)
set_option maxRecDepth 20000 in
theorem gX8_outputs_X8_isOne : GoodIn wsX8_outputs (va_wsS RX8 130 yX8_isOne wsX8_isOne) := goodIn_app (goodIn_of _ (by decide +kernel)) ggX8_outputs_X8_isOne
set_option maxRecDepth 20000 in
theorem ggX8_outputs_X8_within : GoodIn wsX8_outputs wsX8_within := goodIn_r _ [10] (by decide +kernel) (by decide +kernel)
set_option maxRecDepth 20000 in
theorem gX8_outputs_X8_within : GoodIn wsX8_outputs (va_wsS RX8 126 yX8_within wsX8_within) := goodIn_app (goodIn_of _ (by decide +kernel)) ggX8_outputs_X8_within
set_option maxRecDepth 20000 in
theorem ggX8_outputs_X8_pins : GoodIn wsX8_outputs wsX8_pins := goodIn_r _ [14, 15, 16, 17, 18, 6, 19, 20, 3, 2, 21, 22, 23, 24, 25, 26, 27, 1, 28, 29, 30, 31, 32, 33, 34, 35, 36, 37, 38, 39, 40, 41, 42, 43, 44, 45, 46, 47, 48, 49, 50, 51, 52, 53, 54, 55, 56, 57, 58, 59, 60, 61, 62, 63, 64, 65, 66, 67, 68, 69, 70, 71, 72, 73, 74, 75, 76, 77, 78, 79, 80, 81] (by decide +kernel) (by decide +kernel)
set_option maxRecDepth 20000 in
theorem gX8_outputs_X8_pins : GoodIn wsX8_outputs (wsV RX8 184 RX8 yX8_pins wsX8_pins) := goodIn_app (goodIn_of _ (by decide +kernel)) ggX8_outputs_X8_pins
theorem dX8_outputs_0 : decode cX8_outputs 0 = .ok (.iload_n 1, 1) := by decide +kernel
theorem dX8_outputs_1 : decode cX8_outputs 1 = .ok (.invokestatic 130, 3) := by decide +kernel
theorem dX8_outputs_4 : decode cX8_outputs 4 = .ok (.ifCond .ne 5, 3) := by decide +kernel
theorem dX8_outputs_7 : decode cX8_outputs 7 = .ok (.iconst (-1), 1) := by decide +kernel
theorem dX8_outputs_8 : decode cX8_outputs 8 = .ok (.ireturn, 1) := by decide +kernel
theorem dX8_outputs_9 : decode cX8_outputs 9 = .ok (.iload_n 2, 1) := by decide +kernel
theorem dX8_outputs_10 : decode cX8_outputs 10 = .ok (.iconst 0, 1) := by decide +kernel
theorem dX8_outputs_11 : decode cX8_outputs 11 = .ok (.bipush 20, 2) := by decide +kernel
theorem dX8_outputs_13 : decode cX8_outputs 13 = .ok (.invokestatic 126, 3) := by decide +kernel
theorem dX8_outputs_16 : decode cX8_outputs 16 = .ok (.ifCond .eq 22, 3) := by decide +kernel
theorem dX8_outputs_19 : decode cX8_outputs 19 = .ok (.iload_n 3, 1) := by decide +kernel
theorem dX8_outputs_20 : decode cX8_outputs 20 = .ok (.iconst 0, 1) := by decide +kernel
theorem dX8_outputs_21 : decode cX8_outputs 21 = .ok (.iconst 3, 1) := by decide +kernel
theorem dX8_outputs_22 : decode cX8_outputs 22 = .ok (.invokestatic 126, 3) := by decide +kernel
theorem dX8_outputs_25 : decode cX8_outputs 25 = .ok (.ifCond .eq 13, 3) := by decide +kernel
theorem dX8_outputs_28 : decode cX8_outputs 28 = .ok (.iload 4, 2) := by decide +kernel
theorem dX8_outputs_30 : decode cX8_outputs 30 = .ok (.iconst 0, 1) := by decide +kernel
theorem dX8_outputs_31 : decode cX8_outputs 31 = .ok (.iconst 3, 1) := by decide +kernel
theorem dX8_outputs_32 : decode cX8_outputs 32 = .ok (.invokestatic 126, 3) := by decide +kernel
theorem dX8_outputs_35 : decode cX8_outputs 35 = .ok (.ifCond .ne 6, 3) := by decide +kernel
theorem dX8_outputs_38 : decode cX8_outputs 38 = .ok (.bipush (-2), 2) := by decide +kernel
theorem dX8_outputs_40 : decode cX8_outputs 40 = .ok (.ireturn, 1) := by decide +kernel
theorem dX8_outputs_41 : decode cX8_outputs 41 = .ok (.aload_n 0, 1) := by decide +kernel
theorem dX8_outputs_42 : decode cX8_outputs 42 = .ok (.getfield 95, 3) := by decide +kernel
theorem dX8_outputs_45 : decode cX8_outputs 45 = .ok (.iload_n 1, 1) := by decide +kernel
theorem dX8_outputs_46 : decode cX8_outputs 46 = .ok (.iload_n 2, 1) := by decide +kernel
theorem dX8_outputs_47 : decode cX8_outputs 47 = .ok (.iastore, 1) := by decide +kernel
theorem dX8_outputs_48 : decode cX8_outputs 48 = .ok (.aload_n 0, 1) := by decide +kernel
theorem dX8_outputs_49 : decode cX8_outputs 49 = .ok (.getfield 98, 3) := by decide +kernel
theorem dX8_outputs_52 : decode cX8_outputs 52 = .ok (.iload_n 1, 1) := by decide +kernel
theorem dX8_outputs_53 : decode cX8_outputs 53 = .ok (.iload_n 3, 1) := by decide +kernel
theorem dX8_outputs_54 : decode cX8_outputs 54 = .ok (.iastore, 1) := by decide +kernel
theorem dX8_outputs_55 : decode cX8_outputs 55 = .ok (.aload_n 0, 1) := by decide +kernel
theorem dX8_outputs_56 : decode cX8_outputs 56 = .ok (.getfield 101, 3) := by decide +kernel
theorem dX8_outputs_59 : decode cX8_outputs 59 = .ok (.iload_n 1, 1) := by decide +kernel
theorem dX8_outputs_60 : decode cX8_outputs 60 = .ok (.iload 4, 2) := by decide +kernel
theorem dX8_outputs_62 : decode cX8_outputs 62 = .ok (.iastore, 1) := by decide +kernel
theorem dX8_outputs_63 : decode cX8_outputs 63 = .ok (.aload_n 0, 1) := by decide +kernel
theorem dX8_outputs_64 : decode cX8_outputs 64 = .ok (.invokevirtual 184, 3) := by decide +kernel
theorem dX8_outputs_67 : decode cX8_outputs 67 = .ok (.iconst 1, 1) := by decide +kernel
theorem dX8_outputs_68 : decode cX8_outputs 68 = .ok (.ireturn, 1) := by decide +kernel
theorem dX8_levelThen_0 : decode cX8_levelThen 0 = .ok (.aload_n 0, 1) := by decide +kernel
theorem dX8_levelThen_1 : decode cX8_levelThen 1 = .ok (.getfield 80, 3) := by decide +kernel
theorem dX8_levelThen_4 : decode cX8_levelThen 4 = .ok (.iload_n 1, 1) := by decide +kernel
theorem dX8_levelThen_5 : decode cX8_levelThen 5 = .ok (.iaload, 1) := by decide +kernel
theorem dX8_levelThen_6 : decode cX8_levelThen 6 = .ok (.istore_n 2, 1) := by decide +kernel
theorem dX8_levelThen_7 : decode cX8_levelThen 7 = .ok (.aload_n 0, 1) := by decide +kernel
theorem dX8_levelThen_8 : decode cX8_levelThen 8 = .ok (.getfield 37, 3) := by decide +kernel
theorem dX8_levelThen_11 : decode cX8_levelThen 11 = .ok (.iload_n 2, 1) := by decide +kernel
theorem dX8_levelThen_12 : decode cX8_levelThen 12 = .ok (.baload, 1) := by decide +kernel
theorem dX8_levelThen_13 : decode cX8_levelThen 13 = .ok (.ifCond .eq 22, 3) := by decide +kernel
theorem dX8_levelThen_16 : decode cX8_levelThen 16 = .ok (.aload_n 0, 1) := by decide +kernel
theorem dX8_levelThen_17 : decode cX8_levelThen 17 = .ok (.getfield 22, 3) := by decide +kernel
theorem dX8_levelThen_20 : decode cX8_levelThen 20 = .ok (.iload_n 2, 1) := by decide +kernel
theorem dX8_levelThen_21 : decode cX8_levelThen 21 = .ok (.iaload, 1) := by decide +kernel
theorem dX8_levelThen_22 : decode cX8_levelThen 22 = .ok (.aload_n 0, 1) := by decide +kernel
theorem dX8_levelThen_23 : decode cX8_levelThen 23 = .ok (.getfield 86, 3) := by decide +kernel
theorem dX8_levelThen_26 : decode cX8_levelThen 26 = .ok (.iload_n 1, 1) := by decide +kernel
theorem dX8_levelThen_27 : decode cX8_levelThen 27 = .ok (.iaload, 1) := by decide +kernel
theorem dX8_levelThen_28 : decode cX8_levelThen 28 = .ok (.if_icmp .ne 7, 3) := by decide +kernel
theorem dX8_levelThen_31 : decode cX8_levelThen 31 = .ok (.iconst 1, 1) := by decide +kernel
theorem dX8_levelThen_32 : decode cX8_levelThen 32 = .ok (.goto 4, 3) := by decide +kernel
theorem dX8_levelThen_35 : decode cX8_levelThen 35 = .ok (.iconst 0, 1) := by decide +kernel
theorem dX8_levelThen_36 : decode cX8_levelThen 36 = .ok (.istore_n 3, 1) := by decide +kernel
theorem dX8_levelThen_37 : decode cX8_levelThen 37 = .ok (.aload_n 0, 1) := by decide +kernel
theorem dX8_levelThen_38 : decode cX8_levelThen 38 = .ok (.getfield 83, 3) := by decide +kernel
theorem dX8_levelThen_41 : decode cX8_levelThen 41 = .ok (.iload_n 1, 1) := by decide +kernel
theorem dX8_levelThen_42 : decode cX8_levelThen 42 = .ok (.iaload, 1) := by decide +kernel
theorem dX8_levelThen_43 : decode cX8_levelThen 43 = .ok (.tableswitch 95 0 3 #[29, 31, 52, 73], 29) := by decide +kernel
theorem dX8_levelThen_72 : decode cX8_levelThen 72 = .ok (.iconst 0, 1) := by decide +kernel
theorem dX8_levelThen_73 : decode cX8_levelThen 73 = .ok (.ireturn, 1) := by decide +kernel
theorem dX8_levelThen_74 : decode cX8_levelThen 74 = .ok (.aload_n 0, 1) := by decide +kernel
theorem dX8_levelThen_75 : decode cX8_levelThen 75 = .ok (.getfield 22, 3) := by decide +kernel
theorem dX8_levelThen_78 : decode cX8_levelThen 78 = .ok (.iload_n 2, 1) := by decide +kernel
theorem dX8_levelThen_79 : decode cX8_levelThen 79 = .ok (.iaload, 1) := by decide +kernel
theorem dX8_levelThen_80 : decode cX8_levelThen 80 = .ok (.aload_n 0, 1) := by decide +kernel
theorem dX8_levelThen_81 : decode cX8_levelThen 81 = .ok (.getfield 86, 3) := by decide +kernel
theorem dX8_levelThen_84 : decode cX8_levelThen 84 = .ok (.iload_n 1, 1) := by decide +kernel
theorem dX8_levelThen_85 : decode cX8_levelThen 85 = .ok (.iaload, 1) := by decide +kernel
theorem dX8_levelThen_86 : decode cX8_levelThen 86 = .ok (.if_icmp .ge 7, 3) := by decide +kernel
theorem dX8_levelThen_89 : decode cX8_levelThen 89 = .ok (.iconst 1, 1) := by decide +kernel
theorem dX8_levelThen_90 : decode cX8_levelThen 90 = .ok (.goto 4, 3) := by decide +kernel
theorem dX8_levelThen_93 : decode cX8_levelThen 93 = .ok (.iconst 0, 1) := by decide +kernel
theorem dX8_levelThen_94 : decode cX8_levelThen 94 = .ok (.ireturn, 1) := by decide +kernel
theorem dX8_levelThen_95 : decode cX8_levelThen 95 = .ok (.aload_n 0, 1) := by decide +kernel
theorem dX8_levelThen_96 : decode cX8_levelThen 96 = .ok (.getfield 22, 3) := by decide +kernel
theorem dX8_levelThen_99 : decode cX8_levelThen 99 = .ok (.iload_n 2, 1) := by decide +kernel
theorem dX8_levelThen_100 : decode cX8_levelThen 100 = .ok (.iaload, 1) := by decide +kernel
theorem dX8_levelThen_101 : decode cX8_levelThen 101 = .ok (.aload_n 0, 1) := by decide +kernel
theorem dX8_levelThen_102 : decode cX8_levelThen 102 = .ok (.getfield 86, 3) := by decide +kernel
theorem dX8_levelThen_105 : decode cX8_levelThen 105 = .ok (.iload_n 1, 1) := by decide +kernel
theorem dX8_levelThen_106 : decode cX8_levelThen 106 = .ok (.iaload, 1) := by decide +kernel
theorem dX8_levelThen_107 : decode cX8_levelThen 107 = .ok (.if_icmp .ge 7, 3) := by decide +kernel
theorem dX8_levelThen_110 : decode cX8_levelThen 110 = .ok (.iconst 0, 1) := by decide +kernel
theorem dX8_levelThen_111 : decode cX8_levelThen 111 = .ok (.goto 4, 3) := by decide +kernel
theorem dX8_levelThen_114 : decode cX8_levelThen 114 = .ok (.iconst 1, 1) := by decide +kernel
theorem dX8_levelThen_115 : decode cX8_levelThen 115 = .ok (.ireturn, 1) := by decide +kernel
theorem dX8_levelThen_116 : decode cX8_levelThen 116 = .ok (.iload_n 3, 1) := by decide +kernel
theorem dX8_levelThen_117 : decode cX8_levelThen 117 = .ok (.ifCond .eq 14, 3) := by decide +kernel
theorem dX8_levelThen_120 : decode cX8_levelThen 120 = .ok (.iconst 1, 1) := by decide +kernel
theorem dX8_levelThen_121 : decode cX8_levelThen 121 = .ok (.aload_n 0, 1) := by decide +kernel
theorem dX8_levelThen_122 : decode cX8_levelThen 122 = .ok (.getfield 89, 3) := by decide +kernel
theorem dX8_levelThen_125 : decode cX8_levelThen 125 = .ok (.iload_n 1, 1) := by decide +kernel
theorem dX8_levelThen_126 : decode cX8_levelThen 126 = .ok (.iaload, 1) := by decide +kernel
theorem dX8_levelThen_127 : decode cX8_levelThen 127 = .ok (.isub, 1) := by decide +kernel
theorem dX8_levelThen_128 : decode cX8_levelThen 128 = .ok (.goto 9, 3) := by decide +kernel
theorem dX8_levelThen_131 : decode cX8_levelThen 131 = .ok (.aload_n 0, 1) := by decide +kernel
theorem dX8_levelThen_132 : decode cX8_levelThen 132 = .ok (.getfield 89, 3) := by decide +kernel
theorem dX8_levelThen_135 : decode cX8_levelThen 135 = .ok (.iload_n 1, 1) := by decide +kernel
theorem dX8_levelThen_136 : decode cX8_levelThen 136 = .ok (.iaload, 1) := by decide +kernel
theorem dX8_levelThen_137 : decode cX8_levelThen 137 = .ok (.ireturn, 1) := by decide +kernel
theorem dX8_levelThen_138 : decode cX8_levelThen 138 = .ok (.iload_n 3, 1) := by decide +kernel
theorem dX8_levelThen_139 : decode cX8_levelThen 139 = .ok (.ifCond .eq 7, 3) := by decide +kernel
theorem dX8_levelThen_142 : decode cX8_levelThen 142 = .ok (.iconst 1, 1) := by decide +kernel
theorem dX8_levelThen_143 : decode cX8_levelThen 143 = .ok (.goto 9, 3) := by decide +kernel
theorem dX8_levelThen_146 : decode cX8_levelThen 146 = .ok (.aload_n 0, 1) := by decide +kernel
theorem dX8_levelThen_147 : decode cX8_levelThen 147 = .ok (.getfield 89, 3) := by decide +kernel
theorem dX8_levelThen_150 : decode cX8_levelThen 150 = .ok (.iload_n 1, 1) := by decide +kernel
theorem dX8_levelThen_151 : decode cX8_levelThen 151 = .ok (.iaload, 1) := by decide +kernel
theorem dX8_levelThen_152 : decode cX8_levelThen 152 = .ok (.ireturn, 1) := by decide +kernel
set_option maxRecDepth 20000 in
theorem ggX8_channels_X8_levelThen : GoodIn wsX8_channels wsX8_levelThen := goodIn_r _ [7, 8, 9, 10, 11, 12, 2, 13, 14, 15, 16, 17, 18, 19, 20, 21, 22, 23, 24, 25, 26, 27, 28, 29, 30, 31, 32, 33, 34, 35, 36, 37, 38, 39, 40, 41, 42, 43, 44, 45, 46, 47, 48, 49, 50, 51, 52, 53, 54, 55, 56, 57] (by decide +kernel) (by decide +kernel)
set_option maxRecDepth 20000 in
theorem gX8_channels_X8_levelThen : GoodIn wsX8_channels (wsV RX8 190 RX8 yX8_levelThen wsX8_levelThen) := goodIn_app (goodIn_of _ (by decide +kernel)) ggX8_channels_X8_levelThen
theorem dX8_channels_0 : decode cX8_channels 0 = .ok (.iconst 0, 1) := by decide +kernel
theorem dX8_channels_1 : decode cX8_channels 1 = .ok (.istore_n 1, 1) := by decide +kernel
theorem dX8_channels_2 : decode cX8_channels 2 = .ok (.iload_n 1, 1) := by decide +kernel
theorem dX8_channels_3 : decode cX8_channels 3 = .ok (.iconst 4, 1) := by decide +kernel
theorem dX8_channels_4 : decode cX8_channels 4 = .ok (.if_icmp .ge 66, 3) := by decide +kernel
theorem dX8_channels_7 : decode cX8_channels 7 = .ok (.aload_n 0, 1) := by decide +kernel
theorem dX8_channels_8 : decode cX8_channels 8 = .ok (.iload_n 1, 1) := by decide +kernel
theorem dX8_channels_9 : decode cX8_channels 9 = .ok (.invokevirtual 190, 3) := by decide +kernel
theorem dX8_channels_12 : decode cX8_channels 12 = .ok (.istore_n 2, 1) := by decide +kernel
theorem dX8_channels_13 : decode cX8_channels 13 = .ok (.aload_n 0, 1) := by decide +kernel
theorem dX8_channels_14 : decode cX8_channels 14 = .ok (.getfield 92, 3) := by decide +kernel
theorem dX8_channels_17 : decode cX8_channels 17 = .ok (.iload_n 1, 1) := by decide +kernel
theorem dX8_channels_18 : decode cX8_channels 18 = .ok (.iload_n 2, 1) := by decide +kernel
theorem dX8_channels_19 : decode cX8_channels 19 = .ok (.aload_n 0, 1) := by decide +kernel
theorem dX8_channels_20 : decode cX8_channels 20 = .ok (.getfield 89, 3) := by decide +kernel
theorem dX8_channels_23 : decode cX8_channels 23 = .ok (.iload_n 1, 1) := by decide +kernel
theorem dX8_channels_24 : decode cX8_channels 24 = .ok (.iaload, 1) := by decide +kernel
theorem dX8_channels_25 : decode cX8_channels 25 = .ok (.if_icmp .eq 7, 3) := by decide +kernel
theorem dX8_channels_28 : decode cX8_channels 28 = .ok (.iconst 1, 1) := by decide +kernel
theorem dX8_channels_29 : decode cX8_channels 29 = .ok (.goto 27, 3) := by decide +kernel
theorem dX8_channels_32 : decode cX8_channels 32 = .ok (.aload_n 0, 1) := by decide +kernel
theorem dX8_channels_33 : decode cX8_channels 33 = .ok (.getfield 92, 3) := by decide +kernel
theorem dX8_channels_36 : decode cX8_channels 36 = .ok (.iload_n 1, 1) := by decide +kernel
theorem dX8_channels_37 : decode cX8_channels 37 = .ok (.iaload, 1) := by decide +kernel
theorem dX8_channels_38 : decode cX8_channels 38 = .ok (.bipush 99, 2) := by decide +kernel
theorem dX8_channels_40 : decode cX8_channels 40 = .ok (.if_icmp .ge 14, 3) := by decide +kernel
theorem dX8_channels_43 : decode cX8_channels 43 = .ok (.aload_n 0, 1) := by decide +kernel
theorem dX8_channels_44 : decode cX8_channels 44 = .ok (.getfield 92, 3) := by decide +kernel
theorem dX8_channels_47 : decode cX8_channels 47 = .ok (.iload_n 1, 1) := by decide +kernel
theorem dX8_channels_48 : decode cX8_channels 48 = .ok (.iaload, 1) := by decide +kernel
theorem dX8_channels_49 : decode cX8_channels 49 = .ok (.iconst 1, 1) := by decide +kernel
theorem dX8_channels_50 : decode cX8_channels 50 = .ok (.iadd, 1) := by decide +kernel
theorem dX8_channels_51 : decode cX8_channels 51 = .ok (.goto 5, 3) := by decide +kernel
theorem dX8_channels_54 : decode cX8_channels 54 = .ok (.bipush 99, 2) := by decide +kernel
theorem dX8_channels_56 : decode cX8_channels 56 = .ok (.iastore, 1) := by decide +kernel
theorem dX8_channels_57 : decode cX8_channels 57 = .ok (.aload_n 0, 1) := by decide +kernel
theorem dX8_channels_58 : decode cX8_channels 58 = .ok (.getfield 89, 3) := by decide +kernel
theorem dX8_channels_61 : decode cX8_channels 61 = .ok (.iload_n 1, 1) := by decide +kernel
theorem dX8_channels_62 : decode cX8_channels 62 = .ok (.iload_n 2, 1) := by decide +kernel
theorem dX8_channels_63 : decode cX8_channels 63 = .ok (.iastore, 1) := by decide +kernel
theorem dX8_channels_64 : decode cX8_channels 64 = .ok (.iinc 1 1, 3) := by decide +kernel
theorem dX8_channels_67 : decode cX8_channels 67 = .ok (.goto (-65), 3) := by decide +kernel
theorem dX8_channels_70 : decode cX8_channels 70 = .ok (.return_, 1) := by decide +kernel
theorem dX8_isOn_0 : decode cX8_isOn 0 = .ok (.aload_n 0, 1) := by decide +kernel
theorem dX8_isOn_1 : decode cX8_isOn 1 = .ok (.getfield 83, 3) := by decide +kernel
theorem dX8_isOn_4 : decode cX8_isOn 4 = .ok (.iload_n 1, 1) := by decide +kernel
theorem dX8_isOn_5 : decode cX8_isOn 5 = .ok (.iaload, 1) := by decide +kernel
theorem dX8_isOn_6 : decode cX8_isOn 6 = .ok (.ifCond .eq 41, 3) := by decide +kernel
theorem dX8_isOn_9 : decode cX8_isOn 9 = .ok (.aload_n 0, 1) := by decide +kernel
theorem dX8_isOn_10 : decode cX8_isOn 10 = .ok (.getfield 194, 3) := by decide +kernel
theorem dX8_isOn_13 : decode cX8_isOn 13 = .ok (.ifCond .ne 34, 3) := by decide +kernel
theorem dX8_isOn_16 : decode cX8_isOn 16 = .ok (.aload_n 0, 1) := by decide +kernel
theorem dX8_isOn_17 : decode cX8_isOn 17 = .ok (.getfield 89, 3) := by decide +kernel
theorem dX8_isOn_20 : decode cX8_isOn 20 = .ok (.iload_n 1, 1) := by decide +kernel
theorem dX8_isOn_21 : decode cX8_isOn 21 = .ok (.iaload, 1) := by decide +kernel
theorem dX8_isOn_22 : decode cX8_isOn 22 = .ok (.iconst 1, 1) := by decide +kernel
theorem dX8_isOn_23 : decode cX8_isOn 23 = .ok (.iload_n 2, 1) := by decide +kernel
theorem dX8_isOn_24 : decode cX8_isOn 24 = .ok (.isub, 1) := by decide +kernel
theorem dX8_isOn_25 : decode cX8_isOn 25 = .ok (.if_icmp .ne 22, 3) := by decide +kernel
theorem dX8_isOn_28 : decode cX8_isOn 28 = .ok (.aload_n 0, 1) := by decide +kernel
theorem dX8_isOn_29 : decode cX8_isOn 29 = .ok (.getfield 92, 3) := by decide +kernel
theorem dX8_isOn_32 : decode cX8_isOn 32 = .ok (.iload_n 1, 1) := by decide +kernel
theorem dX8_isOn_33 : decode cX8_isOn 33 = .ok (.iaload, 1) := by decide +kernel
theorem dX8_isOn_34 : decode cX8_isOn 34 = .ok (.aload_n 0, 1) := by decide +kernel
theorem dX8_isOn_35 : decode cX8_isOn 35 = .ok (.getfield 95, 3) := by decide +kernel
theorem dX8_isOn_38 : decode cX8_isOn 38 = .ok (.iload_n 1, 1) := by decide +kernel
theorem dX8_isOn_39 : decode cX8_isOn 39 = .ok (.iaload, 1) := by decide +kernel
theorem dX8_isOn_40 : decode cX8_isOn 40 = .ok (.if_icmp .le 7, 3) := by decide +kernel
theorem dX8_isOn_43 : decode cX8_isOn 43 = .ok (.iconst 1, 1) := by decide +kernel
theorem dX8_isOn_44 : decode cX8_isOn 44 = .ok (.goto 4, 3) := by decide +kernel
theorem dX8_isOn_47 : decode cX8_isOn 47 = .ok (.iconst 0, 1) := by decide +kernel
theorem dX8_isOn_48 : decode cX8_isOn 48 = .ok (.ireturn, 1) := by decide +kernel
set_option maxRecDepth 20000 in
theorem ggX8_pinThen_X8_isOn : GoodIn wsX8_pinThen wsX8_isOn := goodIn_r _ [8, 9, 1, 10, 11, 12, 13, 14, 15, 16, 17, 18, 19, 20, 21, 22, 23, 24, 25, 26, 27, 28, 29, 30, 31, 32, 33, 34, 35, 36, 37, 38, 39, 40, 41, 42, 43, 44, 45, 46, 47, 48, 49, 50, 51, 52, 53, 54, 55, 56, 57] (by decide +kernel) (by decide +kernel)
set_option maxRecDepth 20000 in
theorem gX8_pinThen_X8_isOn : GoodIn wsX8_pinThen (wsV RX8 198 RX8 yX8_isOn wsX8_isOn) := goodIn_app (goodIn_of _ (by decide +kernel)) ggX8_pinThen_X8_isOn
theorem dX8_pinThen_0 : decode cX8_pinThen 0 = .ok (.aload_n 0, 1) := by decide +kernel
theorem dX8_pinThen_1 : decode cX8_pinThen 1 = .ok (.getfield 194, 3) := by decide +kernel
theorem dX8_pinThen_4 : decode cX8_pinThen 4 = .ok (.ifCond .eq 14, 3) := by decide +kernel
theorem dX8_pinThen_7 : decode cX8_pinThen 7 = .ok (.aload_n 0, 1) := by decide +kernel
theorem dX8_pinThen_8 : decode cX8_pinThen 8 = .ok (.getfield 101, 3) := by decide +kernel
theorem dX8_pinThen_11 : decode cX8_pinThen 11 = .ok (.iload_n 1, 1) := by decide +kernel
theorem dX8_pinThen_12 : decode cX8_pinThen 12 = .ok (.iaload, 1) := by decide +kernel
theorem dX8_pinThen_13 : decode cX8_pinThen 13 = .ok (.iload_n 2, 1) := by decide +kernel
theorem dX8_pinThen_14 : decode cX8_pinThen 14 = .ok (.ishr, 1) := by decide +kernel
theorem dX8_pinThen_15 : decode cX8_pinThen 15 = .ok (.iconst 1, 1) := by decide +kernel
theorem dX8_pinThen_16 : decode cX8_pinThen 16 = .ok (.iand, 1) := by decide +kernel
theorem dX8_pinThen_17 : decode cX8_pinThen 17 = .ok (.ireturn, 1) := by decide +kernel
theorem dX8_pinThen_18 : decode cX8_pinThen 18 = .ok (.aload_n 0, 1) := by decide +kernel
theorem dX8_pinThen_19 : decode cX8_pinThen 19 = .ok (.iload_n 1, 1) := by decide +kernel
theorem dX8_pinThen_20 : decode cX8_pinThen 20 = .ok (.iload_n 2, 1) := by decide +kernel
theorem dX8_pinThen_21 : decode cX8_pinThen 21 = .ok (.invokevirtual 198, 3) := by decide +kernel
theorem dX8_pinThen_24 : decode cX8_pinThen 24 = .ok (.aload_n 0, 1) := by decide +kernel
theorem dX8_pinThen_25 : decode cX8_pinThen 25 = .ok (.getfield 98, 3) := by decide +kernel
theorem dX8_pinThen_28 : decode cX8_pinThen 28 = .ok (.iload_n 1, 1) := by decide +kernel
theorem dX8_pinThen_29 : decode cX8_pinThen 29 = .ok (.iaload, 1) := by decide +kernel
theorem dX8_pinThen_30 : decode cX8_pinThen 30 = .ok (.iload_n 2, 1) := by decide +kernel
theorem dX8_pinThen_31 : decode cX8_pinThen 31 = .ok (.ishr, 1) := by decide +kernel
theorem dX8_pinThen_32 : decode cX8_pinThen 32 = .ok (.iconst 1, 1) := by decide +kernel
theorem dX8_pinThen_33 : decode cX8_pinThen 33 = .ok (.iand, 1) := by decide +kernel
theorem dX8_pinThen_34 : decode cX8_pinThen 34 = .ok (.iconst 1, 1) := by decide +kernel
theorem dX8_pinThen_35 : decode cX8_pinThen 35 = .ok (.if_icmp .ne 7, 3) := by decide +kernel
theorem dX8_pinThen_38 : decode cX8_pinThen 38 = .ok (.iconst 1, 1) := by decide +kernel
theorem dX8_pinThen_39 : decode cX8_pinThen 39 = .ok (.goto 4, 3) := by decide +kernel
theorem dX8_pinThen_42 : decode cX8_pinThen 42 = .ok (.iconst 0, 1) := by decide +kernel
theorem dX8_pinThen_43 : decode cX8_pinThen 43 = .ok (.if_icmp .ne 7, 3) := by decide +kernel
theorem dX8_pinThen_46 : decode cX8_pinThen 46 = .ok (.iconst 0, 1) := by decide +kernel
theorem dX8_pinThen_47 : decode cX8_pinThen 47 = .ok (.goto 4, 3) := by decide +kernel
theorem dX8_pinThen_50 : decode cX8_pinThen 50 = .ok (.iconst 1, 1) := by decide +kernel
theorem dX8_pinThen_51 : decode cX8_pinThen 51 = .ok (.ireturn, 1) := by decide +kernel
theorem dX8_enters_0 : decode cX8_enters 0 = .ok (.aload_n 0, 1) := by decide +kernel
theorem dX8_enters_1 : decode cX8_enters 1 = .ok (.getfield 202, 3) := by decide +kernel
theorem dX8_enters_4 : decode cX8_enters 4 = .ok (.bipush 24, 2) := by decide +kernel
theorem dX8_enters_6 : decode cX8_enters 6 = .ok (.if_icmp .ne 69, 3) := by decide +kernel
theorem dX8_enters_9 : decode cX8_enters 9 = .ok (.iconst 1, 1) := by decide +kernel
theorem dX8_enters_10 : decode cX8_enters 10 = .ok (.istore_n 2, 1) := by decide +kernel
theorem dX8_enters_11 : decode cX8_enters 11 = .ok (.iload_n 2, 1) := by decide +kernel
theorem dX8_enters_12 : decode cX8_enters 12 = .ok (.bipush 24, 2) := by decide +kernel
theorem dX8_enters_14 : decode cX8_enters 14 = .ok (.if_icmp .ge 51, 3) := by decide +kernel
theorem dX8_enters_17 : decode cX8_enters 17 = .ok (.aload_n 0, 1) := by decide +kernel
theorem dX8_enters_18 : decode cX8_enters 18 = .ok (.getfield 107, 3) := by decide +kernel
theorem dX8_enters_21 : decode cX8_enters 21 = .ok (.iload_n 2, 1) := by decide +kernel
theorem dX8_enters_22 : decode cX8_enters 22 = .ok (.iconst 1, 1) := by decide +kernel
theorem dX8_enters_23 : decode cX8_enters 23 = .ok (.isub, 1) := by decide +kernel
theorem dX8_enters_24 : decode cX8_enters 24 = .ok (.aload_n 0, 1) := by decide +kernel
theorem dX8_enters_25 : decode cX8_enters 25 = .ok (.getfield 107, 3) := by decide +kernel
theorem dX8_enters_28 : decode cX8_enters 28 = .ok (.iload_n 2, 1) := by decide +kernel
theorem dX8_enters_29 : decode cX8_enters 29 = .ok (.iaload, 1) := by decide +kernel
theorem dX8_enters_30 : decode cX8_enters 30 = .ok (.iastore, 1) := by decide +kernel
theorem dX8_enters_31 : decode cX8_enters 31 = .ok (.aload_n 0, 1) := by decide +kernel
theorem dX8_enters_32 : decode cX8_enters 32 = .ok (.getfield 110, 3) := by decide +kernel
theorem dX8_enters_35 : decode cX8_enters 35 = .ok (.iload_n 2, 1) := by decide +kernel
theorem dX8_enters_36 : decode cX8_enters 36 = .ok (.iconst 1, 1) := by decide +kernel
theorem dX8_enters_37 : decode cX8_enters 37 = .ok (.isub, 1) := by decide +kernel
theorem dX8_enters_38 : decode cX8_enters 38 = .ok (.aload_n 0, 1) := by decide +kernel
theorem dX8_enters_39 : decode cX8_enters 39 = .ok (.getfield 110, 3) := by decide +kernel
theorem dX8_enters_42 : decode cX8_enters 42 = .ok (.iload_n 2, 1) := by decide +kernel
theorem dX8_enters_43 : decode cX8_enters 43 = .ok (.iaload, 1) := by decide +kernel
theorem dX8_enters_44 : decode cX8_enters 44 = .ok (.iastore, 1) := by decide +kernel
theorem dX8_enters_45 : decode cX8_enters 45 = .ok (.aload_n 0, 1) := by decide +kernel
theorem dX8_enters_46 : decode cX8_enters 46 = .ok (.getfield 113, 3) := by decide +kernel
theorem dX8_enters_49 : decode cX8_enters 49 = .ok (.iload_n 2, 1) := by decide +kernel
theorem dX8_enters_50 : decode cX8_enters 50 = .ok (.iconst 1, 1) := by decide +kernel
theorem dX8_enters_51 : decode cX8_enters 51 = .ok (.isub, 1) := by decide +kernel
theorem dX8_enters_52 : decode cX8_enters 52 = .ok (.aload_n 0, 1) := by decide +kernel
theorem dX8_enters_53 : decode cX8_enters 53 = .ok (.getfield 113, 3) := by decide +kernel
theorem dX8_enters_56 : decode cX8_enters 56 = .ok (.iload_n 2, 1) := by decide +kernel
theorem dX8_enters_57 : decode cX8_enters 57 = .ok (.iaload, 1) := by decide +kernel
theorem dX8_enters_58 : decode cX8_enters 58 = .ok (.iastore, 1) := by decide +kernel
theorem dX8_enters_59 : decode cX8_enters 59 = .ok (.iinc 2 1, 3) := by decide +kernel
theorem dX8_enters_62 : decode cX8_enters 62 = .ok (.goto (-51), 3) := by decide +kernel
theorem dX8_enters_65 : decode cX8_enters 65 = .ok (.aload_n 0, 1) := by decide +kernel
theorem dX8_enters_66 : decode cX8_enters 66 = .ok (.dup, 1) := by decide +kernel
theorem dX8_enters_67 : decode cX8_enters 67 = .ok (.getfield 202, 3) := by decide +kernel
theorem dX8_enters_70 : decode cX8_enters 70 = .ok (.iconst 1, 1) := by decide +kernel
theorem dX8_enters_71 : decode cX8_enters 71 = .ok (.isub, 1) := by decide +kernel
theorem dX8_enters_72 : decode cX8_enters 72 = .ok (.putfield 202, 3) := by decide +kernel
theorem dX8_enters_75 : decode cX8_enters 75 = .ok (.aload_n 0, 1) := by decide +kernel
theorem dX8_enters_76 : decode cX8_enters 76 = .ok (.getfield 107, 3) := by decide +kernel
theorem dX8_enters_79 : decode cX8_enters 79 = .ok (.aload_n 0, 1) := by decide +kernel
theorem dX8_enters_80 : decode cX8_enters 80 = .ok (.getfield 202, 3) := by decide +kernel
theorem dX8_enters_83 : decode cX8_enters 83 = .ok (.aload_n 0, 1) := by decide +kernel
theorem dX8_enters_84 : decode cX8_enters 84 = .ok (.getfield 159, 3) := by decide +kernel
theorem dX8_enters_87 : decode cX8_enters 87 = .ok (.iastore, 1) := by decide +kernel
theorem dX8_enters_88 : decode cX8_enters 88 = .ok (.aload_n 0, 1) := by decide +kernel
theorem dX8_enters_89 : decode cX8_enters 89 = .ok (.getfield 110, 3) := by decide +kernel
theorem dX8_enters_92 : decode cX8_enters 92 = .ok (.aload_n 0, 1) := by decide +kernel
theorem dX8_enters_93 : decode cX8_enters 93 = .ok (.getfield 202, 3) := by decide +kernel
theorem dX8_enters_96 : decode cX8_enters 96 = .ok (.iload_n 1, 1) := by decide +kernel
theorem dX8_enters_97 : decode cX8_enters 97 = .ok (.iastore, 1) := by decide +kernel
theorem dX8_enters_98 : decode cX8_enters 98 = .ok (.aload_n 0, 1) := by decide +kernel
theorem dX8_enters_99 : decode cX8_enters 99 = .ok (.getfield 113, 3) := by decide +kernel
theorem dX8_enters_102 : decode cX8_enters 102 = .ok (.aload_n 0, 1) := by decide +kernel
theorem dX8_enters_103 : decode cX8_enters 103 = .ok (.getfield 202, 3) := by decide +kernel
theorem dX8_enters_106 : decode cX8_enters 106 = .ok (.aload_n 0, 1) := by decide +kernel
theorem dX8_enters_107 : decode cX8_enters 107 = .ok (.getfield 104, 3) := by decide +kernel
theorem dX8_enters_110 : decode cX8_enters 110 = .ok (.iload_n 1, 1) := by decide +kernel
theorem dX8_enters_111 : decode cX8_enters 111 = .ok (.iaload, 1) := by decide +kernel
theorem dX8_enters_112 : decode cX8_enters 112 = .ok (.iastore, 1) := by decide +kernel
theorem dX8_enters_113 : decode cX8_enters 113 = .ok (.aload_n 0, 1) := by decide +kernel
theorem dX8_enters_114 : decode cX8_enters 114 = .ok (.dup, 1) := by decide +kernel
theorem dX8_enters_115 : decode cX8_enters 115 = .ok (.getfield 202, 3) := by decide +kernel
theorem dX8_enters_118 : decode cX8_enters 118 = .ok (.iconst 1, 1) := by decide +kernel
theorem dX8_enters_119 : decode cX8_enters 119 = .ok (.iadd, 1) := by decide +kernel
theorem dX8_enters_120 : decode cX8_enters 120 = .ok (.putfield 202, 3) := by decide +kernel
theorem dX8_enters_123 : decode cX8_enters 123 = .ok (.return_, 1) := by decide +kernel
set_option maxRecDepth 20000 in
theorem ggX8_pins_X8_pinThen : GoodIn wsX8_pins wsX8_pinThen := goodIn_r _ [6, 7, 8, 9, 10, 11, 12, 5, 13, 14, 15, 16, 17, 27, 28, 29, 30, 31, 32, 33, 34, 35, 36, 37, 38, 39, 40, 41, 42, 43, 44, 45, 46, 47, 48, 49, 50, 51, 52, 53, 54, 55, 56, 57, 58, 59, 60, 61, 62, 63, 64, 65, 66, 67, 68, 69, 70, 71] (by decide +kernel) (by decide +kernel)
set_option maxRecDepth 20000 in
theorem gX8_pins_X8_pinThen : GoodIn wsX8_pins (wsV RX8 205 RX8 yX8_pinThen wsX8_pinThen) := goodIn_app (goodIn_of _ (by decide +kernel)) ggX8_pins_X8_pinThen
set_option maxRecDepth 20000 in
theorem ggX8_pins_X8_enters : GoodIn wsX8_pins wsX8_enters := goodIn_r _ [21, 22, 23, 24, 25, 26, 1, 27, 28, 29, 30, 31, 32, 33, 34, 35, 36, 37, 38, 39, 40, 41, 42, 43, 44, 45, 46, 47, 48, 49, 50, 51, 52, 53, 54, 55, 56, 57, 58, 59, 60, 61, 62, 63, 64, 65, 66, 67, 68, 69, 70, 71] (by decide +kernel) (by decide +kernel)
set_option maxRecDepth 20000 in
theorem gX8_pins_X8_enters : GoodIn wsX8_pins (wsV RX8 208 RX8 yX8_enters wsX8_enters) := goodIn_app (goodIn_of _ (by decide +kernel)) ggX8_pins_X8_enters
theorem dX8_pins_0 : decode cX8_pins 0 = .ok (.iconst 0, 1) := by decide +kernel
theorem dX8_pins_1 : decode cX8_pins 1 = .ok (.istore_n 1, 1) := by decide +kernel
theorem dX8_pins_2 : decode cX8_pins 2 = .ok (.iload_n 1, 1) := by decide +kernel
theorem dX8_pins_3 : decode cX8_pins 3 = .ok (.bipush 8, 2) := by decide +kernel
theorem dX8_pins_5 : decode cX8_pins 5 = .ok (.if_icmp .ge 42, 3) := by decide +kernel
theorem dX8_pins_8 : decode cX8_pins 8 = .ok (.aload_n 0, 1) := by decide +kernel
theorem dX8_pins_9 : decode cX8_pins 9 = .ok (.iload_n 1, 1) := by decide +kernel
theorem dX8_pins_10 : decode cX8_pins 10 = .ok (.iconst 2, 1) := by decide +kernel
theorem dX8_pins_11 : decode cX8_pins 11 = .ok (.idiv, 1) := by decide +kernel
theorem dX8_pins_12 : decode cX8_pins 12 = .ok (.iload_n 1, 1) := by decide +kernel
theorem dX8_pins_13 : decode cX8_pins 13 = .ok (.iconst 2, 1) := by decide +kernel
theorem dX8_pins_14 : decode cX8_pins 14 = .ok (.irem, 1) := by decide +kernel
theorem dX8_pins_15 : decode cX8_pins 15 = .ok (.invokevirtual 205, 3) := by decide +kernel
theorem dX8_pins_18 : decode cX8_pins 18 = .ok (.istore_n 2, 1) := by decide +kernel
theorem dX8_pins_19 : decode cX8_pins 19 = .ok (.iload_n 2, 1) := by decide +kernel
theorem dX8_pins_20 : decode cX8_pins 20 = .ok (.aload_n 0, 1) := by decide +kernel
theorem dX8_pins_21 : decode cX8_pins 21 = .ok (.getfield 104, 3) := by decide +kernel
theorem dX8_pins_24 : decode cX8_pins 24 = .ok (.iload_n 1, 1) := by decide +kernel
theorem dX8_pins_25 : decode cX8_pins 25 = .ok (.iaload, 1) := by decide +kernel
theorem dX8_pins_26 : decode cX8_pins 26 = .ok (.if_icmp .eq 15, 3) := by decide +kernel
theorem dX8_pins_29 : decode cX8_pins 29 = .ok (.aload_n 0, 1) := by decide +kernel
theorem dX8_pins_30 : decode cX8_pins 30 = .ok (.getfield 104, 3) := by decide +kernel
theorem dX8_pins_33 : decode cX8_pins 33 = .ok (.iload_n 1, 1) := by decide +kernel
theorem dX8_pins_34 : decode cX8_pins 34 = .ok (.iload_n 2, 1) := by decide +kernel
theorem dX8_pins_35 : decode cX8_pins 35 = .ok (.iastore, 1) := by decide +kernel
theorem dX8_pins_36 : decode cX8_pins 36 = .ok (.aload_n 0, 1) := by decide +kernel
theorem dX8_pins_37 : decode cX8_pins 37 = .ok (.iload_n 1, 1) := by decide +kernel
theorem dX8_pins_38 : decode cX8_pins 38 = .ok (.invokevirtual 208, 3) := by decide +kernel
theorem dX8_pins_41 : decode cX8_pins 41 = .ok (.iinc 1 1, 3) := by decide +kernel
theorem dX8_pins_44 : decode cX8_pins 44 = .ok (.goto (-42), 3) := by decide +kernel
theorem dX8_pins_47 : decode cX8_pins 47 = .ok (.return_, 1) := by decide +kernel
set_option maxRecDepth 20000 in
theorem ggX8_onOf_X8_isOn : GoodIn wsX8_onOf wsX8_isOn := goodIn_r _ [5, 6, 7, 8, 9, 10, 11, 12, 13, 14, 15, 16, 17, 18, 19, 20, 21, 22, 23, 24, 25, 26, 27, 28, 29, 30, 31, 32, 33, 34, 35, 36, 37, 38, 39, 40, 41, 42, 43, 44, 45, 46, 47, 48, 49, 50, 51, 52, 53, 54, 55] (by decide +kernel) (by decide +kernel)
set_option maxRecDepth 20000 in
theorem gX8_onOf_X8_isOn : GoodIn wsX8_onOf (wsV RX8 198 RX8 yX8_isOn wsX8_isOn) := goodIn_app (goodIn_of _ (by decide +kernel)) ggX8_onOf_X8_isOn
theorem dX8_onOf_0 : decode cX8_onOf 0 = .ok (.aload_n 0, 1) := by decide +kernel
theorem dX8_onOf_1 : decode cX8_onOf 1 = .ok (.iload_n 1, 1) := by decide +kernel
theorem dX8_onOf_2 : decode cX8_onOf 2 = .ok (.iconst 0, 1) := by decide +kernel
theorem dX8_onOf_3 : decode cX8_onOf 3 = .ok (.invokevirtual 198, 3) := by decide +kernel
theorem dX8_onOf_6 : decode cX8_onOf 6 = .ok (.ifCond .eq 7, 3) := by decide +kernel
theorem dX8_onOf_9 : decode cX8_onOf 9 = .ok (.iconst 1, 1) := by decide +kernel
theorem dX8_onOf_10 : decode cX8_onOf 10 = .ok (.goto 4, 3) := by decide +kernel
theorem dX8_onOf_13 : decode cX8_onOf 13 = .ok (.iconst 0, 1) := by decide +kernel
theorem dX8_onOf_14 : decode cX8_onOf 14 = .ok (.aload_n 0, 1) := by decide +kernel
theorem dX8_onOf_15 : decode cX8_onOf 15 = .ok (.iload_n 1, 1) := by decide +kernel
theorem dX8_onOf_16 : decode cX8_onOf 16 = .ok (.iconst 1, 1) := by decide +kernel
theorem dX8_onOf_17 : decode cX8_onOf 17 = .ok (.invokevirtual 198, 3) := by decide +kernel
theorem dX8_onOf_20 : decode cX8_onOf 20 = .ok (.ifCond .eq 7, 3) := by decide +kernel
theorem dX8_onOf_23 : decode cX8_onOf 23 = .ok (.iconst 2, 1) := by decide +kernel
theorem dX8_onOf_24 : decode cX8_onOf 24 = .ok (.goto 4, 3) := by decide +kernel
theorem dX8_onOf_27 : decode cX8_onOf 27 = .ok (.iconst 0, 1) := by decide +kernel
theorem dX8_onOf_28 : decode cX8_onOf 28 = .ok (.iadd, 1) := by decide +kernel
theorem dX8_onOf_29 : decode cX8_onOf 29 = .ok (.ireturn, 1) := by decide +kernel
set_option maxRecDepth 20000 in
theorem ggX8_ofChannel_X8_isOne : GoodIn wsX8_ofChannel wsX8_isOne := goodIn_r _ [12, 13, 14, 11, 15] (by decide +kernel) (by decide +kernel)
set_option maxRecDepth 20000 in
theorem gX8_ofChannel_X8_isOne : GoodIn wsX8_ofChannel (va_wsS RX8 130 yX8_isOne wsX8_isOne) := goodIn_app (goodIn_of _ (by decide +kernel)) ggX8_ofChannel_X8_isOne
set_option maxRecDepth 20000 in
theorem ggX8_ofChannel_X8_onOf : GoodIn wsX8_ofChannel wsX8_onOf := goodIn_r _ [19, 20, 21, 22, 11, 23, 2, 24, 4, 5, 6, 25, 26, 27, 28, 29, 30, 31, 32, 33, 34, 35, 36, 37, 38, 39, 40, 41, 42, 43, 44, 45, 46, 47, 48, 49, 50, 51, 52, 53, 54, 55, 56, 57, 58, 59, 60, 61, 62, 63, 64, 65, 66, 67, 68, 69] (by decide +kernel) (by decide +kernel)
set_option maxRecDepth 20000 in
theorem gX8_ofChannel_X8_onOf : GoodIn wsX8_ofChannel (wsV RX8 211 RX8 yX8_onOf wsX8_onOf) := goodIn_app (goodIn_of _ (by decide +kernel)) ggX8_ofChannel_X8_onOf
theorem dX8_ofChannel_0 : decode cX8_ofChannel 0 = .ok (.iload_n 1, 1) := by decide +kernel
theorem dX8_ofChannel_1 : decode cX8_ofChannel 1 = .ok (.invokestatic 130, 3) := by decide +kernel
theorem dX8_ofChannel_4 : decode cX8_ofChannel 4 = .ok (.ifCond .ne 5, 3) := by decide +kernel
theorem dX8_ofChannel_7 : decode cX8_ofChannel 7 = .ok (.iconst (-1), 1) := by decide +kernel
theorem dX8_ofChannel_8 : decode cX8_ofChannel 8 = .ok (.ireturn, 1) := by decide +kernel
theorem dX8_ofChannel_9 : decode cX8_ofChannel 9 = .ok (.iload_n 2, 1) := by decide +kernel
theorem dX8_ofChannel_10 : decode cX8_ofChannel 10 = .ok (.tableswitch 112 0 8 #[50, 57, 64, 71, 78, 85, 92, 99, 106], 50) := by decide +kernel
theorem dX8_ofChannel_60 : decode cX8_ofChannel 60 = .ok (.aload_n 0, 1) := by decide +kernel
