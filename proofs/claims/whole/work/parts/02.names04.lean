theorem dX3_make_246 : decode cX3_make 246 = .ok (.isub, 1) := by decide +kernel
theorem dX3_make_247 : decode cX3_make 247 = .ok (.iload 5, 2) := by decide +kernel
theorem dX3_make_249 : decode cX3_make 249 = .ok (.iadd, 1) := by decide +kernel
theorem dX3_make_250 : decode cX3_make 250 = .ok (.goto 4, 3) := by decide +kernel
theorem dX3_make_253 : decode cX3_make 253 = .ok (.iconst 0, 1) := by decide +kernel
theorem dX3_make_254 : decode cX3_make 254 = .ok (.iastore, 1) := by decide +kernel
theorem dX3_make_255 : decode cX3_make 255 = .ok (.iinc 5 1, 3) := by decide +kernel
theorem dX3_make_258 : decode cX3_make 258 = .ok (.goto (-44), 3) := by decide +kernel
theorem dX3_make_261 : decode cX3_make 261 = .ok (.aload_n 0, 1) := by decide +kernel
theorem dX3_make_262 : decode cX3_make 262 = .ok (.getfield 43, 3) := by decide +kernel
theorem dX3_make_265 : decode cX3_make 265 = .ok (.iload_n 3, 1) := by decide +kernel
theorem dX3_make_266 : decode cX3_make 266 = .ok (.iload_n 1, 1) := by decide +kernel
theorem dX3_make_267 : decode cX3_make 267 = .ok (.bipush 7, 2) := by decide +kernel
theorem dX3_make_269 : decode cX3_make 269 = .ok (.if_icmp .ne 7, 3) := by decide +kernel
theorem dX3_make_272 : decode cX3_make 272 = .ok (.iload_n 2, 1) := by decide +kernel
theorem dX3_make_273 : decode cX3_make 273 = .ok (.goto 4, 3) := by decide +kernel
theorem dX3_make_276 : decode cX3_make 276 = .ok (.iconst 0, 1) := by decide +kernel
theorem dX3_make_277 : decode cX3_make 277 = .ok (.iastore, 1) := by decide +kernel
theorem dX3_make_278 : decode cX3_make 278 = .ok (.aload_n 0, 1) := by decide +kernel
theorem dX3_make_279 : decode cX3_make 279 = .ok (.getfield 46, 3) := by decide +kernel
theorem dX3_make_282 : decode cX3_make 282 = .ok (.iload_n 3, 1) := by decide +kernel
theorem dX3_make_283 : decode cX3_make 283 = .ok (.iconst 0, 1) := by decide +kernel
theorem dX3_make_284 : decode cX3_make 284 = .ok (.bastore, 1) := by decide +kernel
theorem dX3_make_285 : decode cX3_make 285 = .ok (.aload_n 0, 1) := by decide +kernel
theorem dX3_make_286 : decode cX3_make 286 = .ok (.getfield 49, 3) := by decide +kernel
theorem dX3_make_289 : decode cX3_make 289 = .ok (.iload_n 3, 1) := by decide +kernel
theorem dX3_make_290 : decode cX3_make 290 = .ok (.iconst 0, 1) := by decide +kernel
theorem dX3_make_291 : decode cX3_make 291 = .ok (.iastore, 1) := by decide +kernel
theorem dX3_make_292 : decode cX3_make 292 = .ok (.aload_n 0, 1) := by decide +kernel
theorem dX3_make_293 : decode cX3_make 293 = .ok (.dup, 1) := by decide +kernel
theorem dX3_make_294 : decode cX3_make 294 = .ok (.getfield 13, 3) := by decide +kernel
theorem dX3_make_297 : decode cX3_make 297 = .ok (.bipush 8, 2) := by decide +kernel
theorem dX3_make_299 : decode cX3_make 299 = .ok (.iload_n 1, 1) := by decide +kernel
theorem dX3_make_300 : decode cX3_make 300 = .ok (.iconst 4, 1) := by decide +kernel
theorem dX3_make_301 : decode cX3_make 301 = .ok (.if_icmp .ne 7, 3) := by decide +kernel
theorem dX3_make_304 : decode cX3_make 304 = .ok (.iload_n 2, 1) := by decide +kernel
theorem dX3_make_305 : decode cX3_make 305 = .ok (.goto 41, 3) := by decide +kernel
theorem dX3_make_308 : decode cX3_make 308 = .ok (.iload_n 1, 1) := by decide +kernel
theorem dX3_make_309 : decode cX3_make 309 = .ok (.iconst 5, 1) := by decide +kernel
theorem dX3_make_310 : decode cX3_make 310 = .ok (.if_icmp .ne 10, 3) := by decide +kernel
theorem dX3_make_313 : decode cX3_make 313 = .ok (.bipush 8, 2) := by decide +kernel
theorem dX3_make_315 : decode cX3_make 315 = .ok (.iload_n 2, 1) := by decide +kernel
theorem dX3_make_316 : decode cX3_make 316 = .ok (.imul, 1) := by decide +kernel
theorem dX3_make_317 : decode cX3_make 317 = .ok (.goto 29, 3) := by decide +kernel
theorem dX3_make_320 : decode cX3_make 320 = .ok (.iload_n 1, 1) := by decide +kernel
theorem dX3_make_321 : decode cX3_make 321 = .ok (.bipush 6, 2) := by decide +kernel
theorem dX3_make_323 : decode cX3_make 323 = .ok (.if_icmp .ne 9, 3) := by decide +kernel
theorem dX3_make_326 : decode cX3_make 326 = .ok (.iconst 4, 1) := by decide +kernel
theorem dX3_make_327 : decode cX3_make 327 = .ok (.iload_n 2, 1) := by decide +kernel
theorem dX3_make_328 : decode cX3_make 328 = .ok (.imul, 1) := by decide +kernel
theorem dX3_make_329 : decode cX3_make 329 = .ok (.goto 17, 3) := by decide +kernel
theorem dX3_make_332 : decode cX3_make 332 = .ok (.iload_n 1, 1) := by decide +kernel
theorem dX3_make_333 : decode cX3_make 333 = .ok (.bipush 7, 2) := by decide +kernel
theorem dX3_make_335 : decode cX3_make 335 = .ok (.if_icmp .ne 10, 3) := by decide +kernel
theorem dX3_make_338 : decode cX3_make 338 = .ok (.bipush 16, 2) := by decide +kernel
theorem dX3_make_340 : decode cX3_make 340 = .ok (.iload_n 2, 1) := by decide +kernel
theorem dX3_make_341 : decode cX3_make 341 = .ok (.imul, 1) := by decide +kernel
theorem dX3_make_342 : decode cX3_make 342 = .ok (.goto 4, 3) := by decide +kernel
theorem dX3_make_345 : decode cX3_make 345 = .ok (.iconst 0, 1) := by decide +kernel
theorem dX3_make_346 : decode cX3_make 346 = .ok (.iadd, 1) := by decide +kernel
theorem dX3_make_347 : decode cX3_make 347 = .ok (.iadd, 1) := by decide +kernel
theorem dX3_make_348 : decode cX3_make 348 = .ok (.putfield 13, 3) := by decide +kernel
theorem dX3_make_351 : decode cX3_make 351 = .ok (.aload_n 0, 1) := by decide +kernel
theorem dX3_make_352 : decode cX3_make 352 = .ok (.dup, 1) := by decide +kernel
theorem dX3_make_353 : decode cX3_make 353 = .ok (.getfield 7, 3) := by decide +kernel
theorem dX3_make_356 : decode cX3_make 356 = .ok (.iconst 1, 1) := by decide +kernel
theorem dX3_make_357 : decode cX3_make 357 = .ok (.iadd, 1) := by decide +kernel
theorem dX3_make_358 : decode cX3_make 358 = .ok (.putfield 7, 3) := by decide +kernel
theorem dX3_make_361 : decode cX3_make 361 = .ok (.iload_n 3, 1) := by decide +kernel
theorem dX3_make_362 : decode cX3_make 362 = .ok (.ireturn, 1) := by decide +kernel
set_option maxRecDepth 20000 in
theorem ggX3_put_X3_isObject : GoodIn wsX3_put wsX3_isObject := goodIn_r _ [12, 13, 26, 27, 28, 29, 30, 31, 32, 33, 34, 35, 36, 37, 38, 39, 40, 41, 42, 43, 44] (by decide +kernel) (by decide +kernel)
set_option maxRecDepth 20000 in
theorem gX3_put_X3_isObject : GoodIn wsX3_put (wsV RX3 90 RX3 yX3_isObject wsX3_isObject) := goodIn_app (goodIn_of _ (by decide +kernel)) ggX3_put_X3_isObject
set_option maxRecDepth 20000 in
theorem ggX3_put_X3_within : GoodIn wsX3_put wsX3_within := goodIn_r _ [16] (by decide +kernel) (by decide +kernel)
set_option maxRecDepth 20000 in
theorem gX3_put_X3_within : GoodIn wsX3_put (va_wsS RX3 68 yX3_within wsX3_within) := goodIn_app (goodIn_of _ (by decide +kernel)) ggX3_put_X3_within
set_option maxRecDepth 20000 in
theorem ggX3_put_X3_accessOf : GoodIn wsX3_put wsX3_accessOf := goodIn_r _ [20, 21, 22, 23, 24, 11, 25, 2, 5, 26, 27, 28, 29, 30, 31, 32, 33, 34, 35, 36, 37, 38, 39, 40, 41, 42, 43, 44] (by decide +kernel) (by decide +kernel)
set_option maxRecDepth 20000 in
theorem gX3_put_X3_accessOf : GoodIn wsX3_put (wsV RX3 94 RX3 yX3_accessOf wsX3_accessOf) := goodIn_app (goodIn_of _ (by decide +kernel)) ggX3_put_X3_accessOf
theorem dX3_put_0 : decode cX3_put 0 = .ok (.aload_n 0, 1) := by decide +kernel
theorem dX3_put_1 : decode cX3_put 1 = .ok (.iconst 0, 1) := by decide +kernel
theorem dX3_put_2 : decode cX3_put 2 = .ok (.putfield 65, 3) := by decide +kernel
theorem dX3_put_5 : decode cX3_put 5 = .ok (.aload_n 0, 1) := by decide +kernel
theorem dX3_put_6 : decode cX3_put 6 = .ok (.iload_n 1, 1) := by decide +kernel
theorem dX3_put_7 : decode cX3_put 7 = .ok (.invokevirtual 90, 3) := by decide +kernel
theorem dX3_put_10 : decode cX3_put 10 = .ok (.ifCond .eq 21, 3) := by decide +kernel
theorem dX3_put_13 : decode cX3_put 13 = .ok (.aload_n 0, 1) := by decide +kernel
theorem dX3_put_14 : decode cX3_put 14 = .ok (.getfield 16, 3) := by decide +kernel
theorem dX3_put_17 : decode cX3_put 17 = .ok (.iload_n 1, 1) := by decide +kernel
theorem dX3_put_18 : decode cX3_put 18 = .ok (.iaload, 1) := by decide +kernel
theorem dX3_put_19 : decode cX3_put 19 = .ok (.iconst 5, 1) := by decide +kernel
theorem dX3_put_20 : decode cX3_put 20 = .ok (.if_icmp .ne 13, 3) := by decide +kernel
theorem dX3_put_23 : decode cX3_put 23 = .ok (.aload_n 0, 1) := by decide +kernel
theorem dX3_put_24 : decode cX3_put 24 = .ok (.iload_n 3, 1) := by decide +kernel
theorem dX3_put_25 : decode cX3_put 25 = .ok (.invokevirtual 90, 3) := by decide +kernel
theorem dX3_put_28 : decode cX3_put 28 = .ok (.ifCond .ne 5, 3) := by decide +kernel
theorem dX3_put_31 : decode cX3_put 31 = .ok (.iconst (-1), 1) := by decide +kernel
theorem dX3_put_32 : decode cX3_put 32 = .ok (.ireturn, 1) := by decide +kernel
theorem dX3_put_33 : decode cX3_put 33 = .ok (.aload_n 0, 1) := by decide +kernel
theorem dX3_put_34 : decode cX3_put 34 = .ok (.getfield 16, 3) := by decide +kernel
theorem dX3_put_37 : decode cX3_put 37 = .ok (.iload_n 1, 1) := by decide +kernel
theorem dX3_put_38 : decode cX3_put 38 = .ok (.iaload, 1) := by decide +kernel
theorem dX3_put_39 : decode cX3_put 39 = .ok (.iconst 4, 1) := by decide +kernel
theorem dX3_put_40 : decode cX3_put 40 = .ok (.if_icmp .eq 13, 3) := by decide +kernel
theorem dX3_put_43 : decode cX3_put 43 = .ok (.aload_n 0, 1) := by decide +kernel
theorem dX3_put_44 : decode cX3_put 44 = .ok (.getfield 16, 3) := by decide +kernel
theorem dX3_put_47 : decode cX3_put 47 = .ok (.iload_n 1, 1) := by decide +kernel
theorem dX3_put_48 : decode cX3_put 48 = .ok (.iaload, 1) := by decide +kernel
theorem dX3_put_49 : decode cX3_put 49 = .ok (.iconst 5, 1) := by decide +kernel
theorem dX3_put_50 : decode cX3_put 50 = .ok (.if_icmp .ne 7, 3) := by decide +kernel
theorem dX3_put_53 : decode cX3_put 53 = .ok (.iconst 1, 1) := by decide +kernel
theorem dX3_put_54 : decode cX3_put 54 = .ok (.goto 4, 3) := by decide +kernel
theorem dX3_put_57 : decode cX3_put 57 = .ok (.iconst 0, 1) := by decide +kernel
theorem dX3_put_58 : decode cX3_put 58 = .ok (.istore 4, 2) := by decide +kernel
theorem dX3_put_60 : decode cX3_put 60 = .ok (.iload 4, 2) := by decide +kernel
theorem dX3_put_62 : decode cX3_put 62 = .ok (.ifCond .eq 43, 3) := by decide +kernel
theorem dX3_put_65 : decode cX3_put 65 = .ok (.iload_n 2, 1) := by decide +kernel
theorem dX3_put_66 : decode cX3_put 66 = .ok (.iconst 0, 1) := by decide +kernel
theorem dX3_put_67 : decode cX3_put 67 = .ok (.aload_n 0, 1) := by decide +kernel
theorem dX3_put_68 : decode cX3_put 68 = .ok (.getfield 26, 3) := by decide +kernel
theorem dX3_put_71 : decode cX3_put 71 = .ok (.iload_n 1, 1) := by decide +kernel
theorem dX3_put_72 : decode cX3_put 72 = .ok (.iaload, 1) := by decide +kernel
theorem dX3_put_73 : decode cX3_put 73 = .ok (.iconst 1, 1) := by decide +kernel
theorem dX3_put_74 : decode cX3_put 74 = .ok (.isub, 1) := by decide +kernel
theorem dX3_put_75 : decode cX3_put 75 = .ok (.invokestatic 68, 3) := by decide +kernel
theorem dX3_put_78 : decode cX3_put 78 = .ok (.ifCond .eq 24, 3) := by decide +kernel
theorem dX3_put_81 : decode cX3_put 81 = .ok (.aload_n 0, 1) := by decide +kernel
theorem dX3_put_82 : decode cX3_put 82 = .ok (.getfield 16, 3) := by decide +kernel
theorem dX3_put_85 : decode cX3_put 85 = .ok (.iload_n 1, 1) := by decide +kernel
theorem dX3_put_86 : decode cX3_put 86 = .ok (.iaload, 1) := by decide +kernel
theorem dX3_put_87 : decode cX3_put 87 = .ok (.iconst 4, 1) := by decide +kernel
theorem dX3_put_88 : decode cX3_put 88 = .ok (.if_icmp .ne 17, 3) := by decide +kernel
theorem dX3_put_91 : decode cX3_put 91 = .ok (.iload_n 3, 1) := by decide +kernel
theorem dX3_put_92 : decode cX3_put 92 = .ok (.iconst 0, 1) := by decide +kernel
theorem dX3_put_93 : decode cX3_put 93 = .ok (.sipush 255, 3) := by decide +kernel
theorem dX3_put_96 : decode cX3_put 96 = .ok (.invokestatic 68, 3) := by decide +kernel
theorem dX3_put_99 : decode cX3_put 99 = .ok (.ifCond .ne 6, 3) := by decide +kernel
theorem dX3_put_102 : decode cX3_put 102 = .ok (.bipush (-2), 2) := by decide +kernel
theorem dX3_put_104 : decode cX3_put 104 = .ok (.ireturn, 1) := by decide +kernel
theorem dX3_put_105 : decode cX3_put 105 = .ok (.iload 4, 2) := by decide +kernel
theorem dX3_put_107 : decode cX3_put 107 = .ok (.ifCond .eq 12, 3) := by decide +kernel
theorem dX3_put_110 : decode cX3_put 110 = .ok (.aload_n 0, 1) := by decide +kernel
theorem dX3_put_111 : decode cX3_put 111 = .ok (.iload_n 1, 1) := by decide +kernel
theorem dX3_put_112 : decode cX3_put 112 = .ok (.invokevirtual 94, 3) := by decide +kernel
theorem dX3_put_115 : decode cX3_put 115 = .ok (.iconst 3, 1) := by decide +kernel
theorem dX3_put_116 : decode cX3_put 116 = .ok (.if_icmp .eq 6, 3) := by decide +kernel
theorem dX3_put_119 : decode cX3_put 119 = .ok (.bipush (-3), 2) := by decide +kernel
theorem dX3_put_121 : decode cX3_put 121 = .ok (.ireturn, 1) := by decide +kernel
theorem dX3_put_122 : decode cX3_put 122 = .ok (.aload_n 0, 1) := by decide +kernel
theorem dX3_put_123 : decode cX3_put 123 = .ok (.getfield 16, 3) := by decide +kernel
theorem dX3_put_126 : decode cX3_put 126 = .ok (.iload_n 1, 1) := by decide +kernel
theorem dX3_put_127 : decode cX3_put 127 = .ok (.iaload, 1) := by decide +kernel
theorem dX3_put_128 : decode cX3_put 128 = .ok (.iconst 4, 1) := by decide +kernel
theorem dX3_put_129 : decode cX3_put 129 = .ok (.if_icmp .ne 31, 3) := by decide +kernel
theorem dX3_put_132 : decode cX3_put 132 = .ok (.aload_n 0, 1) := by decide +kernel
theorem dX3_put_133 : decode cX3_put 133 = .ok (.getfield 29, 3) := by decide +kernel
theorem dX3_put_136 : decode cX3_put 136 = .ok (.bipush 64, 2) := by decide +kernel
theorem dX3_put_138 : decode cX3_put 138 = .ok (.aload_n 0, 1) := by decide +kernel
theorem dX3_put_139 : decode cX3_put 139 = .ok (.getfield 20, 3) := by decide +kernel
theorem dX3_put_142 : decode cX3_put 142 = .ok (.iload_n 1, 1) := by decide +kernel
theorem dX3_put_143 : decode cX3_put 143 = .ok (.iaload, 1) := by decide +kernel
theorem dX3_put_144 : decode cX3_put 144 = .ok (.imul, 1) := by decide +kernel
theorem dX3_put_145 : decode cX3_put 145 = .ok (.aload_n 0, 1) := by decide +kernel
theorem dX3_put_146 : decode cX3_put 146 = .ok (.getfield 23, 3) := by decide +kernel
theorem dX3_put_149 : decode cX3_put 149 = .ok (.iload_n 1, 1) := by decide +kernel
theorem dX3_put_150 : decode cX3_put 150 = .ok (.iaload, 1) := by decide +kernel
theorem dX3_put_151 : decode cX3_put 151 = .ok (.iadd, 1) := by decide +kernel
theorem dX3_put_152 : decode cX3_put 152 = .ok (.iload_n 2, 1) := by decide +kernel
theorem dX3_put_153 : decode cX3_put 153 = .ok (.iadd, 1) := by decide +kernel
theorem dX3_put_154 : decode cX3_put 154 = .ok (.iload_n 3, 1) := by decide +kernel
theorem dX3_put_155 : decode cX3_put 155 = .ok (.i2b, 1) := by decide +kernel
theorem dX3_put_156 : decode cX3_put 156 = .ok (.bastore, 1) := by decide +kernel
theorem dX3_put_157 : decode cX3_put 157 = .ok (.goto 27, 3) := by decide +kernel
theorem dX3_put_160 : decode cX3_put 160 = .ok (.aload_n 0, 1) := by decide +kernel
theorem dX3_put_161 : decode cX3_put 161 = .ok (.getfield 40, 3) := by decide +kernel
theorem dX3_put_164 : decode cX3_put 164 = .ok (.bipush 32, 2) := by decide +kernel
theorem dX3_put_166 : decode cX3_put 166 = .ok (.aload_n 0, 1) := by decide +kernel
theorem dX3_put_167 : decode cX3_put 167 = .ok (.getfield 20, 3) := by decide +kernel
theorem dX3_put_170 : decode cX3_put 170 = .ok (.iload_n 1, 1) := by decide +kernel
theorem dX3_put_171 : decode cX3_put 171 = .ok (.iaload, 1) := by decide +kernel
theorem dX3_put_172 : decode cX3_put 172 = .ok (.imul, 1) := by decide +kernel
theorem dX3_put_173 : decode cX3_put 173 = .ok (.aload_n 0, 1) := by decide +kernel
theorem dX3_put_174 : decode cX3_put 174 = .ok (.getfield 23, 3) := by decide +kernel
theorem dX3_put_177 : decode cX3_put 177 = .ok (.iload_n 1, 1) := by decide +kernel
theorem dX3_put_178 : decode cX3_put 178 = .ok (.iaload, 1) := by decide +kernel
theorem dX3_put_179 : decode cX3_put 179 = .ok (.iadd, 1) := by decide +kernel
theorem dX3_put_180 : decode cX3_put 180 = .ok (.iload_n 2, 1) := by decide +kernel
theorem dX3_put_181 : decode cX3_put 181 = .ok (.iadd, 1) := by decide +kernel
theorem dX3_put_182 : decode cX3_put 182 = .ok (.iload_n 3, 1) := by decide +kernel
theorem dX3_put_183 : decode cX3_put 183 = .ok (.iastore, 1) := by decide +kernel
theorem dX3_put_184 : decode cX3_put 184 = .ok (.iconst 1, 1) := by decide +kernel
theorem dX3_put_185 : decode cX3_put 185 = .ok (.ireturn, 1) := by decide +kernel
theorem dX3_byteOf_0 : decode cX3_byteOf 0 = .ok (.aload_n 0, 1) := by decide +kernel
theorem dX3_byteOf_1 : decode cX3_byteOf 1 = .ok (.getfield 29, 3) := by decide +kernel
theorem dX3_byteOf_4 : decode cX3_byteOf 4 = .ok (.bipush 64, 2) := by decide +kernel
theorem dX3_byteOf_6 : decode cX3_byteOf 6 = .ok (.aload_n 0, 1) := by decide +kernel
theorem dX3_byteOf_7 : decode cX3_byteOf 7 = .ok (.getfield 20, 3) := by decide +kernel
theorem dX3_byteOf_10 : decode cX3_byteOf 10 = .ok (.iload_n 1, 1) := by decide +kernel
theorem dX3_byteOf_11 : decode cX3_byteOf 11 = .ok (.iaload, 1) := by decide +kernel
theorem dX3_byteOf_12 : decode cX3_byteOf 12 = .ok (.imul, 1) := by decide +kernel
theorem dX3_byteOf_13 : decode cX3_byteOf 13 = .ok (.aload_n 0, 1) := by decide +kernel
theorem dX3_byteOf_14 : decode cX3_byteOf 14 = .ok (.getfield 23, 3) := by decide +kernel
theorem dX3_byteOf_17 : decode cX3_byteOf 17 = .ok (.iload_n 1, 1) := by decide +kernel
theorem dX3_byteOf_18 : decode cX3_byteOf 18 = .ok (.iaload, 1) := by decide +kernel
theorem dX3_byteOf_19 : decode cX3_byteOf 19 = .ok (.iadd, 1) := by decide +kernel
theorem dX3_byteOf_20 : decode cX3_byteOf 20 = .ok (.iload_n 2, 1) := by decide +kernel
theorem dX3_byteOf_21 : decode cX3_byteOf 21 = .ok (.iadd, 1) := by decide +kernel
theorem dX3_byteOf_22 : decode cX3_byteOf 22 = .ok (.baload, 1) := by decide +kernel
theorem dX3_byteOf_23 : decode cX3_byteOf 23 = .ok (.sipush 255, 3) := by decide +kernel
theorem dX3_byteOf_26 : decode cX3_byteOf 26 = .ok (.iand, 1) := by decide +kernel
theorem dX3_byteOf_27 : decode cX3_byteOf 27 = .ok (.ireturn, 1) := by decide +kernel
set_option maxRecDepth 20000 in
theorem ggX3_get_X3_isObject : GoodIn wsX3_get wsX3_isObject := goodIn_r _ [11, 12, 34, 35, 36, 37, 38, 39, 40, 41, 42, 43, 44, 45, 46, 47, 48, 49, 50, 51, 52] (by decide +kernel) (by decide +kernel)
set_option maxRecDepth 20000 in
theorem gX3_get_X3_isObject : GoodIn wsX3_get (wsV RX3 90 RX3 yX3_isObject wsX3_isObject) := goodIn_app (goodIn_of _ (by decide +kernel)) ggX3_get_X3_isObject
set_option maxRecDepth 20000 in
theorem ggX3_get_X3_isView : GoodIn wsX3_get wsX3_isView := goodIn_r _ [16, 3, 17, 18, 10, 19, 34, 35, 36, 37, 38, 39, 40, 41, 42, 43, 44, 45, 46, 47, 48, 49, 50, 51, 52] (by decide +kernel) (by decide +kernel)
set_option maxRecDepth 20000 in
theorem gX3_get_X3_isView : GoodIn wsX3_get (wsV RX3 97 RX3 yX3_isView wsX3_isView) := goodIn_app (goodIn_of _ (by decide +kernel)) ggX3_get_X3_isView
set_option maxRecDepth 20000 in
theorem ggX3_get_X3_accessOf : GoodIn wsX3_get wsX3_accessOf := goodIn_r _ [23, 24, 25, 26, 27, 10, 28, 3, 5, 34, 35, 36, 37, 38, 39, 40, 41, 42, 43, 44, 45, 46, 47, 48, 49, 50, 51, 52] (by decide +kernel) (by decide +kernel)
set_option maxRecDepth 20000 in
theorem gX3_get_X3_accessOf : GoodIn wsX3_get (wsV RX3 94 RX3 yX3_accessOf wsX3_accessOf) := goodIn_app (goodIn_of _ (by decide +kernel)) ggX3_get_X3_accessOf
set_option maxRecDepth 20000 in
theorem ggX3_get_X3_within : GoodIn wsX3_get wsX3_within := goodIn_r _ [19] (by decide +kernel) (by decide +kernel)
set_option maxRecDepth 20000 in
theorem gX3_get_X3_within : GoodIn wsX3_get (va_wsS RX3 68 yX3_within wsX3_within) := goodIn_app (goodIn_of _ (by decide +kernel)) ggX3_get_X3_within
set_option maxRecDepth 20000 in
theorem ggX3_get_X3_byteOf : GoodIn wsX3_get wsX3_byteOf := goodIn_r _ [32, 33, 5, 6, 34, 35, 36, 37, 38, 39, 40, 41, 42, 43, 44, 45, 46, 47, 48, 49, 50, 51, 52] (by decide +kernel) (by decide +kernel)
set_option maxRecDepth 20000 in
theorem gX3_get_X3_byteOf : GoodIn wsX3_get (wsV RX3 100 RX3 yX3_byteOf wsX3_byteOf) := goodIn_app (goodIn_of _ (by decide +kernel)) ggX3_get_X3_byteOf
theorem dX3_get_0 : decode cX3_get 0 = .ok (.aload_n 0, 1) := by decide +kernel
theorem dX3_get_1 : decode cX3_get 1 = .ok (.iconst 0, 1) := by decide +kernel
theorem dX3_get_2 : decode cX3_get 2 = .ok (.putfield 65, 3) := by decide +kernel
theorem dX3_get_5 : decode cX3_get 5 = .ok (.aload_n 0, 1) := by decide +kernel
theorem dX3_get_6 : decode cX3_get 6 = .ok (.iload_n 1, 1) := by decide +kernel
theorem dX3_get_7 : decode cX3_get 7 = .ok (.invokevirtual 90, 3) := by decide +kernel
theorem dX3_get_10 : decode cX3_get 10 = .ok (.ifCond .ne 5, 3) := by decide +kernel
theorem dX3_get_13 : decode cX3_get 13 = .ok (.iconst (-1), 1) := by decide +kernel
theorem dX3_get_14 : decode cX3_get 14 = .ok (.ireturn, 1) := by decide +kernel
theorem dX3_get_15 : decode cX3_get 15 = .ok (.aload_n 0, 1) := by decide +kernel
theorem dX3_get_16 : decode cX3_get 16 = .ok (.iload_n 1, 1) := by decide +kernel
theorem dX3_get_17 : decode cX3_get 17 = .ok (.invokevirtual 97, 3) := by decide +kernel
theorem dX3_get_20 : decode cX3_get 20 = .ok (.ifCond .eq 12, 3) := by decide +kernel
theorem dX3_get_23 : decode cX3_get 23 = .ok (.aload_n 0, 1) := by decide +kernel
theorem dX3_get_24 : decode cX3_get 24 = .ok (.iload_n 1, 1) := by decide +kernel
theorem dX3_get_25 : decode cX3_get 25 = .ok (.invokevirtual 94, 3) := by decide +kernel
theorem dX3_get_28 : decode cX3_get 28 = .ok (.iconst 2, 1) := by decide +kernel
theorem dX3_get_29 : decode cX3_get 29 = .ok (.if_icmp .ge 6, 3) := by decide +kernel
theorem dX3_get_32 : decode cX3_get 32 = .ok (.bipush (-3), 2) := by decide +kernel
theorem dX3_get_34 : decode cX3_get 34 = .ok (.ireturn, 1) := by decide +kernel
theorem dX3_get_35 : decode cX3_get 35 = .ok (.iload_n 2, 1) := by decide +kernel
theorem dX3_get_36 : decode cX3_get 36 = .ok (.iconst 0, 1) := by decide +kernel
theorem dX3_get_37 : decode cX3_get 37 = .ok (.aload_n 0, 1) := by decide +kernel
theorem dX3_get_38 : decode cX3_get 38 = .ok (.getfield 26, 3) := by decide +kernel
theorem dX3_get_41 : decode cX3_get 41 = .ok (.iload_n 1, 1) := by decide +kernel
theorem dX3_get_42 : decode cX3_get 42 = .ok (.iaload, 1) := by decide +kernel
theorem dX3_get_43 : decode cX3_get 43 = .ok (.iconst 1, 1) := by decide +kernel
theorem dX3_get_44 : decode cX3_get 44 = .ok (.isub, 1) := by decide +kernel
theorem dX3_get_45 : decode cX3_get 45 = .ok (.invokestatic 68, 3) := by decide +kernel
theorem dX3_get_48 : decode cX3_get 48 = .ok (.ifCond .ne 10, 3) := by decide +kernel
theorem dX3_get_51 : decode cX3_get 51 = .ok (.aload_n 0, 1) := by decide +kernel
theorem dX3_get_52 : decode cX3_get 52 = .ok (.iconst 1, 1) := by decide +kernel
theorem dX3_get_53 : decode cX3_get 53 = .ok (.putfield 65, 3) := by decide +kernel
theorem dX3_get_56 : decode cX3_get 56 = .ok (.iconst 0, 1) := by decide +kernel
theorem dX3_get_57 : decode cX3_get 57 = .ok (.ireturn, 1) := by decide +kernel
theorem dX3_get_58 : decode cX3_get 58 = .ok (.aload_n 0, 1) := by decide +kernel
theorem dX3_get_59 : decode cX3_get 59 = .ok (.getfield 16, 3) := by decide +kernel
theorem dX3_get_62 : decode cX3_get 62 = .ok (.iload_n 1, 1) := by decide +kernel
theorem dX3_get_63 : decode cX3_get 63 = .ok (.iaload, 1) := by decide +kernel
theorem dX3_get_64 : decode cX3_get 64 = .ok (.iconst 4, 1) := by decide +kernel
theorem dX3_get_65 : decode cX3_get 65 = .ok (.if_icmp .ne 12, 3) := by decide +kernel
theorem dX3_get_68 : decode cX3_get 68 = .ok (.aload_n 0, 1) := by decide +kernel
theorem dX3_get_69 : decode cX3_get 69 = .ok (.iload_n 1, 1) := by decide +kernel
theorem dX3_get_70 : decode cX3_get 70 = .ok (.iload_n 2, 1) := by decide +kernel
theorem dX3_get_71 : decode cX3_get 71 = .ok (.invokevirtual 100, 3) := by decide +kernel
theorem dX3_get_74 : decode cX3_get 74 = .ok (.goto 26, 3) := by decide +kernel
theorem dX3_get_77 : decode cX3_get 77 = .ok (.aload_n 0, 1) := by decide +kernel
theorem dX3_get_78 : decode cX3_get 78 = .ok (.getfield 40, 3) := by decide +kernel
theorem dX3_get_81 : decode cX3_get 81 = .ok (.bipush 32, 2) := by decide +kernel
theorem dX3_get_83 : decode cX3_get 83 = .ok (.aload_n 0, 1) := by decide +kernel
theorem dX3_get_84 : decode cX3_get 84 = .ok (.getfield 20, 3) := by decide +kernel
theorem dX3_get_87 : decode cX3_get 87 = .ok (.iload_n 1, 1) := by decide +kernel
theorem dX3_get_88 : decode cX3_get 88 = .ok (.iaload, 1) := by decide +kernel
theorem dX3_get_89 : decode cX3_get 89 = .ok (.imul, 1) := by decide +kernel
theorem dX3_get_90 : decode cX3_get 90 = .ok (.aload_n 0, 1) := by decide +kernel
theorem dX3_get_91 : decode cX3_get 91 = .ok (.getfield 23, 3) := by decide +kernel
theorem dX3_get_94 : decode cX3_get 94 = .ok (.iload_n 1, 1) := by decide +kernel
theorem dX3_get_95 : decode cX3_get 95 = .ok (.iaload, 1) := by decide +kernel
theorem dX3_get_96 : decode cX3_get 96 = .ok (.iadd, 1) := by decide +kernel
theorem dX3_get_97 : decode cX3_get 97 = .ok (.iload_n 2, 1) := by decide +kernel
theorem dX3_get_98 : decode cX3_get 98 = .ok (.iadd, 1) := by decide +kernel
theorem dX3_get_99 : decode cX3_get 99 = .ok (.iaload, 1) := by decide +kernel
theorem dX3_get_100 : decode cX3_get 100 = .ok (.ireturn, 1) := by decide +kernel
set_option maxRecDepth 20000 in
theorem ggX3_part_X3_isObject : GoodIn wsX3_part wsX3_isObject := goodIn_r _ [14, 4, 34, 35, 36, 37, 38, 39, 40, 41, 42, 43, 44, 45, 46, 47, 48, 49, 50, 51, 52] (by decide +kernel) (by decide +kernel)
set_option maxRecDepth 20000 in
theorem gX3_part_X3_isObject : GoodIn wsX3_part (wsV RX3 90 RX3 yX3_isObject wsX3_isObject) := goodIn_app (goodIn_of _ (by decide +kernel)) ggX3_part_X3_isObject
set_option maxRecDepth 20000 in
theorem ggX3_part_X3_isView : GoodIn wsX3_part wsX3_isView := goodIn_r _ [18, 3, 19, 20, 13, 21, 34, 35, 36, 37, 38, 39, 40, 41, 42, 43, 44, 45, 46, 47, 48, 49, 50, 51, 52] (by decide +kernel) (by decide +kernel)
set_option maxRecDepth 20000 in
theorem gX3_part_X3_isView : GoodIn wsX3_part (wsV RX3 97 RX3 yX3_isView wsX3_isView) := goodIn_app (goodIn_of _ (by decide +kernel)) ggX3_part_X3_isView
set_option maxRecDepth 20000 in
theorem ggX3_part_X3_accessOf : GoodIn wsX3_part wsX3_accessOf := goodIn_r _ [25, 8, 26, 27, 28, 13, 29, 3, 5, 34, 35, 36, 37, 38, 39, 40, 41, 42, 43, 44, 45, 46, 47, 48, 49, 50, 51, 52] (by decide +kernel) (by decide +kernel)
set_option maxRecDepth 20000 in
theorem gX3_part_X3_accessOf : GoodIn wsX3_part (wsV RX3 94 RX3 yX3_accessOf wsX3_accessOf) := goodIn_app (goodIn_of _ (by decide +kernel)) ggX3_part_X3_accessOf
set_option maxRecDepth 20000 in
theorem ggX3_part_X3_blank : GoodIn wsX3_part wsX3_blank := goodIn_r _ [33, 3, 5, 6, 2, 7, 8, 34, 35, 36, 37, 38, 39, 40, 41, 42, 43, 44, 45, 46, 47, 48, 49, 50, 51, 52] (by decide +kernel) (by decide +kernel)
set_option maxRecDepth 20000 in
theorem gX3_part_X3_blank : GoodIn wsX3_part (wsV RX3 87 RX3 yX3_blank wsX3_blank) := goodIn_app (goodIn_of _ (by decide +kernel)) ggX3_part_X3_blank
theorem dX3_part_0 : decode cX3_part 0 = .ok (.aload_n 0, 1) := by decide +kernel
theorem dX3_part_1 : decode cX3_part 1 = .ok (.iconst 0, 1) := by decide +kernel
theorem dX3_part_2 : decode cX3_part 2 = .ok (.putfield 65, 3) := by decide +kernel
theorem dX3_part_5 : decode cX3_part 5 = .ok (.aload_n 0, 1) := by decide +kernel
theorem dX3_part_6 : decode cX3_part 6 = .ok (.iload_n 1, 1) := by decide +kernel
theorem dX3_part_7 : decode cX3_part 7 = .ok (.invokevirtual 90, 3) := by decide +kernel
theorem dX3_part_10 : decode cX3_part 10 = .ok (.ifCond .ne 5, 3) := by decide +kernel
theorem dX3_part_13 : decode cX3_part 13 = .ok (.iconst (-1), 1) := by decide +kernel
theorem dX3_part_14 : decode cX3_part 14 = .ok (.ireturn, 1) := by decide +kernel
theorem dX3_part_15 : decode cX3_part 15 = .ok (.aload_n 0, 1) := by decide +kernel
theorem dX3_part_16 : decode cX3_part 16 = .ok (.iload_n 1, 1) := by decide +kernel
theorem dX3_part_17 : decode cX3_part 17 = .ok (.invokevirtual 97, 3) := by decide +kernel
theorem dX3_part_20 : decode cX3_part 20 = .ok (.ifCond .eq 36, 3) := by decide +kernel
theorem dX3_part_23 : decode cX3_part 23 = .ok (.iload_n 2, 1) := by decide +kernel
theorem dX3_part_24 : decode cX3_part 24 = .ok (.ifCond .lt 29, 3) := by decide +kernel
theorem dX3_part_27 : decode cX3_part 27 = .ok (.iload_n 3, 1) := by decide +kernel
theorem dX3_part_28 : decode cX3_part 28 = .ok (.ifCond .lt 25, 3) := by decide +kernel
theorem dX3_part_31 : decode cX3_part 31 = .ok (.iload_n 2, 1) := by decide +kernel
theorem dX3_part_32 : decode cX3_part 32 = .ok (.aload_n 0, 1) := by decide +kernel
theorem dX3_part_33 : decode cX3_part 33 = .ok (.getfield 26, 3) := by decide +kernel
theorem dX3_part_36 : decode cX3_part 36 = .ok (.iload_n 1, 1) := by decide +kernel
theorem dX3_part_37 : decode cX3_part 37 = .ok (.iaload, 1) := by decide +kernel
theorem dX3_part_38 : decode cX3_part 38 = .ok (.if_icmp .gt 15, 3) := by decide +kernel
theorem dX3_part_41 : decode cX3_part 41 = .ok (.iload_n 3, 1) := by decide +kernel
theorem dX3_part_42 : decode cX3_part 42 = .ok (.aload_n 0, 1) := by decide +kernel
theorem dX3_part_43 : decode cX3_part 43 = .ok (.getfield 26, 3) := by decide +kernel
theorem dX3_part_46 : decode cX3_part 46 = .ok (.iload_n 1, 1) := by decide +kernel
theorem dX3_part_47 : decode cX3_part 47 = .ok (.iaload, 1) := by decide +kernel
theorem dX3_part_48 : decode cX3_part 48 = .ok (.iload_n 2, 1) := by decide +kernel
theorem dX3_part_49 : decode cX3_part 49 = .ok (.isub, 1) := by decide +kernel
theorem dX3_part_50 : decode cX3_part 50 = .ok (.if_icmp .le 6, 3) := by decide +kernel
theorem dX3_part_53 : decode cX3_part 53 = .ok (.bipush (-2), 2) := by decide +kernel
theorem dX3_part_55 : decode cX3_part 55 = .ok (.ireturn, 1) := by decide +kernel
theorem dX3_part_56 : decode cX3_part 56 = .ok (.aload_n 0, 1) := by decide +kernel
theorem dX3_part_57 : decode cX3_part 57 = .ok (.iload_n 1, 1) := by decide +kernel
theorem dX3_part_58 : decode cX3_part 58 = .ok (.invokevirtual 97, 3) := by decide +kernel
theorem dX3_part_61 : decode cX3_part 61 = .ok (.ifCond .ne 14, 3) := by decide +kernel
theorem dX3_part_64 : decode cX3_part 64 = .ok (.aload_n 0, 1) := by decide +kernel
theorem dX3_part_65 : decode cX3_part 65 = .ok (.getfield 16, 3) := by decide +kernel
theorem dX3_part_68 : decode cX3_part 68 = .ok (.iload_n 1, 1) := by decide +kernel
theorem dX3_part_69 : decode cX3_part 69 = .ok (.iaload, 1) := by decide +kernel
theorem dX3_part_70 : decode cX3_part 70 = .ok (.bipush 7, 2) := by decide +kernel
theorem dX3_part_72 : decode cX3_part 72 = .ok (.if_icmp .ne 12, 3) := by decide +kernel
theorem dX3_part_75 : decode cX3_part 75 = .ok (.aload_n 0, 1) := by decide +kernel
theorem dX3_part_76 : decode cX3_part 76 = .ok (.iload_n 1, 1) := by decide +kernel
theorem dX3_part_77 : decode cX3_part 77 = .ok (.invokevirtual 94, 3) := by decide +kernel
theorem dX3_part_80 : decode cX3_part 80 = .ok (.iconst 2, 1) := by decide +kernel
theorem dX3_part_81 : decode cX3_part 81 = .ok (.if_icmp .ge 6, 3) := by decide +kernel
theorem dX3_part_84 : decode cX3_part 84 = .ok (.bipush (-3), 2) := by decide +kernel
theorem dX3_part_86 : decode cX3_part 86 = .ok (.ireturn, 1) := by decide +kernel
theorem dX3_part_87 : decode cX3_part 87 = .ok (.aload_n 0, 1) := by decide +kernel
theorem dX3_part_88 : decode cX3_part 88 = .ok (.getfield 7, 3) := by decide +kernel
theorem dX3_part_91 : decode cX3_part 91 = .ok (.bipush 100, 2) := by decide +kernel
theorem dX3_part_93 : decode cX3_part 93 = .ok (.if_icmp .ne 6, 3) := by decide +kernel
theorem dX3_part_96 : decode cX3_part 96 = .ok (.bipush (-4), 2) := by decide +kernel
theorem dX3_part_98 : decode cX3_part 98 = .ok (.ireturn, 1) := by decide +kernel
theorem dX3_part_99 : decode cX3_part 99 = .ok (.aload_n 0, 1) := by decide +kernel
theorem dX3_part_100 : decode cX3_part 100 = .ok (.getfield 7, 3) := by decide +kernel
theorem dX3_part_103 : decode cX3_part 103 = .ok (.istore 4, 2) := by decide +kernel
theorem dX3_part_105 : decode cX3_part 105 = .ok (.aload_n 0, 1) := by decide +kernel
theorem dX3_part_106 : decode cX3_part 106 = .ok (.iload 4, 2) := by decide +kernel
theorem dX3_part_108 : decode cX3_part 108 = .ok (.aload_n 0, 1) := by decide +kernel
theorem dX3_part_109 : decode cX3_part 109 = .ok (.getfield 16, 3) := by decide +kernel
theorem dX3_part_112 : decode cX3_part 112 = .ok (.iload_n 1, 1) := by decide +kernel
theorem dX3_part_113 : decode cX3_part 113 = .ok (.iaload, 1) := by decide +kernel
theorem dX3_part_114 : decode cX3_part 114 = .ok (.invokevirtual 87, 3) := by decide +kernel
theorem dX3_part_117 : decode cX3_part 117 = .ok (.aload_n 0, 1) := by decide +kernel
theorem dX3_part_118 : decode cX3_part 118 = .ok (.getfield 20, 3) := by decide +kernel
theorem dX3_part_121 : decode cX3_part 121 = .ok (.iload 4, 2) := by decide +kernel
theorem dX3_part_123 : decode cX3_part 123 = .ok (.aload_n 0, 1) := by decide +kernel
theorem dX3_part_124 : decode cX3_part 124 = .ok (.getfield 20, 3) := by decide +kernel
theorem dX3_part_127 : decode cX3_part 127 = .ok (.iload_n 1, 1) := by decide +kernel
theorem dX3_part_128 : decode cX3_part 128 = .ok (.iaload, 1) := by decide +kernel
theorem dX3_part_129 : decode cX3_part 129 = .ok (.iastore, 1) := by decide +kernel
theorem dX3_part_130 : decode cX3_part 130 = .ok (.aload_n 0, 1) := by decide +kernel
theorem dX3_part_131 : decode cX3_part 131 = .ok (.getfield 23, 3) := by decide +kernel
theorem dX3_part_134 : decode cX3_part 134 = .ok (.iload 4, 2) := by decide +kernel
theorem dX3_part_136 : decode cX3_part 136 = .ok (.aload_n 0, 1) := by decide +kernel
theorem dX3_part_137 : decode cX3_part 137 = .ok (.iload_n 1, 1) := by decide +kernel
theorem dX3_part_138 : decode cX3_part 138 = .ok (.invokevirtual 97, 3) := by decide +kernel
theorem dX3_part_141 : decode cX3_part 141 = .ok (.ifCond .eq 14, 3) := by decide +kernel
theorem dX3_part_144 : decode cX3_part 144 = .ok (.aload_n 0, 1) := by decide +kernel
theorem dX3_part_145 : decode cX3_part 145 = .ok (.getfield 23, 3) := by decide +kernel
theorem dX3_part_148 : decode cX3_part 148 = .ok (.iload_n 1, 1) := by decide +kernel
theorem dX3_part_149 : decode cX3_part 149 = .ok (.iaload, 1) := by decide +kernel
theorem dX3_part_150 : decode cX3_part 150 = .ok (.iload_n 2, 1) := by decide +kernel
theorem dX3_part_151 : decode cX3_part 151 = .ok (.iadd, 1) := by decide +kernel
theorem dX3_part_152 : decode cX3_part 152 = .ok (.goto 4, 3) := by decide +kernel
theorem dX3_part_155 : decode cX3_part 155 = .ok (.iconst 0, 1) := by decide +kernel
theorem dX3_part_156 : decode cX3_part 156 = .ok (.iastore, 1) := by decide +kernel
theorem dX3_part_157 : decode cX3_part 157 = .ok (.aload_n 0, 1) := by decide +kernel
theorem dX3_part_158 : decode cX3_part 158 = .ok (.getfield 26, 3) := by decide +kernel
theorem dX3_part_161 : decode cX3_part 161 = .ok (.iload 4, 2) := by decide +kernel
theorem dX3_part_163 : decode cX3_part 163 = .ok (.aload_n 0, 1) := by decide +kernel
theorem dX3_part_164 : decode cX3_part 164 = .ok (.iload_n 1, 1) := by decide +kernel
theorem dX3_part_165 : decode cX3_part 165 = .ok (.invokevirtual 97, 3) := by decide +kernel
theorem dX3_part_168 : decode cX3_part 168 = .ok (.ifCond .eq 7, 3) := by decide +kernel
theorem dX3_part_171 : decode cX3_part 171 = .ok (.iload_n 3, 1) := by decide +kernel
theorem dX3_part_172 : decode cX3_part 172 = .ok (.goto 4, 3) := by decide +kernel
theorem dX3_part_175 : decode cX3_part 175 = .ok (.iconst 0, 1) := by decide +kernel
theorem dX3_part_176 : decode cX3_part 176 = .ok (.iastore, 1) := by decide +kernel
theorem dX3_part_177 : decode cX3_part 177 = .ok (.aload_n 0, 1) := by decide +kernel
theorem dX3_part_178 : decode cX3_part 178 = .ok (.getfield 33, 3) := by decide +kernel
theorem dX3_part_181 : decode cX3_part 181 = .ok (.iload 4, 2) := by decide +kernel
theorem dX3_part_183 : decode cX3_part 183 = .ok (.aload_n 0, 1) := by decide +kernel
theorem dX3_part_184 : decode cX3_part 184 = .ok (.getfield 33, 3) := by decide +kernel
theorem dX3_part_187 : decode cX3_part 187 = .ok (.iload_n 1, 1) := by decide +kernel
theorem dX3_part_188 : decode cX3_part 188 = .ok (.baload, 1) := by decide +kernel
theorem dX3_part_189 : decode cX3_part 189 = .ok (.bastore, 1) := by decide +kernel
theorem dX3_part_190 : decode cX3_part 190 = .ok (.aload_n 0, 1) := by decide +kernel
theorem dX3_part_191 : decode cX3_part 191 = .ok (.getfield 37, 3) := by decide +kernel
theorem dX3_part_194 : decode cX3_part 194 = .ok (.iload 4, 2) := by decide +kernel
theorem dX3_part_196 : decode cX3_part 196 = .ok (.aload_n 0, 1) := by decide +kernel
theorem dX3_part_197 : decode cX3_part 197 = .ok (.iload_n 1, 1) := by decide +kernel
theorem dX3_part_198 : decode cX3_part 198 = .ok (.invokevirtual 94, 3) := by decide +kernel
theorem dX3_part_201 : decode cX3_part 201 = .ok (.iastore, 1) := by decide +kernel
theorem dX3_part_202 : decode cX3_part 202 = .ok (.aload_n 0, 1) := by decide +kernel
theorem dX3_part_203 : decode cX3_part 203 = .ok (.dup, 1) := by decide +kernel
theorem dX3_part_204 : decode cX3_part 204 = .ok (.getfield 13, 3) := by decide +kernel
theorem dX3_part_207 : decode cX3_part 207 = .ok (.bipush 8, 2) := by decide +kernel
theorem dX3_part_209 : decode cX3_part 209 = .ok (.iadd, 1) := by decide +kernel
theorem dX3_part_210 : decode cX3_part 210 = .ok (.putfield 13, 3) := by decide +kernel
theorem dX3_part_213 : decode cX3_part 213 = .ok (.aload_n 0, 1) := by decide +kernel
theorem dX3_part_214 : decode cX3_part 214 = .ok (.dup, 1) := by decide +kernel
theorem dX3_part_215 : decode cX3_part 215 = .ok (.getfield 7, 3) := by decide +kernel
theorem dX3_part_218 : decode cX3_part 218 = .ok (.iconst 1, 1) := by decide +kernel
theorem dX3_part_219 : decode cX3_part 219 = .ok (.iadd, 1) := by decide +kernel
theorem dX3_part_220 : decode cX3_part 220 = .ok (.putfield 7, 3) := by decide +kernel
theorem dX3_part_223 : decode cX3_part 223 = .ok (.iload 4, 2) := by decide +kernel
theorem dX3_part_225 : decode cX3_part 225 = .ok (.ireturn, 1) := by decide +kernel
set_option maxRecDepth 20000 in
theorem ggX3_attribute_X3_isObject : GoodIn wsX3_attribute wsX3_isObject := goodIn_r _ [11, 12, 28, 29, 30, 31, 32, 33, 34, 35, 36, 37, 38, 39, 40, 41, 42, 43, 44, 45, 46] (by decide +kernel) (by decide +kernel)
set_option maxRecDepth 20000 in
theorem gX3_attribute_X3_isObject : GoodIn wsX3_attribute (wsV RX3 90 RX3 yX3_isObject wsX3_isObject) := goodIn_app (goodIn_of _ (by decide +kernel)) ggX3_attribute_X3_isObject
set_option maxRecDepth 20000 in
theorem ggX3_attribute_X3_within : GoodIn wsX3_attribute wsX3_within := goodIn_r _ [15] (by decide +kernel) (by decide +kernel)
set_option maxRecDepth 20000 in
theorem gX3_attribute_X3_within : GoodIn wsX3_attribute (va_wsS RX3 68 yX3_within wsX3_within) := goodIn_app (goodIn_of _ (by decide +kernel)) ggX3_attribute_X3_within
set_option maxRecDepth 20000 in
theorem ggX3_attribute_X3_hasAccess : GoodIn wsX3_attribute wsX3_hasAccess := goodIn_r _ [19, 2, 13, 14, 10, 15, 28, 29, 30, 31, 32, 33, 34, 35, 36, 37, 38, 39, 40, 41, 42, 43, 44, 45, 46] (by decide +kernel) (by decide +kernel)
set_option maxRecDepth 20000 in
theorem gX3_attribute_X3_hasAccess : GoodIn wsX3_attribute (wsV RX3 104 RX3 yX3_hasAccess wsX3_hasAccess) := goodIn_app (goodIn_of _ (by decide +kernel)) ggX3_attribute_X3_hasAccess
set_option maxRecDepth 20000 in
theorem ggX3_attribute_X3_accessOf : GoodIn wsX3_attribute wsX3_accessOf := goodIn_r _ [23, 4, 24, 25, 26, 10, 27, 2, 6, 28, 29, 30, 31, 32, 33, 34, 35, 36, 37, 38, 39, 40, 41, 42, 43, 44, 45, 46] (by decide +kernel) (by decide +kernel)
set_option maxRecDepth 20000 in
theorem gX3_attribute_X3_accessOf : GoodIn wsX3_attribute (wsV RX3 94 RX3 yX3_accessOf wsX3_accessOf) := goodIn_app (goodIn_of _ (by decide +kernel)) ggX3_attribute_X3_accessOf
set_option maxRecDepth 20000 in
theorem ggX3_attribute_X3_holder : GoodIn wsX3_attribute wsX3_holder := goodIn_r _ [27, 2, 6, 28, 29, 30, 31, 32, 33, 34, 35, 36, 37, 38, 39, 40, 41, 42, 43, 44, 45, 46] (by decide +kernel) (by decide +kernel)
set_option maxRecDepth 20000 in
theorem gX3_attribute_X3_holder : GoodIn wsX3_attribute (wsV RX3 72 RX3 yX3_holder wsX3_holder) := goodIn_app (goodIn_of _ (by decide +kernel)) ggX3_attribute_X3_holder
theorem dX3_attribute_0 : decode cX3_attribute 0 = .ok (.aload_n 0, 1) := by decide +kernel
theorem dX3_attribute_1 : decode cX3_attribute 1 = .ok (.iconst 0, 1) := by decide +kernel
theorem dX3_attribute_2 : decode cX3_attribute 2 = .ok (.putfield 65, 3) := by decide +kernel
theorem dX3_attribute_5 : decode cX3_attribute 5 = .ok (.aload_n 0, 1) := by decide +kernel
theorem dX3_attribute_6 : decode cX3_attribute 6 = .ok (.iload_n 1, 1) := by decide +kernel
theorem dX3_attribute_7 : decode cX3_attribute 7 = .ok (.invokevirtual 90, 3) := by decide +kernel
theorem dX3_attribute_10 : decode cX3_attribute 10 = .ok (.ifCond .ne 5, 3) := by decide +kernel
theorem dX3_attribute_13 : decode cX3_attribute 13 = .ok (.iconst (-1), 1) := by decide +kernel
theorem dX3_attribute_14 : decode cX3_attribute 14 = .ok (.ireturn, 1) := by decide +kernel
theorem dX3_attribute_15 : decode cX3_attribute 15 = .ok (.iload_n 2, 1) := by decide +kernel
theorem dX3_attribute_16 : decode cX3_attribute 16 = .ok (.iconst 0, 1) := by decide +kernel
theorem dX3_attribute_17 : decode cX3_attribute 17 = .ok (.iconst 2, 1) := by decide +kernel
theorem dX3_attribute_18 : decode cX3_attribute 18 = .ok (.invokestatic 68, 3) := by decide +kernel
theorem dX3_attribute_21 : decode cX3_attribute 21 = .ok (.ifCond .eq 21, 3) := by decide +kernel
theorem dX3_attribute_24 : decode cX3_attribute 24 = .ok (.iload_n 3, 1) := by decide +kernel
theorem dX3_attribute_25 : decode cX3_attribute 25 = .ok (.iconst 0, 1) := by decide +kernel
theorem dX3_attribute_26 : decode cX3_attribute 26 = .ok (.iload_n 2, 1) := by decide +kernel
theorem dX3_attribute_27 : decode cX3_attribute 27 = .ok (.iconst 1, 1) := by decide +kernel
theorem dX3_attribute_28 : decode cX3_attribute 28 = .ok (.if_icmp .ne 7, 3) := by decide +kernel
theorem dX3_attribute_31 : decode cX3_attribute 31 = .ok (.iconst 3, 1) := by decide +kernel
theorem dX3_attribute_32 : decode cX3_attribute 32 = .ok (.goto 4, 3) := by decide +kernel
theorem dX3_attribute_35 : decode cX3_attribute 35 = .ok (.iconst 1, 1) := by decide +kernel
theorem dX3_attribute_36 : decode cX3_attribute 36 = .ok (.invokestatic 68, 3) := by decide +kernel
theorem dX3_attribute_39 : decode cX3_attribute 39 = .ok (.ifCond .ne 6, 3) := by decide +kernel
theorem dX3_attribute_42 : decode cX3_attribute 42 = .ok (.bipush (-2), 2) := by decide +kernel
theorem dX3_attribute_44 : decode cX3_attribute 44 = .ok (.ireturn, 1) := by decide +kernel
theorem dX3_attribute_45 : decode cX3_attribute 45 = .ok (.iload_n 2, 1) := by decide +kernel
theorem dX3_attribute_46 : decode cX3_attribute 46 = .ok (.iconst 1, 1) := by decide +kernel
theorem dX3_attribute_47 : decode cX3_attribute 47 = .ok (.if_icmp .ne 20, 3) := by decide +kernel
theorem dX3_attribute_50 : decode cX3_attribute 50 = .ok (.aload_n 0, 1) := by decide +kernel
theorem dX3_attribute_51 : decode cX3_attribute 51 = .ok (.iload_n 1, 1) := by decide +kernel
theorem dX3_attribute_52 : decode cX3_attribute 52 = .ok (.invokevirtual 104, 3) := by decide +kernel
theorem dX3_attribute_55 : decode cX3_attribute 55 = .ok (.ifCond .eq 28, 3) := by decide +kernel
theorem dX3_attribute_58 : decode cX3_attribute 58 = .ok (.iload_n 3, 1) := by decide +kernel
theorem dX3_attribute_59 : decode cX3_attribute 59 = .ok (.aload_n 0, 1) := by decide +kernel
theorem dX3_attribute_60 : decode cX3_attribute 60 = .ok (.iload_n 1, 1) := by decide +kernel
theorem dX3_attribute_61 : decode cX3_attribute 61 = .ok (.invokevirtual 94, 3) := by decide +kernel
theorem dX3_attribute_64 : decode cX3_attribute 64 = .ok (.if_icmp .gt 19, 3) := by decide +kernel
theorem dX3_attribute_67 : decode cX3_attribute 67 = .ok (.iload_n 2, 1) := by decide +kernel
theorem dX3_attribute_68 : decode cX3_attribute 68 = .ok (.iconst 2, 1) := by decide +kernel
theorem dX3_attribute_69 : decode cX3_attribute 69 = .ok (.if_icmp .ne 17, 3) := by decide +kernel
theorem dX3_attribute_72 : decode cX3_attribute 72 = .ok (.aload_n 0, 1) := by decide +kernel
theorem dX3_attribute_73 : decode cX3_attribute 73 = .ok (.getfield 16, 3) := by decide +kernel
theorem dX3_attribute_76 : decode cX3_attribute 76 = .ok (.iload_n 1, 1) := by decide +kernel
theorem dX3_attribute_77 : decode cX3_attribute 77 = .ok (.iaload, 1) := by decide +kernel
theorem dX3_attribute_78 : decode cX3_attribute 78 = .ok (.bipush 7, 2) := by decide +kernel
theorem dX3_attribute_80 : decode cX3_attribute 80 = .ok (.if_icmp .eq 6, 3) := by decide +kernel
theorem dX3_attribute_83 : decode cX3_attribute 83 = .ok (.bipush (-3), 2) := by decide +kernel
theorem dX3_attribute_85 : decode cX3_attribute 85 = .ok (.ireturn, 1) := by decide +kernel
theorem dX3_attribute_86 : decode cX3_attribute 86 = .ok (.iload_n 2, 1) := by decide +kernel
theorem dX3_attribute_87 : decode cX3_attribute 87 = .ok (.ifCond .ne 22, 3) := by decide +kernel
theorem dX3_attribute_90 : decode cX3_attribute 90 = .ok (.aload_n 0, 1) := by decide +kernel
theorem dX3_attribute_91 : decode cX3_attribute 91 = .ok (.getfield 33, 3) := by decide +kernel
theorem dX3_attribute_94 : decode cX3_attribute 94 = .ok (.iload_n 1, 1) := by decide +kernel
theorem dX3_attribute_95 : decode cX3_attribute 95 = .ok (.iload_n 3, 1) := by decide +kernel
theorem dX3_attribute_96 : decode cX3_attribute 96 = .ok (.iconst 1, 1) := by decide +kernel
theorem dX3_attribute_97 : decode cX3_attribute 97 = .ok (.if_icmp .ne 7, 3) := by decide +kernel
theorem dX3_attribute_100 : decode cX3_attribute 100 = .ok (.iconst 1, 1) := by decide +kernel
theorem dX3_attribute_101 : decode cX3_attribute 101 = .ok (.goto 4, 3) := by decide +kernel
theorem dX3_attribute_104 : decode cX3_attribute 104 = .ok (.iconst 0, 1) := by decide +kernel
theorem dX3_attribute_105 : decode cX3_attribute 105 = .ok (.bastore, 1) := by decide +kernel
theorem dX3_attribute_106 : decode cX3_attribute 106 = .ok (.goto 43, 3) := by decide +kernel
theorem dX3_attribute_109 : decode cX3_attribute 109 = .ok (.iload_n 2, 1) := by decide +kernel
theorem dX3_attribute_110 : decode cX3_attribute 110 = .ok (.iconst 1, 1) := by decide +kernel
theorem dX3_attribute_111 : decode cX3_attribute 111 = .ok (.if_icmp .ne 17, 3) := by decide +kernel
theorem dX3_attribute_114 : decode cX3_attribute 114 = .ok (.aload_n 0, 1) := by decide +kernel
theorem dX3_attribute_115 : decode cX3_attribute 115 = .ok (.getfield 37, 3) := by decide +kernel
theorem dX3_attribute_118 : decode cX3_attribute 118 = .ok (.aload_n 0, 1) := by decide +kernel
theorem dX3_attribute_119 : decode cX3_attribute 119 = .ok (.iload_n 1, 1) := by decide +kernel
theorem dX3_attribute_120 : decode cX3_attribute 120 = .ok (.invokevirtual 72, 3) := by decide +kernel
theorem dX3_attribute_123 : decode cX3_attribute 123 = .ok (.iload_n 3, 1) := by decide +kernel
theorem dX3_attribute_124 : decode cX3_attribute 124 = .ok (.iastore, 1) := by decide +kernel
theorem dX3_attribute_125 : decode cX3_attribute 125 = .ok (.goto 24, 3) := by decide +kernel
theorem dX3_attribute_128 : decode cX3_attribute 128 = .ok (.aload_n 0, 1) := by decide +kernel
theorem dX3_attribute_129 : decode cX3_attribute 129 = .ok (.getfield 46, 3) := by decide +kernel
theorem dX3_attribute_132 : decode cX3_attribute 132 = .ok (.aload_n 0, 1) := by decide +kernel
theorem dX3_attribute_133 : decode cX3_attribute 133 = .ok (.getfield 20, 3) := by decide +kernel
theorem dX3_attribute_136 : decode cX3_attribute 136 = .ok (.iload_n 1, 1) := by decide +kernel
theorem dX3_attribute_137 : decode cX3_attribute 137 = .ok (.iaload, 1) := by decide +kernel
theorem dX3_attribute_138 : decode cX3_attribute 138 = .ok (.iload_n 3, 1) := by decide +kernel
theorem dX3_attribute_139 : decode cX3_attribute 139 = .ok (.iconst 1, 1) := by decide +kernel
theorem dX3_attribute_140 : decode cX3_attribute 140 = .ok (.if_icmp .ne 7, 3) := by decide +kernel
theorem dX3_attribute_143 : decode cX3_attribute 143 = .ok (.iconst 1, 1) := by decide +kernel
theorem dX3_attribute_144 : decode cX3_attribute 144 = .ok (.goto 4, 3) := by decide +kernel
theorem dX3_attribute_147 : decode cX3_attribute 147 = .ok (.iconst 0, 1) := by decide +kernel
theorem dX3_attribute_148 : decode cX3_attribute 148 = .ok (.bastore, 1) := by decide +kernel
theorem dX3_attribute_149 : decode cX3_attribute 149 = .ok (.iconst 1, 1) := by decide +kernel
theorem dX3_attribute_150 : decode cX3_attribute 150 = .ok (.ireturn, 1) := by decide +kernel
set_option maxRecDepth 20000 in
theorem ggX3_told_X3_isObject : GoodIn wsX3_told wsX3_isObject := goodIn_r _ [11, 12, 29, 30, 31, 32, 33, 34, 35, 36, 37, 38, 39, 40, 41, 42, 43, 44, 45, 46, 47] (by decide +kernel) (by decide +kernel)
set_option maxRecDepth 20000 in
theorem gX3_told_X3_isObject : GoodIn wsX3_told (wsV RX3 90 RX3 yX3_isObject wsX3_isObject) := goodIn_app (goodIn_of _ (by decide +kernel)) ggX3_told_X3_isObject
set_option maxRecDepth 20000 in
theorem ggX3_told_X3_hasAccess : GoodIn wsX3_told wsX3_hasAccess := goodIn_r _ [16, 2, 17, 18, 10, 19, 29, 30, 31, 32, 33, 34, 35, 36, 37, 38, 39, 40, 41, 42, 43, 44, 45, 46, 47] (by decide +kernel) (by decide +kernel)
set_option maxRecDepth 20000 in
theorem gX3_told_X3_hasAccess : GoodIn wsX3_told (wsV RX3 104 RX3 yX3_hasAccess wsX3_hasAccess) := goodIn_app (goodIn_of _ (by decide +kernel)) ggX3_told_X3_hasAccess
set_option maxRecDepth 20000 in
theorem ggX3_told_X3_accessOf : GoodIn wsX3_told wsX3_accessOf := goodIn_r _ [23, 24, 25, 26, 27, 10, 28, 2, 5, 29, 30, 31, 32, 33, 34, 35, 36, 37, 38, 39, 40, 41, 42, 43, 44, 45, 46, 47] (by decide +kernel) (by decide +kernel)
set_option maxRecDepth 20000 in
theorem gX3_told_X3_accessOf : GoodIn wsX3_told (wsV RX3 94 RX3 yX3_accessOf wsX3_accessOf) := goodIn_app (goodIn_of _ (by decide +kernel)) ggX3_told_X3_accessOf
set_option maxRecDepth 20000 in
theorem ggX3_told_X3_within : GoodIn wsX3_told wsX3_within := goodIn_r _ [19] (by decide +kernel) (by decide +kernel)
set_option maxRecDepth 20000 in
theorem gX3_told_X3_within : GoodIn wsX3_told (va_wsS RX3 68 yX3_within wsX3_within) := goodIn_app (goodIn_of _ (by decide +kernel)) ggX3_told_X3_within
theorem dX3_told_0 : decode cX3_told 0 = .ok (.aload_n 0, 1) := by decide +kernel
theorem dX3_told_1 : decode cX3_told 1 = .ok (.iconst 0, 1) := by decide +kernel
theorem dX3_told_2 : decode cX3_told 2 = .ok (.putfield 65, 3) := by decide +kernel
theorem dX3_told_5 : decode cX3_told 5 = .ok (.aload_n 0, 1) := by decide +kernel
theorem dX3_told_6 : decode cX3_told 6 = .ok (.iload_n 1, 1) := by decide +kernel
theorem dX3_told_7 : decode cX3_told 7 = .ok (.invokevirtual 90, 3) := by decide +kernel
theorem dX3_told_10 : decode cX3_told 10 = .ok (.ifCond .ne 5, 3) := by decide +kernel
theorem dX3_told_13 : decode cX3_told 13 = .ok (.iconst (-1), 1) := by decide +kernel
theorem dX3_told_14 : decode cX3_told 14 = .ok (.ireturn, 1) := by decide +kernel
theorem dX3_told_15 : decode cX3_told 15 = .ok (.aload_n 0, 1) := by decide +kernel
theorem dX3_told_16 : decode cX3_told 16 = .ok (.getfield 16, 3) := by decide +kernel
theorem dX3_told_19 : decode cX3_told 19 = .ok (.iload_n 1, 1) := by decide +kernel
theorem dX3_told_20 : decode cX3_told 20 = .ok (.iaload, 1) := by decide +kernel
theorem dX3_told_21 : decode cX3_told 21 = .ok (.bipush 7, 2) := by decide +kernel
theorem dX3_told_23 : decode cX3_told 23 = .ok (.if_icmp .ne 7, 3) := by decide +kernel
theorem dX3_told_26 : decode cX3_told 26 = .ok (.iconst 1, 1) := by decide +kernel
theorem dX3_told_27 : decode cX3_told 27 = .ok (.goto 4, 3) := by decide +kernel
theorem dX3_told_30 : decode cX3_told 30 = .ok (.iconst 0, 1) := by decide +kernel
theorem dX3_told_31 : decode cX3_told 31 = .ok (.istore_n 3, 1) := by decide +kernel
theorem dX3_told_32 : decode cX3_told 32 = .ok (.iload_n 2, 1) := by decide +kernel
theorem dX3_told_33 : decode cX3_told 33 = .ok (.tableswitch 159 0 4 #[35, 50, 68, 92, 139], 35) := by decide +kernel
theorem dX3_told_68 : decode cX3_told 68 = .ok (.aload_n 0, 1) := by decide +kernel
theorem dX3_told_69 : decode cX3_told 69 = .ok (.getfield 33, 3) := by decide +kernel
theorem dX3_told_72 : decode cX3_told 72 = .ok (.iload_n 1, 1) := by decide +kernel
theorem dX3_told_73 : decode cX3_told 73 = .ok (.baload, 1) := by decide +kernel
theorem dX3_told_74 : decode cX3_told 74 = .ok (.ifCond .eq 7, 3) := by decide +kernel
theorem dX3_told_77 : decode cX3_told 77 = .ok (.iconst 1, 1) := by decide +kernel
theorem dX3_told_78 : decode cX3_told 78 = .ok (.goto 4, 3) := by decide +kernel
theorem dX3_told_81 : decode cX3_told 81 = .ok (.iconst 0, 1) := by decide +kernel
theorem dX3_told_82 : decode cX3_told 82 = .ok (.ireturn, 1) := by decide +kernel
theorem dX3_told_83 : decode cX3_told 83 = .ok (.aload_n 0, 1) := by decide +kernel
theorem dX3_told_84 : decode cX3_told 84 = .ok (.iload_n 1, 1) := by decide +kernel
theorem dX3_told_85 : decode cX3_told 85 = .ok (.invokevirtual 104, 3) := by decide +kernel
theorem dX3_told_88 : decode cX3_told 88 = .ok (.ifCond .eq 11, 3) := by decide +kernel
theorem dX3_told_91 : decode cX3_told 91 = .ok (.aload_n 0, 1) := by decide +kernel
theorem dX3_told_92 : decode cX3_told 92 = .ok (.iload_n 1, 1) := by decide +kernel
theorem dX3_told_93 : decode cX3_told 93 = .ok (.invokevirtual 94, 3) := by decide +kernel
theorem dX3_told_96 : decode cX3_told 96 = .ok (.goto 4, 3) := by decide +kernel
theorem dX3_told_99 : decode cX3_told 99 = .ok (.iconst 0, 1) := by decide +kernel
theorem dX3_told_100 : decode cX3_told 100 = .ok (.ireturn, 1) := by decide +kernel
theorem dX3_told_101 : decode cX3_told 101 = .ok (.iload_n 3, 1) := by decide +kernel
theorem dX3_told_102 : decode cX3_told 102 = .ok (.ifCond .eq 21, 3) := by decide +kernel
theorem dX3_told_105 : decode cX3_told 105 = .ok (.aload_n 0, 1) := by decide +kernel
theorem dX3_told_106 : decode cX3_told 106 = .ok (.getfield 46, 3) := by decide +kernel
theorem dX3_told_109 : decode cX3_told 109 = .ok (.aload_n 0, 1) := by decide +kernel
theorem dX3_told_110 : decode cX3_told 110 = .ok (.getfield 20, 3) := by decide +kernel
theorem dX3_told_113 : decode cX3_told 113 = .ok (.iload_n 1, 1) := by decide +kernel
theorem dX3_told_114 : decode cX3_told 114 = .ok (.iaload, 1) := by decide +kernel
theorem dX3_told_115 : decode cX3_told 115 = .ok (.baload, 1) := by decide +kernel
theorem dX3_told_116 : decode cX3_told 116 = .ok (.ifCond .eq 7, 3) := by decide +kernel
theorem dX3_told_119 : decode cX3_told 119 = .ok (.iconst 1, 1) := by decide +kernel
theorem dX3_told_120 : decode cX3_told 120 = .ok (.goto 4, 3) := by decide +kernel
theorem dX3_told_123 : decode cX3_told 123 = .ok (.iconst 0, 1) := by decide +kernel
theorem dX3_told_124 : decode cX3_told 124 = .ok (.ireturn, 1) := by decide +kernel
theorem dX3_told_125 : decode cX3_told 125 = .ok (.aload_n 0, 1) := by decide +kernel
theorem dX3_told_126 : decode cX3_told 126 = .ok (.getfield 16, 3) := by decide +kernel
theorem dX3_told_129 : decode cX3_told 129 = .ok (.iload_n 1, 1) := by decide +kernel
theorem dX3_told_130 : decode cX3_told 130 = .ok (.iaload, 1) := by decide +kernel
theorem dX3_told_131 : decode cX3_told 131 = .ok (.iconst 1, 1) := by decide +kernel
theorem dX3_told_132 : decode cX3_told 132 = .ok (.iconst 3, 1) := by decide +kernel
theorem dX3_told_133 : decode cX3_told 133 = .ok (.invokestatic 68, 3) := by decide +kernel
theorem dX3_told_136 : decode cX3_told 136 = .ok (.ifCond .ne 25, 3) := by decide +kernel
theorem dX3_told_139 : decode cX3_told 139 = .ok (.aload_n 0, 1) := by decide +kernel
theorem dX3_told_140 : decode cX3_told 140 = .ok (.getfield 16, 3) := by decide +kernel
theorem dX3_told_143 : decode cX3_told 143 = .ok (.iload_n 1, 1) := by decide +kernel
theorem dX3_told_144 : decode cX3_told 144 = .ok (.iaload, 1) := by decide +kernel
theorem dX3_told_145 : decode cX3_told 145 = .ok (.bipush 9, 2) := by decide +kernel
theorem dX3_told_147 : decode cX3_told 147 = .ok (.if_icmp .eq 14, 3) := by decide +kernel
theorem dX3_told_150 : decode cX3_told 150 = .ok (.aload_n 0, 1) := by decide +kernel
theorem dX3_told_151 : decode cX3_told 151 = .ok (.getfield 16, 3) := by decide +kernel
theorem dX3_told_154 : decode cX3_told 154 = .ok (.iload_n 1, 1) := by decide +kernel
theorem dX3_told_155 : decode cX3_told 155 = .ok (.iaload, 1) := by decide +kernel
theorem dX3_told_156 : decode cX3_told 156 = .ok (.bipush 10, 2) := by decide +kernel
theorem dX3_told_158 : decode cX3_told 158 = .ok (.if_icmp .ne 12, 3) := by decide +kernel
theorem dX3_told_161 : decode cX3_told 161 = .ok (.aload_n 0, 1) := by decide +kernel
theorem dX3_told_162 : decode cX3_told 162 = .ok (.getfield 20, 3) := by decide +kernel
theorem dX3_told_165 : decode cX3_told 165 = .ok (.iload_n 1, 1) := by decide +kernel
theorem dX3_told_166 : decode cX3_told 166 = .ok (.iaload, 1) := by decide +kernel
theorem dX3_told_167 : decode cX3_told 167 = .ok (.goto 4, 3) := by decide +kernel
theorem dX3_told_170 : decode cX3_told 170 = .ok (.iconst 0, 1) := by decide +kernel
theorem dX3_told_171 : decode cX3_told 171 = .ok (.ireturn, 1) := by decide +kernel
theorem dX3_told_172 : decode cX3_told 172 = .ok (.iload_n 3, 1) := by decide +kernel
theorem dX3_told_173 : decode cX3_told 173 = .ok (.ifCond .eq 17, 3) := by decide +kernel
theorem dX3_told_176 : decode cX3_told 176 = .ok (.aload_n 0, 1) := by decide +kernel
theorem dX3_told_177 : decode cX3_told 177 = .ok (.getfield 43, 3) := by decide +kernel
theorem dX3_told_180 : decode cX3_told 180 = .ok (.aload_n 0, 1) := by decide +kernel
theorem dX3_told_181 : decode cX3_told 181 = .ok (.getfield 20, 3) := by decide +kernel
theorem dX3_told_184 : decode cX3_told 184 = .ok (.iload_n 1, 1) := by decide +kernel
theorem dX3_told_185 : decode cX3_told 185 = .ok (.iaload, 1) := by decide +kernel
theorem dX3_told_186 : decode cX3_told 186 = .ok (.iaload, 1) := by decide +kernel
theorem dX3_told_187 : decode cX3_told 187 = .ok (.goto 4, 3) := by decide +kernel
theorem dX3_told_190 : decode cX3_told 190 = .ok (.iconst 0, 1) := by decide +kernel
theorem dX3_told_191 : decode cX3_told 191 = .ok (.ireturn, 1) := by decide +kernel
theorem dX3_told_192 : decode cX3_told 192 = .ok (.bipush (-2), 2) := by decide +kernel
theorem dX3_told_194 : decode cX3_told 194 = .ok (.ireturn, 1) := by decide +kernel
set_option maxRecDepth 20000 in
theorem ggX3_nameOf_X3_byteOf : GoodIn wsX3_nameOf wsX3_byteOf := goodIn_r _ [6, 7, 8, 9, 20, 21, 22, 23, 24, 25, 26, 27, 28, 29, 30, 31, 32, 33, 34, 35, 36, 37, 38] (by decide +kernel) (by decide +kernel)
set_option maxRecDepth 20000 in
theorem gX3_nameOf_X3_byteOf : GoodIn wsX3_nameOf (wsV RX3 100 RX3 yX3_byteOf wsX3_byteOf) := goodIn_app (goodIn_of _ (by decide +kernel)) ggX3_nameOf_X3_byteOf
set_option maxRecDepth 20000 in
theorem ggX3_nameOf_X3_accessOf : GoodIn wsX3_nameOf wsX3_accessOf := goodIn_r _ [13, 14, 15, 16, 17, 5, 18, 19, 8, 20, 21, 22, 23, 24, 25, 26, 27, 28, 29, 30, 31, 32, 33, 34, 35, 36, 37, 38] (by decide +kernel) (by decide +kernel)
set_option maxRecDepth 20000 in
theorem gX3_nameOf_X3_accessOf : GoodIn wsX3_nameOf (wsV RX3 94 RX3 yX3_accessOf wsX3_accessOf) := goodIn_app (goodIn_of _ (by decide +kernel)) ggX3_nameOf_X3_accessOf
theorem dX3_nameOf_0 : decode cX3_nameOf 0 = .ok (.aload_n 0, 1) := by decide +kernel
theorem dX3_nameOf_1 : decode cX3_nameOf 1 = .ok (.getfield 26, 3) := by decide +kernel
theorem dX3_nameOf_4 : decode cX3_nameOf 4 = .ok (.iload_n 1, 1) := by decide +kernel
theorem dX3_nameOf_5 : decode cX3_nameOf 5 = .ok (.iaload, 1) := by decide +kernel
theorem dX3_nameOf_6 : decode cX3_nameOf 6 = .ok (.istore_n 2, 1) := by decide +kernel
theorem dX3_nameOf_7 : decode cX3_nameOf 7 = .ok (.iload_n 2, 1) := by decide +kernel
theorem dX3_nameOf_8 : decode cX3_nameOf 8 = .ok (.iconst 1, 1) := by decide +kernel
theorem dX3_nameOf_9 : decode cX3_nameOf 9 = .ok (.if_icmp .lt 33, 3) := by decide +kernel
theorem dX3_nameOf_12 : decode cX3_nameOf 12 = .ok (.iload_n 2, 1) := by decide +kernel
theorem dX3_nameOf_13 : decode cX3_nameOf 13 = .ok (.iconst 3, 1) := by decide +kernel
theorem dX3_nameOf_14 : decode cX3_nameOf 14 = .ok (.if_icmp .gt 28, 3) := by decide +kernel
theorem dX3_nameOf_17 : decode cX3_nameOf 17 = .ok (.iload_n 2, 1) := by decide +kernel
theorem dX3_nameOf_18 : decode cX3_nameOf 18 = .ok (.iconst 1, 1) := by decide +kernel
theorem dX3_nameOf_19 : decode cX3_nameOf 19 = .ok (.if_icmp .le 14, 3) := by decide +kernel
theorem dX3_nameOf_22 : decode cX3_nameOf 22 = .ok (.aload_n 0, 1) := by decide +kernel
theorem dX3_nameOf_23 : decode cX3_nameOf 23 = .ok (.iload_n 1, 1) := by decide +kernel
theorem dX3_nameOf_24 : decode cX3_nameOf 24 = .ok (.iconst 0, 1) := by decide +kernel
theorem dX3_nameOf_25 : decode cX3_nameOf 25 = .ok (.invokevirtual 100, 3) := by decide +kernel
theorem dX3_nameOf_28 : decode cX3_nameOf 28 = .ok (.bipush 48, 2) := by decide +kernel
theorem dX3_nameOf_30 : decode cX3_nameOf 30 = .ok (.if_icmp .eq 12, 3) := by decide +kernel
theorem dX3_nameOf_33 : decode cX3_nameOf 33 = .ok (.aload_n 0, 1) := by decide +kernel
theorem dX3_nameOf_34 : decode cX3_nameOf 34 = .ok (.iload_n 1, 1) := by decide +kernel
theorem dX3_nameOf_35 : decode cX3_nameOf 35 = .ok (.invokevirtual 94, 3) := by decide +kernel
theorem dX3_nameOf_38 : decode cX3_nameOf 38 = .ok (.iconst 2, 1) := by decide +kernel
theorem dX3_nameOf_39 : decode cX3_nameOf 39 = .ok (.if_icmp .ge 5, 3) := by decide +kernel
theorem dX3_nameOf_42 : decode cX3_nameOf 42 = .ok (.iconst (-1), 1) := by decide +kernel
theorem dX3_nameOf_43 : decode cX3_nameOf 43 = .ok (.ireturn, 1) := by decide +kernel
theorem dX3_nameOf_44 : decode cX3_nameOf 44 = .ok (.iconst 0, 1) := by decide +kernel
theorem dX3_nameOf_45 : decode cX3_nameOf 45 = .ok (.istore_n 3, 1) := by decide +kernel
theorem dX3_nameOf_46 : decode cX3_nameOf 46 = .ok (.iconst 0, 1) := by decide +kernel
