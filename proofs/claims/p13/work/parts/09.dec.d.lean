theorem dX11_init_0 : decode cX11_init 0 = .ok (.aload_n 0, 1) := by decide +kernel
theorem dX11_init_1 : decode cX11_init 1 = .ok (.invokespecial 1, 3) := by decide +kernel
theorem dX11_init_4 : decode cX11_init 4 = .ok (.aload_n 0, 1) := by decide +kernel
theorem dX11_init_5 : decode cX11_init 5 = .ok (.bipush 12, 2) := by decide +kernel
theorem dX11_init_7 : decode cX11_init 7 = .ok (.newarray .int, 2) := by decide +kernel
theorem dX11_init_9 : decode cX11_init 9 = .ok (.putfield 7, 3) := by decide +kernel
theorem dX11_init_12 : decode cX11_init 12 = .ok (.aload_n 0, 1) := by decide +kernel
theorem dX11_init_13 : decode cX11_init 13 = .ok (.bipush 12, 2) := by decide +kernel
theorem dX11_init_15 : decode cX11_init 15 = .ok (.newarray .int, 2) := by decide +kernel
theorem dX11_init_17 : decode cX11_init 17 = .ok (.putfield 13, 3) := by decide +kernel
theorem dX11_init_20 : decode cX11_init 20 = .ok (.aload_n 0, 1) := by decide +kernel
theorem dX11_init_21 : decode cX11_init 21 = .ok (.sipush 480, 3) := by decide +kernel
theorem dX11_init_24 : decode cX11_init 24 = .ok (.newarray .int, 2) := by decide +kernel
theorem dX11_init_26 : decode cX11_init 26 = .ok (.putfield 16, 3) := by decide +kernel
theorem dX11_init_29 : decode cX11_init 29 = .ok (.aload_n 0, 1) := by decide +kernel
theorem dX11_init_30 : decode cX11_init 30 = .ok (.sipush 480, 3) := by decide +kernel
theorem dX11_init_33 : decode cX11_init 33 = .ok (.newarray .int, 2) := by decide +kernel
theorem dX11_init_35 : decode cX11_init 35 = .ok (.putfield 19, 3) := by decide +kernel
theorem dX11_init_38 : decode cX11_init 38 = .ok (.aload_n 0, 1) := by decide +kernel
theorem dX11_init_39 : decode cX11_init 39 = .ok (.sipush 480, 3) := by decide +kernel
theorem dX11_init_42 : decode cX11_init 42 = .ok (.newarray .int, 2) := by decide +kernel
theorem dX11_init_44 : decode cX11_init 44 = .ok (.putfield 22, 3) := by decide +kernel
theorem dX11_init_47 : decode cX11_init 47 = .ok (.aload_n 0, 1) := by decide +kernel
theorem dX11_init_48 : decode cX11_init 48 = .ok (.bipush 8, 2) := by decide +kernel
theorem dX11_init_50 : decode cX11_init 50 = .ok (.newarray .int, 2) := by decide +kernel
theorem dX11_init_52 : decode cX11_init 52 = .ok (.putfield 25, 3) := by decide +kernel
theorem dX11_init_55 : decode cX11_init 55 = .ok (.aload_n 0, 1) := by decide +kernel
theorem dX11_init_56 : decode cX11_init 56 = .ok (.bipush 96, 2) := by decide +kernel
theorem dX11_init_58 : decode cX11_init 58 = .ok (.newarray .int, 2) := by decide +kernel
theorem dX11_init_60 : decode cX11_init 60 = .ok (.putfield 28, 3) := by decide +kernel
theorem dX11_init_63 : decode cX11_init 63 = .ok (.aload_n 0, 1) := by decide +kernel
theorem dX11_init_64 : decode cX11_init 64 = .ok (.bipush 40, 2) := by decide +kernel
theorem dX11_init_66 : decode cX11_init 66 = .ok (.newarray .int, 2) := by decide +kernel
theorem dX11_init_68 : decode cX11_init 68 = .ok (.putfield 31, 3) := by decide +kernel
theorem dX11_init_71 : decode cX11_init 71 = .ok (.aload_n 0, 1) := by decide +kernel
theorem dX11_init_72 : decode cX11_init 72 = .ok (.bipush 40, 2) := by decide +kernel
theorem dX11_init_74 : decode cX11_init 74 = .ok (.newarray .boolean, 2) := by decide +kernel
theorem dX11_init_76 : decode cX11_init 76 = .ok (.putfield 34, 3) := by decide +kernel
theorem dX11_init_79 : decode cX11_init 79 = .ok (.aload_n 0, 1) := by decide +kernel
theorem dX11_init_80 : decode cX11_init 80 = .ok (.bipush 12, 2) := by decide +kernel
theorem dX11_init_82 : decode cX11_init 82 = .ok (.newarray .int, 2) := by decide +kernel
theorem dX11_init_84 : decode cX11_init 84 = .ok (.putfield 38, 3) := by decide +kernel
theorem dX11_init_87 : decode cX11_init 87 = .ok (.aload_n 0, 1) := by decide +kernel
theorem dX11_init_88 : decode cX11_init 88 = .ok (.bipush 12, 2) := by decide +kernel
theorem dX11_init_90 : decode cX11_init 90 = .ok (.newarray .int, 2) := by decide +kernel
theorem dX11_init_92 : decode cX11_init 92 = .ok (.putfield 41, 3) := by decide +kernel
theorem dX11_init_95 : decode cX11_init 95 = .ok (.aload_n 0, 1) := by decide +kernel
theorem dX11_init_96 : decode cX11_init 96 = .ok (.bipush 12, 2) := by decide +kernel
theorem dX11_init_98 : decode cX11_init 98 = .ok (.newarray .int, 2) := by decide +kernel
theorem dX11_init_100 : decode cX11_init 100 = .ok (.putfield 44, 3) := by decide +kernel
theorem dX11_init_103 : decode cX11_init 103 = .ok (.aload_n 0, 1) := by decide +kernel
theorem dX11_init_104 : decode cX11_init 104 = .ok (.sipush 18000, 3) := by decide +kernel
theorem dX11_init_107 : decode cX11_init 107 = .ok (.newarray .int, 2) := by decide +kernel
theorem dX11_init_109 : decode cX11_init 109 = .ok (.putfield 47, 3) := by decide +kernel
theorem dX11_init_112 : decode cX11_init 112 = .ok (.aload_n 0, 1) := by decide +kernel
theorem dX11_init_113 : decode cX11_init 113 = .ok (.sipush 18000, 3) := by decide +kernel
theorem dX11_init_116 : decode cX11_init 116 = .ok (.newarray .int, 2) := by decide +kernel
theorem dX11_init_118 : decode cX11_init 118 = .ok (.putfield 50, 3) := by decide +kernel
theorem dX11_init_121 : decode cX11_init 121 = .ok (.aload_n 0, 1) := by decide +kernel
theorem dX11_init_122 : decode cX11_init 122 = .ok (.sipush 18000, 3) := by decide +kernel
theorem dX11_init_125 : decode cX11_init 125 = .ok (.newarray .int, 2) := by decide +kernel
theorem dX11_init_127 : decode cX11_init 127 = .ok (.putfield 53, 3) := by decide +kernel
theorem dX11_init_130 : decode cX11_init 130 = .ok (.aload_n 0, 1) := by decide +kernel
theorem dX11_init_131 : decode cX11_init 131 = .ok (.bipush 40, 2) := by decide +kernel
theorem dX11_init_133 : decode cX11_init 133 = .ok (.newarray .int, 2) := by decide +kernel
theorem dX11_init_135 : decode cX11_init 135 = .ok (.putfield 56, 3) := by decide +kernel
theorem dX11_init_138 : decode cX11_init 138 = .ok (.aload_n 0, 1) := by decide +kernel
theorem dX11_init_139 : decode cX11_init 139 = .ok (.sipush 480, 3) := by decide +kernel
theorem dX11_init_142 : decode cX11_init 142 = .ok (.newarray .int, 2) := by decide +kernel
theorem dX11_init_144 : decode cX11_init 144 = .ok (.putfield 59, 3) := by decide +kernel
theorem dX11_init_147 : decode cX11_init 147 = .ok (.aload_n 0, 1) := by decide +kernel
theorem dX11_init_148 : decode cX11_init 148 = .ok (.sipush 480, 3) := by decide +kernel
theorem dX11_init_151 : decode cX11_init 151 = .ok (.newarray .int, 2) := by decide +kernel
theorem dX11_init_153 : decode cX11_init 153 = .ok (.putfield 62, 3) := by decide +kernel
theorem dX11_init_156 : decode cX11_init 156 = .ok (.aload_n 0, 1) := by decide +kernel
theorem dX11_init_157 : decode cX11_init 157 = .ok (.bipush 96, 2) := by decide +kernel
theorem dX11_init_159 : decode cX11_init 159 = .ok (.newarray .int, 2) := by decide +kernel
theorem dX11_init_161 : decode cX11_init 161 = .ok (.putfield 65, 3) := by decide +kernel
theorem dX11_init_164 : decode cX11_init 164 = .ok (.aload_n 0, 1) := by decide +kernel
theorem dX11_init_165 : decode cX11_init 165 = .ok (.bipush 8, 2) := by decide +kernel
theorem dX11_init_167 : decode cX11_init 167 = .ok (.newarray .int, 2) := by decide +kernel
theorem dX11_init_169 : decode cX11_init 169 = .ok (.putfield 68, 3) := by decide +kernel
theorem dX11_init_172 : decode cX11_init 172 = .ok (.aload_n 0, 1) := by decide +kernel
theorem dX11_init_173 : decode cX11_init 173 = .ok (.sipush 200, 3) := by decide +kernel
theorem dX11_init_176 : decode cX11_init 176 = .ok (.newarray .int, 2) := by decide +kernel
theorem dX11_init_178 : decode cX11_init 178 = .ok (.putfield 71, 3) := by decide +kernel
theorem dX11_init_181 : decode cX11_init 181 = .ok (.aload_n 0, 1) := by decide +kernel
theorem dX11_init_182 : decode cX11_init 182 = .ok (.sipush 500, 3) := by decide +kernel
theorem dX11_init_185 : decode cX11_init 185 = .ok (.newarray .int, 2) := by decide +kernel
theorem dX11_init_187 : decode cX11_init 187 = .ok (.putfield 74, 3) := by decide +kernel
theorem dX11_init_190 : decode cX11_init 190 = .ok (.aload_n 0, 1) := by decide +kernel
theorem dX11_init_191 : decode cX11_init 191 = .ok (.sipush 500, 3) := by decide +kernel
theorem dX11_init_194 : decode cX11_init 194 = .ok (.newarray .int, 2) := by decide +kernel
theorem dX11_init_196 : decode cX11_init 196 = .ok (.putfield 77, 3) := by decide +kernel
theorem dX11_init_199 : decode cX11_init 199 = .ok (.aload_n 0, 1) := by decide +kernel
theorem dX11_init_200 : decode cX11_init 200 = .ok (.bipush 32, 2) := by decide +kernel
theorem dX11_init_202 : decode cX11_init 202 = .ok (.newarray .int, 2) := by decide +kernel
theorem dX11_init_204 : decode cX11_init 204 = .ok (.putfield 80, 3) := by decide +kernel
theorem dX11_init_207 : decode cX11_init 207 = .ok (.aload_n 0, 1) := by decide +kernel
theorem dX11_init_208 : decode cX11_init 208 = .ok (.bipush 32, 2) := by decide +kernel
theorem dX11_init_210 : decode cX11_init 210 = .ok (.newarray .int, 2) := by decide +kernel
theorem dX11_init_212 : decode cX11_init 212 = .ok (.putfield 83, 3) := by decide +kernel
theorem dX11_init_215 : decode cX11_init 215 = .ok (.aload_n 0, 1) := by decide +kernel
theorem dX11_init_216 : decode cX11_init 216 = .ok (.bipush 32, 2) := by decide +kernel
theorem dX11_init_218 : decode cX11_init 218 = .ok (.newarray .int, 2) := by decide +kernel
theorem dX11_init_220 : decode cX11_init 220 = .ok (.putfield 86, 3) := by decide +kernel
theorem dX11_init_223 : decode cX11_init 223 = .ok (.aload_n 0, 1) := by decide +kernel
theorem dX11_init_224 : decode cX11_init 224 = .ok (.sipush 256, 3) := by decide +kernel
theorem dX11_init_227 : decode cX11_init 227 = .ok (.newarray .int, 2) := by decide +kernel
theorem dX11_init_229 : decode cX11_init 229 = .ok (.putfield 89, 3) := by decide +kernel
theorem dX11_init_232 : decode cX11_init 232 = .ok (.aload_n 0, 1) := by decide +kernel
theorem dX11_init_233 : decode cX11_init 233 = .ok (.sipush 256, 3) := by decide +kernel
theorem dX11_init_236 : decode cX11_init 236 = .ok (.newarray .int, 2) := by decide +kernel
theorem dX11_init_238 : decode cX11_init 238 = .ok (.putfield 92, 3) := by decide +kernel
theorem dX11_init_241 : decode cX11_init 241 = .ok (.aload_n 0, 1) := by decide +kernel
theorem dX11_init_242 : decode cX11_init 242 = .ok (.bipush 6, 2) := by decide +kernel
theorem dX11_init_244 : decode cX11_init 244 = .ok (.newarray .int, 2) := by decide +kernel
theorem dX11_init_246 : decode cX11_init 246 = .ok (.putfield 95, 3) := by decide +kernel
theorem dX11_init_249 : decode cX11_init 249 = .ok (.aload_n 0, 1) := by decide +kernel
theorem dX11_init_250 : decode cX11_init 250 = .ok (.bipush 6, 2) := by decide +kernel
theorem dX11_init_252 : decode cX11_init 252 = .ok (.newarray .int, 2) := by decide +kernel
theorem dX11_init_254 : decode cX11_init 254 = .ok (.putfield 98, 3) := by decide +kernel
theorem dX11_init_257 : decode cX11_init 257 = .ok (.aload_n 0, 1) := by decide +kernel
theorem dX11_init_258 : decode cX11_init 258 = .ok (.sipush 401, 3) := by decide +kernel
theorem dX11_init_261 : decode cX11_init 261 = .ok (.newarray .int, 2) := by decide +kernel
theorem dX11_init_263 : decode cX11_init 263 = .ok (.putfield 101, 3) := by decide +kernel
theorem dX11_init_266 : decode cX11_init 266 = .ok (.aload_n 0, 1) := by decide +kernel
theorem dX11_init_267 : decode cX11_init 267 = .ok (.ldc 104, 2) := by decide +kernel
theorem dX11_init_269 : decode cX11_init 269 = .ok (.newarray .int, 2) := by decide +kernel
theorem dX11_init_271 : decode cX11_init 271 = .ok (.putfield 105, 3) := by decide +kernel
theorem dX11_init_274 : decode cX11_init 274 = .ok (.aload_n 0, 1) := by decide +kernel
theorem dX11_init_275 : decode cX11_init 275 = .ok (.sipush 401, 3) := by decide +kernel
theorem dX11_init_278 : decode cX11_init 278 = .ok (.newarray .int, 2) := by decide +kernel
theorem dX11_init_280 : decode cX11_init 280 = .ok (.putfield 108, 3) := by decide +kernel
theorem dX11_init_283 : decode cX11_init 283 = .ok (.aload_n 0, 1) := by decide +kernel
theorem dX11_init_284 : decode cX11_init 284 = .ok (.sipush 401, 3) := by decide +kernel
theorem dX11_init_287 : decode cX11_init 287 = .ok (.newarray .int, 2) := by decide +kernel
theorem dX11_init_289 : decode cX11_init 289 = .ok (.putfield 111, 3) := by decide +kernel
theorem dX11_init_292 : decode cX11_init 292 = .ok (.aload_n 0, 1) := by decide +kernel
theorem dX11_init_293 : decode cX11_init 293 = .ok (.sipush 1203, 3) := by decide +kernel
theorem dX11_init_296 : decode cX11_init 296 = .ok (.newarray .int, 2) := by decide +kernel
theorem dX11_init_298 : decode cX11_init 298 = .ok (.putfield 114, 3) := by decide +kernel
theorem dX11_init_301 : decode cX11_init 301 = .ok (.aload_n 0, 1) := by decide +kernel
theorem dX11_init_302 : decode cX11_init 302 = .ok (.sipush 1203, 3) := by decide +kernel
theorem dX11_init_305 : decode cX11_init 305 = .ok (.newarray .int, 2) := by decide +kernel
theorem dX11_init_307 : decode cX11_init 307 = .ok (.putfield 117, 3) := by decide +kernel
theorem dX11_init_310 : decode cX11_init 310 = .ok (.aload_n 0, 1) := by decide +kernel
theorem dX11_init_311 : decode cX11_init 311 = .ok (.sipush 2500, 3) := by decide +kernel
theorem dX11_init_314 : decode cX11_init 314 = .ok (.newarray .int, 2) := by decide +kernel
theorem dX11_init_316 : decode cX11_init 316 = .ok (.putfield 120, 3) := by decide +kernel
theorem dX11_init_319 : decode cX11_init 319 = .ok (.return_, 1) := by decide +kernel
theorem dX11_thrown_0 : decode cX11_thrown 0 = .ok (.aload_n 0, 1) := by decide +kernel
theorem dX11_thrown_1 : decode cX11_thrown 1 = .ok (.getfield 123, 3) := by decide +kernel
theorem dX11_thrown_4 : decode cX11_thrown 4 = .ok (.ireturn, 1) := by decide +kernel
theorem dX11_goes_0 : decode cX11_goes 0 = .ok (.aload_n 0, 1) := by decide +kernel
theorem dX11_goes_1 : decode cX11_goes 1 = .ok (.iload_n 1, 1) := by decide +kernel
theorem dX11_goes_2 : decode cX11_goes 2 = .ok (.ifCond .ne 7, 3) := by decide +kernel
theorem dX11_goes_5 : decode cX11_goes 5 = .ok (.iconst 1, 1) := by decide +kernel
theorem dX11_goes_6 : decode cX11_goes 6 = .ok (.goto 12, 3) := by decide +kernel
theorem dX11_goes_9 : decode cX11_goes 9 = .ok (.iload_n 2, 1) := by decide +kernel
theorem dX11_goes_10 : decode cX11_goes 10 = .ok (.ifCond .ne 7, 3) := by decide +kernel
theorem dX11_goes_13 : decode cX11_goes 13 = .ok (.iconst 2, 1) := by decide +kernel
theorem dX11_goes_14 : decode cX11_goes 14 = .ok (.goto 4, 3) := by decide +kernel
theorem dX11_goes_17 : decode cX11_goes 17 = .ok (.iconst 0, 1) := by decide +kernel
theorem dX11_goes_18 : decode cX11_goes 18 = .ok (.putfield 123, 3) := by decide +kernel
theorem dX11_goes_21 : decode cX11_goes 21 = .ok (.aload_n 0, 1) := by decide +kernel
theorem dX11_goes_22 : decode cX11_goes 22 = .ok (.getfield 123, 3) := by decide +kernel
theorem dX11_goes_25 : decode cX11_goes 25 = .ok (.ifCond .ne 7, 3) := by decide +kernel
theorem dX11_goes_28 : decode cX11_goes 28 = .ok (.iconst 1, 1) := by decide +kernel
theorem dX11_goes_29 : decode cX11_goes 29 = .ok (.goto 4, 3) := by decide +kernel
theorem dX11_goes_32 : decode cX11_goes 32 = .ok (.iconst 0, 1) := by decide +kernel
theorem dX11_goes_33 : decode cX11_goes 33 = .ok (.ireturn, 1) := by decide +kernel
theorem dX11_function_0 : decode cX11_function 0 = .ok (.aload_n 0, 1) := by decide +kernel
theorem dX11_function_1 : decode cX11_function 1 = .ok (.iload_n 1, 1) := by decide +kernel
theorem dX11_function_2 : decode cX11_function 2 = .ok (.ifCond .lt 12, 3) := by decide +kernel
theorem dX11_function_5 : decode cX11_function 5 = .ok (.iload_n 1, 1) := by decide +kernel
theorem dX11_function_6 : decode cX11_function 6 = .ok (.iconst 3, 1) := by decide +kernel
theorem dX11_function_7 : decode cX11_function 7 = .ok (.if_icmp .gt 7, 3) := by decide +kernel
theorem dX11_function_10 : decode cX11_function 10 = .ok (.iconst 1, 1) := by decide +kernel
theorem dX11_function_11 : decode cX11_function 11 = .ok (.goto 4, 3) := by decide +kernel
theorem dX11_function_14 : decode cX11_function 14 = .ok (.iconst 0, 1) := by decide +kernel
theorem dX11_function_15 : decode cX11_function 15 = .ok (.aload_n 0, 1) := by decide +kernel
theorem dX11_function_16 : decode cX11_function 16 = .ok (.getfield 127, 3) := by decide +kernel
theorem dX11_function_19 : decode cX11_function 19 = .ok (.bipush 12, 2) := by decide +kernel
theorem dX11_function_21 : decode cX11_function 21 = .ok (.if_icmp .ge 7, 3) := by decide +kernel
theorem dX11_function_24 : decode cX11_function 24 = .ok (.iconst 1, 1) := by decide +kernel
theorem dX11_function_25 : decode cX11_function 25 = .ok (.goto 4, 3) := by decide +kernel
theorem dX11_function_28 : decode cX11_function 28 = .ok (.iconst 0, 1) := by decide +kernel
theorem dX11_function_29 : decode cX11_function 29 = .ok (.invokevirtual 130, 3) := by decide +kernel
theorem dX11_function_32 : decode cX11_function 32 = .ok (.ifCond .ne 5, 3) := by decide +kernel
theorem dX11_function_35 : decode cX11_function 35 = .ok (.iconst 0, 1) := by decide +kernel
theorem dX11_function_36 : decode cX11_function 36 = .ok (.ireturn, 1) := by decide +kernel
theorem dX11_function_37 : decode cX11_function 37 = .ok (.aload_n 0, 1) := by decide +kernel
theorem dX11_function_38 : decode cX11_function 38 = .ok (.iconst 0, 1) := by decide +kernel
theorem dX11_function_39 : decode cX11_function 39 = .ok (.putfield 134, 3) := by decide +kernel
theorem dX11_function_42 : decode cX11_function 42 = .ok (.aload_n 0, 1) := by decide +kernel
theorem dX11_function_43 : decode cX11_function 43 = .ok (.getfield 7, 3) := by decide +kernel
theorem dX11_function_46 : decode cX11_function 46 = .ok (.aload_n 0, 1) := by decide +kernel
theorem dX11_function_47 : decode cX11_function 47 = .ok (.getfield 127, 3) := by decide +kernel
theorem dX11_function_50 : decode cX11_function 50 = .ok (.iload_n 1, 1) := by decide +kernel
theorem dX11_function_51 : decode cX11_function 51 = .ok (.iastore, 1) := by decide +kernel
theorem dX11_function_52 : decode cX11_function 52 = .ok (.aload_n 0, 1) := by decide +kernel
theorem dX11_function_53 : decode cX11_function 53 = .ok (.dup, 1) := by decide +kernel
theorem dX11_function_54 : decode cX11_function 54 = .ok (.getfield 127, 3) := by decide +kernel
theorem dX11_function_57 : decode cX11_function 57 = .ok (.iconst 1, 1) := by decide +kernel
theorem dX11_function_58 : decode cX11_function 58 = .ok (.iadd, 1) := by decide +kernel
theorem dX11_function_59 : decode cX11_function 59 = .ok (.putfield 127, 3) := by decide +kernel
theorem dX11_function_62 : decode cX11_function 62 = .ok (.aload_n 0, 1) := by decide +kernel
theorem dX11_function_63 : decode cX11_function 63 = .ok (.getfield 127, 3) := by decide +kernel
theorem dX11_function_66 : decode cX11_function 66 = .ok (.iconst 1, 1) := by decide +kernel
theorem dX11_function_67 : decode cX11_function 67 = .ok (.isub, 1) := by decide +kernel
theorem dX11_function_68 : decode cX11_function 68 = .ok (.ireturn, 1) := by decide +kernel
theorem dX11_isFunction_0 : decode cX11_isFunction 0 = .ok (.iload_n 1, 1) := by decide +kernel
theorem dX11_isFunction_1 : decode cX11_isFunction 1 = .ok (.ifCond .lt 15, 3) := by decide +kernel
theorem dX11_isFunction_4 : decode cX11_isFunction 4 = .ok (.iload_n 1, 1) := by decide +kernel
theorem dX11_isFunction_5 : decode cX11_isFunction 5 = .ok (.aload_n 0, 1) := by decide +kernel
theorem dX11_isFunction_6 : decode cX11_isFunction 6 = .ok (.getfield 127, 3) := by decide +kernel
theorem dX11_isFunction_9 : decode cX11_isFunction 9 = .ok (.if_icmp .ge 7, 3) := by decide +kernel
theorem dX11_isFunction_12 : decode cX11_isFunction 12 = .ok (.iconst 1, 1) := by decide +kernel
theorem dX11_isFunction_13 : decode cX11_isFunction 13 = .ok (.goto 4, 3) := by decide +kernel
theorem dX11_isFunction_16 : decode cX11_isFunction 16 = .ok (.iconst 0, 1) := by decide +kernel
theorem dX11_isFunction_17 : decode cX11_isFunction 17 = .ok (.ireturn, 1) := by decide +kernel
theorem dX11_code_0 : decode cX11_code 0 = .ok (.aload_n 0, 1) := by decide +kernel
theorem dX11_code_1 : decode cX11_code 1 = .ok (.iload_n 1, 1) := by decide +kernel
theorem dX11_code_2 : decode cX11_code 2 = .ok (.invokevirtual 138, 3) := by decide +kernel
theorem dX11_code_5 : decode cX11_code 5 = .ok (.ifCond .eq 17, 3) := by decide +kernel
theorem dX11_code_8 : decode cX11_code 8 = .ok (.iload_n 2, 1) := by decide +kernel
theorem dX11_code_9 : decode cX11_code 9 = .ok (.ifCond .lt 13, 3) := by decide +kernel
theorem dX11_code_12 : decode cX11_code 12 = .ok (.iload_n 2, 1) := by decide +kernel
theorem dX11_code_13 : decode cX11_code 13 = .ok (.bipush 15, 2) := by decide +kernel
theorem dX11_code_15 : decode cX11_code 15 = .ok (.if_icmp .gt 7, 3) := by decide +kernel
theorem dX11_code_18 : decode cX11_code 18 = .ok (.iconst 1, 1) := by decide +kernel
theorem dX11_code_19 : decode cX11_code 19 = .ok (.goto 4, 3) := by decide +kernel
theorem dX11_code_22 : decode cX11_code 22 = .ok (.iconst 0, 1) := by decide +kernel
theorem dX11_code_23 : decode cX11_code 23 = .ok (.istore 5, 2) := by decide +kernel
theorem dX11_code_25 : decode cX11_code 25 = .ok (.aload_n 0, 1) := by decide +kernel
theorem dX11_code_26 : decode cX11_code 26 = .ok (.iload 5, 2) := by decide +kernel
theorem dX11_code_28 : decode cX11_code 28 = .ok (.iload 5, 2) := by decide +kernel
theorem dX11_code_30 : decode cX11_code 30 = .ok (.ifCond .eq 18, 3) := by decide +kernel
theorem dX11_code_33 : decode cX11_code 33 = .ok (.aload_n 0, 1) := by decide +kernel
theorem dX11_code_34 : decode cX11_code 34 = .ok (.getfield 13, 3) := by decide +kernel
theorem dX11_code_37 : decode cX11_code 37 = .ok (.iload_n 1, 1) := by decide +kernel
theorem dX11_code_38 : decode cX11_code 38 = .ok (.iaload, 1) := by decide +kernel
theorem dX11_code_39 : decode cX11_code 39 = .ok (.bipush 40, 2) := by decide +kernel
theorem dX11_code_41 : decode cX11_code 41 = .ok (.if_icmp .ge 7, 3) := by decide +kernel
theorem dX11_code_44 : decode cX11_code 44 = .ok (.iconst 1, 1) := by decide +kernel
theorem dX11_code_45 : decode cX11_code 45 = .ok (.goto 4, 3) := by decide +kernel
theorem dX11_code_48 : decode cX11_code 48 = .ok (.iconst 0, 1) := by decide +kernel
theorem dX11_code_49 : decode cX11_code 49 = .ok (.invokevirtual 130, 3) := by decide +kernel
theorem dX11_code_52 : decode cX11_code 52 = .ok (.ifCond .ne 5, 3) := by decide +kernel
theorem dX11_code_55 : decode cX11_code 55 = .ok (.iconst 0, 1) := by decide +kernel
theorem dX11_code_56 : decode cX11_code 56 = .ok (.ireturn, 1) := by decide +kernel
theorem dX11_code_57 : decode cX11_code 57 = .ok (.aload_n 0, 1) := by decide +kernel
theorem dX11_code_58 : decode cX11_code 58 = .ok (.iconst 0, 1) := by decide +kernel
theorem dX11_code_59 : decode cX11_code 59 = .ok (.putfield 134, 3) := by decide +kernel
theorem dX11_code_62 : decode cX11_code 62 = .ok (.bipush 40, 2) := by decide +kernel
theorem dX11_code_64 : decode cX11_code 64 = .ok (.iload_n 1, 1) := by decide +kernel
theorem dX11_code_65 : decode cX11_code 65 = .ok (.imul, 1) := by decide +kernel
theorem dX11_code_66 : decode cX11_code 66 = .ok (.aload_n 0, 1) := by decide +kernel
theorem dX11_code_67 : decode cX11_code 67 = .ok (.getfield 13, 3) := by decide +kernel
theorem dX11_code_70 : decode cX11_code 70 = .ok (.iload_n 1, 1) := by decide +kernel
theorem dX11_code_71 : decode cX11_code 71 = .ok (.iaload, 1) := by decide +kernel
theorem dX11_code_72 : decode cX11_code 72 = .ok (.iadd, 1) := by decide +kernel
theorem dX11_code_73 : decode cX11_code 73 = .ok (.istore 6, 2) := by decide +kernel
theorem dX11_code_75 : decode cX11_code 75 = .ok (.aload_n 0, 1) := by decide +kernel
theorem dX11_code_76 : decode cX11_code 76 = .ok (.getfield 16, 3) := by decide +kernel
theorem dX11_code_79 : decode cX11_code 79 = .ok (.iload 6, 2) := by decide +kernel
theorem dX11_code_81 : decode cX11_code 81 = .ok (.iload_n 2, 1) := by decide +kernel
theorem dX11_code_82 : decode cX11_code 82 = .ok (.iastore, 1) := by decide +kernel
theorem dX11_code_83 : decode cX11_code 83 = .ok (.aload_n 0, 1) := by decide +kernel
theorem dX11_code_84 : decode cX11_code 84 = .ok (.getfield 19, 3) := by decide +kernel
theorem dX11_code_87 : decode cX11_code 87 = .ok (.iload 6, 2) := by decide +kernel
theorem dX11_code_89 : decode cX11_code 89 = .ok (.iload_n 3, 1) := by decide +kernel
theorem dX11_code_90 : decode cX11_code 90 = .ok (.iastore, 1) := by decide +kernel
theorem dX11_code_91 : decode cX11_code 91 = .ok (.aload_n 0, 1) := by decide +kernel
theorem dX11_code_92 : decode cX11_code 92 = .ok (.getfield 22, 3) := by decide +kernel
theorem dX11_code_95 : decode cX11_code 95 = .ok (.iload 6, 2) := by decide +kernel
theorem dX11_code_97 : decode cX11_code 97 = .ok (.iload 4, 2) := by decide +kernel
theorem dX11_code_99 : decode cX11_code 99 = .ok (.iastore, 1) := by decide +kernel
theorem dX11_code_100 : decode cX11_code 100 = .ok (.aload_n 0, 1) := by decide +kernel
theorem dX11_code_101 : decode cX11_code 101 = .ok (.getfield 13, 3) := by decide +kernel
theorem dX11_code_104 : decode cX11_code 104 = .ok (.iload_n 1, 1) := by decide +kernel
theorem dX11_code_105 : decode cX11_code 105 = .ok (.dup2, 1) := by decide +kernel
theorem dX11_code_106 : decode cX11_code 106 = .ok (.iaload, 1) := by decide +kernel
theorem dX11_code_107 : decode cX11_code 107 = .ok (.iconst 1, 1) := by decide +kernel
theorem dX11_code_108 : decode cX11_code 108 = .ok (.iadd, 1) := by decide +kernel
theorem dX11_code_109 : decode cX11_code 109 = .ok (.iastore, 1) := by decide +kernel
theorem dX11_code_110 : decode cX11_code 110 = .ok (.aload_n 0, 1) := by decide +kernel
theorem dX11_code_111 : decode cX11_code 111 = .ok (.getfield 13, 3) := by decide +kernel
theorem dX11_code_114 : decode cX11_code 114 = .ok (.iload_n 1, 1) := by decide +kernel
theorem dX11_code_115 : decode cX11_code 115 = .ok (.iaload, 1) := by decide +kernel
theorem dX11_code_116 : decode cX11_code 116 = .ok (.iconst 1, 1) := by decide +kernel
theorem dX11_code_117 : decode cX11_code 117 = .ok (.isub, 1) := by decide +kernel
theorem dX11_code_118 : decode cX11_code 118 = .ok (.ireturn, 1) := by decide +kernel
theorem dX11_recipe_0 : decode cX11_recipe 0 = .ok (.iconst 0, 1) := by decide +kernel
theorem dX11_recipe_1 : decode cX11_recipe 1 = .ok (.istore_n 3, 1) := by decide +kernel
theorem dX11_recipe_2 : decode cX11_recipe 2 = .ok (.iload_n 3, 1) := by decide +kernel
theorem dX11_recipe_3 : decode cX11_recipe 3 = .ok (.bipush 12, 2) := by decide +kernel
theorem dX11_recipe_5 : decode cX11_recipe 5 = .ok (.if_icmp .ge 23, 3) := by decide +kernel
theorem dX11_recipe_8 : decode cX11_recipe 8 = .ok (.lload_n 1, 1) := by decide +kernel
theorem dX11_recipe_9 : decode cX11_recipe 9 = .ok (.iconst 5, 1) := by decide +kernel
theorem dX11_recipe_10 : decode cX11_recipe 10 = .ok (.iload_n 3, 1) := by decide +kernel
theorem dX11_recipe_11 : decode cX11_recipe 11 = .ok (.imul, 1) := by decide +kernel
theorem dX11_recipe_12 : decode cX11_recipe 12 = .ok (.lshr, 1) := by decide +kernel
theorem dX11_recipe_13 : decode cX11_recipe 13 = .ok (.ldc2_w 142, 3) := by decide +kernel
theorem dX11_recipe_16 : decode cX11_recipe 16 = .ok (.land, 1) := by decide +kernel
theorem dX11_recipe_17 : decode cX11_recipe 17 = .ok (.lconst 0, 1) := by decide +kernel
theorem dX11_recipe_18 : decode cX11_recipe 18 = .ok (.lcmp, 1) := by decide +kernel
theorem dX11_recipe_19 : decode cX11_recipe 19 = .ok (.ifCond .le 9, 3) := by decide +kernel
theorem dX11_recipe_22 : decode cX11_recipe 22 = .ok (.iinc 3 1, 3) := by decide +kernel
theorem dX11_recipe_25 : decode cX11_recipe 25 = .ok (.goto (-23), 3) := by decide +kernel
theorem dX11_recipe_28 : decode cX11_recipe 28 = .ok (.iload_n 3, 1) := by decide +kernel
theorem dX11_recipe_29 : decode cX11_recipe 29 = .ok (.ifCond .le 17, 3) := by decide +kernel
theorem dX11_recipe_32 : decode cX11_recipe 32 = .ok (.lload_n 1, 1) := by decide +kernel
theorem dX11_recipe_33 : decode cX11_recipe 33 = .ok (.iconst 5, 1) := by decide +kernel
theorem dX11_recipe_34 : decode cX11_recipe 34 = .ok (.iload_n 3, 1) := by decide +kernel
theorem dX11_recipe_35 : decode cX11_recipe 35 = .ok (.imul, 1) := by decide +kernel
theorem dX11_recipe_36 : decode cX11_recipe 36 = .ok (.lshr, 1) := by decide +kernel
theorem dX11_recipe_37 : decode cX11_recipe 37 = .ok (.lconst 0, 1) := by decide +kernel
theorem dX11_recipe_38 : decode cX11_recipe 38 = .ok (.lcmp, 1) := by decide +kernel
theorem dX11_recipe_39 : decode cX11_recipe 39 = .ok (.ifCond .ne 7, 3) := by decide +kernel
theorem dX11_recipe_42 : decode cX11_recipe 42 = .ok (.iconst 1, 1) := by decide +kernel
theorem dX11_recipe_43 : decode cX11_recipe 43 = .ok (.goto 4, 3) := by decide +kernel
theorem dX11_recipe_46 : decode cX11_recipe 46 = .ok (.iconst 0, 1) := by decide +kernel
theorem dX11_recipe_47 : decode cX11_recipe 47 = .ok (.istore 4, 2) := by decide +kernel
theorem dX11_recipe_49 : decode cX11_recipe 49 = .ok (.iconst 0, 1) := by decide +kernel
theorem dX11_recipe_50 : decode cX11_recipe 50 = .ok (.istore 5, 2) := by decide +kernel
theorem dX11_recipe_52 : decode cX11_recipe 52 = .ok (.iload 5, 2) := by decide +kernel
theorem dX11_recipe_54 : decode cX11_recipe 54 = .ok (.iload_n 3, 1) := by decide +kernel
theorem dX11_recipe_55 : decode cX11_recipe 55 = .ok (.if_icmp .ge 38, 3) := by decide +kernel
theorem dX11_recipe_58 : decode cX11_recipe 58 = .ok (.iload 4, 2) := by decide +kernel
theorem dX11_recipe_60 : decode cX11_recipe 60 = .ok (.ifCond .eq 24, 3) := by decide +kernel
theorem dX11_recipe_63 : decode cX11_recipe 63 = .ok (.lload_n 1, 1) := by decide +kernel
theorem dX11_recipe_64 : decode cX11_recipe 64 = .ok (.iconst 5, 1) := by decide +kernel
theorem dX11_recipe_65 : decode cX11_recipe 65 = .ok (.iload 5, 2) := by decide +kernel
theorem dX11_recipe_67 : decode cX11_recipe 67 = .ok (.imul, 1) := by decide +kernel
theorem dX11_recipe_68 : decode cX11_recipe 68 = .ok (.lshr, 1) := by decide +kernel
theorem dX11_recipe_69 : decode cX11_recipe 69 = .ok (.ldc2_w 142, 3) := by decide +kernel
theorem dX11_recipe_72 : decode cX11_recipe 72 = .ok (.land, 1) := by decide +kernel
theorem dX11_recipe_73 : decode cX11_recipe 73 = .ok (.ldc2_w 144, 3) := by decide +kernel
theorem dX11_recipe_76 : decode cX11_recipe 76 = .ok (.lcmp, 1) := by decide +kernel
theorem dX11_recipe_77 : decode cX11_recipe 77 = .ok (.ifCond .gt 7, 3) := by decide +kernel
theorem dX11_recipe_80 : decode cX11_recipe 80 = .ok (.iconst 1, 1) := by decide +kernel
theorem dX11_recipe_81 : decode cX11_recipe 81 = .ok (.goto 4, 3) := by decide +kernel
theorem dX11_recipe_84 : decode cX11_recipe 84 = .ok (.iconst 0, 1) := by decide +kernel
theorem dX11_recipe_85 : decode cX11_recipe 85 = .ok (.istore 4, 2) := by decide +kernel
theorem dX11_recipe_87 : decode cX11_recipe 87 = .ok (.iinc 5 1, 3) := by decide +kernel
theorem dX11_recipe_90 : decode cX11_recipe 90 = .ok (.goto (-38), 3) := by decide +kernel
theorem dX11_recipe_93 : decode cX11_recipe 93 = .ok (.aload_n 0, 1) := by decide +kernel
theorem dX11_recipe_94 : decode cX11_recipe 94 = .ok (.iload 4, 2) := by decide +kernel
theorem dX11_recipe_96 : decode cX11_recipe 96 = .ok (.aload_n 0, 1) := by decide +kernel
theorem dX11_recipe_97 : decode cX11_recipe 97 = .ok (.getfield 146, 3) := by decide +kernel
theorem dX11_recipe_100 : decode cX11_recipe 100 = .ok (.bipush 8, 2) := by decide +kernel
theorem dX11_recipe_102 : decode cX11_recipe 102 = .ok (.if_icmp .ge 7, 3) := by decide +kernel
theorem dX11_recipe_105 : decode cX11_recipe 105 = .ok (.iconst 1, 1) := by decide +kernel
theorem dX11_recipe_106 : decode cX11_recipe 106 = .ok (.goto 4, 3) := by decide +kernel
theorem dX11_recipe_109 : decode cX11_recipe 109 = .ok (.iconst 0, 1) := by decide +kernel
theorem dX11_recipe_110 : decode cX11_recipe 110 = .ok (.invokevirtual 130, 3) := by decide +kernel
theorem dX11_recipe_113 : decode cX11_recipe 113 = .ok (.ifCond .ne 5, 3) := by decide +kernel
theorem dX11_recipe_116 : decode cX11_recipe 116 = .ok (.iconst 0, 1) := by decide +kernel
theorem dX11_recipe_117 : decode cX11_recipe 117 = .ok (.ireturn, 1) := by decide +kernel
theorem dX11_recipe_118 : decode cX11_recipe 118 = .ok (.aload_n 0, 1) := by decide +kernel
theorem dX11_recipe_119 : decode cX11_recipe 119 = .ok (.iconst 0, 1) := by decide +kernel
theorem dX11_recipe_120 : decode cX11_recipe 120 = .ok (.putfield 134, 3) := by decide +kernel
theorem dX11_recipe_123 : decode cX11_recipe 123 = .ok (.iconst 0, 1) := by decide +kernel
theorem dX11_recipe_124 : decode cX11_recipe 124 = .ok (.istore 5, 2) := by decide +kernel
theorem dX11_recipe_126 : decode cX11_recipe 126 = .ok (.iload 5, 2) := by decide +kernel
theorem dX11_recipe_128 : decode cX11_recipe 128 = .ok (.iload_n 3, 1) := by decide +kernel
theorem dX11_recipe_129 : decode cX11_recipe 129 = .ok (.if_icmp .ge 35, 3) := by decide +kernel
theorem dX11_recipe_132 : decode cX11_recipe 132 = .ok (.aload_n 0, 1) := by decide +kernel
theorem dX11_recipe_133 : decode cX11_recipe 133 = .ok (.getfield 28, 3) := by decide +kernel
theorem dX11_recipe_136 : decode cX11_recipe 136 = .ok (.bipush 12, 2) := by decide +kernel
theorem dX11_recipe_138 : decode cX11_recipe 138 = .ok (.aload_n 0, 1) := by decide +kernel
theorem dX11_recipe_139 : decode cX11_recipe 139 = .ok (.getfield 146, 3) := by decide +kernel
theorem dX11_recipe_142 : decode cX11_recipe 142 = .ok (.imul, 1) := by decide +kernel
theorem dX11_recipe_143 : decode cX11_recipe 143 = .ok (.iload 5, 2) := by decide +kernel
theorem dX11_recipe_145 : decode cX11_recipe 145 = .ok (.iadd, 1) := by decide +kernel
theorem dX11_recipe_146 : decode cX11_recipe 146 = .ok (.lload_n 1, 1) := by decide +kernel
theorem dX11_recipe_147 : decode cX11_recipe 147 = .ok (.iconst 5, 1) := by decide +kernel
theorem dX11_recipe_148 : decode cX11_recipe 148 = .ok (.iload 5, 2) := by decide +kernel
theorem dX11_recipe_150 : decode cX11_recipe 150 = .ok (.imul, 1) := by decide +kernel
theorem dX11_recipe_151 : decode cX11_recipe 151 = .ok (.lshr, 1) := by decide +kernel
theorem dX11_recipe_152 : decode cX11_recipe 152 = .ok (.ldc2_w 142, 3) := by decide +kernel
theorem dX11_recipe_155 : decode cX11_recipe 155 = .ok (.land, 1) := by decide +kernel
theorem dX11_recipe_156 : decode cX11_recipe 156 = .ok (.l2i, 1) := by decide +kernel
theorem dX11_recipe_157 : decode cX11_recipe 157 = .ok (.iastore, 1) := by decide +kernel
theorem dX11_recipe_158 : decode cX11_recipe 158 = .ok (.iinc 5 1, 3) := by decide +kernel
theorem dX11_recipe_161 : decode cX11_recipe 161 = .ok (.goto (-35), 3) := by decide +kernel
theorem dX11_recipe_164 : decode cX11_recipe 164 = .ok (.aload_n 0, 1) := by decide +kernel
theorem dX11_recipe_165 : decode cX11_recipe 165 = .ok (.getfield 25, 3) := by decide +kernel
theorem dX11_recipe_168 : decode cX11_recipe 168 = .ok (.aload_n 0, 1) := by decide +kernel
theorem dX11_recipe_169 : decode cX11_recipe 169 = .ok (.getfield 146, 3) := by decide +kernel
theorem dX11_recipe_172 : decode cX11_recipe 172 = .ok (.iload_n 3, 1) := by decide +kernel
theorem dX11_recipe_173 : decode cX11_recipe 173 = .ok (.iastore, 1) := by decide +kernel
theorem dX11_recipe_174 : decode cX11_recipe 174 = .ok (.aload_n 0, 1) := by decide +kernel
theorem dX11_recipe_175 : decode cX11_recipe 175 = .ok (.dup, 1) := by decide +kernel
theorem dX11_recipe_176 : decode cX11_recipe 176 = .ok (.getfield 146, 3) := by decide +kernel
theorem dX11_recipe_179 : decode cX11_recipe 179 = .ok (.iconst 1, 1) := by decide +kernel
theorem dX11_recipe_180 : decode cX11_recipe 180 = .ok (.iadd, 1) := by decide +kernel
theorem dX11_recipe_181 : decode cX11_recipe 181 = .ok (.putfield 146, 3) := by decide +kernel
theorem dX11_recipe_184 : decode cX11_recipe 184 = .ok (.aload_n 0, 1) := by decide +kernel
theorem dX11_recipe_185 : decode cX11_recipe 185 = .ok (.getfield 146, 3) := by decide +kernel
theorem dX11_recipe_188 : decode cX11_recipe 188 = .ok (.iconst 1, 1) := by decide +kernel
theorem dX11_recipe_189 : decode cX11_recipe 189 = .ok (.isub, 1) := by decide +kernel
theorem dX11_recipe_190 : decode cX11_recipe 190 = .ok (.ireturn, 1) := by decide +kernel
theorem dX11_holes_0 : decode cX11_holes 0 = .ok (.iconst 0, 1) := by decide +kernel
theorem dX11_holes_1 : decode cX11_holes 1 = .ok (.istore_n 2, 1) := by decide +kernel
theorem dX11_holes_2 : decode cX11_holes 2 = .ok (.iconst 0, 1) := by decide +kernel
theorem dX11_holes_3 : decode cX11_holes 3 = .ok (.istore_n 3, 1) := by decide +kernel
theorem dX11_holes_4 : decode cX11_holes 4 = .ok (.iload_n 3, 1) := by decide +kernel
theorem dX11_holes_5 : decode cX11_holes 5 = .ok (.aload_n 0, 1) := by decide +kernel
theorem dX11_holes_6 : decode cX11_holes 6 = .ok (.getfield 25, 3) := by decide +kernel
theorem dX11_holes_9 : decode cX11_holes 9 = .ok (.iload_n 1, 1) := by decide +kernel
theorem dX11_holes_10 : decode cX11_holes 10 = .ok (.iaload, 1) := by decide +kernel
theorem dX11_holes_11 : decode cX11_holes 11 = .ok (.if_icmp .ge 33, 3) := by decide +kernel
theorem dX11_holes_14 : decode cX11_holes 14 = .ok (.iload_n 2, 1) := by decide +kernel
theorem dX11_holes_15 : decode cX11_holes 15 = .ok (.aload_n 0, 1) := by decide +kernel
theorem dX11_holes_16 : decode cX11_holes 16 = .ok (.getfield 28, 3) := by decide +kernel
theorem dX11_holes_19 : decode cX11_holes 19 = .ok (.bipush 12, 2) := by decide +kernel
theorem dX11_holes_21 : decode cX11_holes 21 = .ok (.iload_n 1, 1) := by decide +kernel
theorem dX11_holes_22 : decode cX11_holes 22 = .ok (.imul, 1) := by decide +kernel
theorem dX11_holes_23 : decode cX11_holes 23 = .ok (.iload_n 3, 1) := by decide +kernel
theorem dX11_holes_24 : decode cX11_holes 24 = .ok (.iadd, 1) := by decide +kernel
theorem dX11_holes_25 : decode cX11_holes 25 = .ok (.iaload, 1) := by decide +kernel
theorem dX11_holes_26 : decode cX11_holes 26 = .ok (.bipush 27, 2) := by decide +kernel
theorem dX11_holes_28 : decode cX11_holes 28 = .ok (.if_icmp .ne 7, 3) := by decide +kernel
theorem dX11_holes_31 : decode cX11_holes 31 = .ok (.iconst 1, 1) := by decide +kernel
theorem dX11_holes_32 : decode cX11_holes 32 = .ok (.goto 4, 3) := by decide +kernel
theorem dX11_holes_35 : decode cX11_holes 35 = .ok (.iconst 0, 1) := by decide +kernel
theorem dX11_holes_36 : decode cX11_holes 36 = .ok (.iadd, 1) := by decide +kernel
theorem dX11_holes_37 : decode cX11_holes 37 = .ok (.istore_n 2, 1) := by decide +kernel
theorem dX11_holes_38 : decode cX11_holes 38 = .ok (.iinc 3 1, 3) := by decide +kernel
theorem dX11_holes_41 : decode cX11_holes 41 = .ok (.goto (-37), 3) := by decide +kernel
theorem dX11_holes_44 : decode cX11_holes 44 = .ok (.iload_n 2, 1) := by decide +kernel
theorem dX11_holes_45 : decode cX11_holes 45 = .ok (.ireturn, 1) := by decide +kernel
theorem dX11_isBound_0 : decode cX11_isBound 0 = .ok (.aload_n 0, 1) := by decide +kernel
theorem dX11_isBound_1 : decode cX11_isBound 1 = .ok (.getfield 16, 3) := by decide +kernel
theorem dX11_isBound_4 : decode cX11_isBound 4 = .ok (.bipush 40, 2) := by decide +kernel
theorem dX11_isBound_6 : decode cX11_isBound 6 = .ok (.iload_n 1, 1) := by decide +kernel
theorem dX11_isBound_7 : decode cX11_isBound 7 = .ok (.imul, 1) := by decide +kernel
theorem dX11_isBound_8 : decode cX11_isBound 8 = .ok (.iload_n 2, 1) := by decide +kernel
theorem dX11_isBound_9 : decode cX11_isBound 9 = .ok (.iadd, 1) := by decide +kernel
theorem dX11_isBound_10 : decode cX11_isBound 10 = .ok (.iaload, 1) := by decide +kernel
theorem dX11_isBound_11 : decode cX11_isBound 11 = .ok (.istore_n 3, 1) := by decide +kernel
theorem dX11_isBound_12 : decode cX11_isBound 12 = .ok (.aload_n 0, 1) := by decide +kernel
theorem dX11_isBound_13 : decode cX11_isBound 13 = .ok (.getfield 19, 3) := by decide +kernel
theorem dX11_isBound_16 : decode cX11_isBound 16 = .ok (.bipush 40, 2) := by decide +kernel
theorem dX11_isBound_18 : decode cX11_isBound 18 = .ok (.iload_n 1, 1) := by decide +kernel
theorem dX11_isBound_19 : decode cX11_isBound 19 = .ok (.imul, 1) := by decide +kernel
theorem dX11_isBound_20 : decode cX11_isBound 20 = .ok (.iload_n 2, 1) := by decide +kernel
theorem dX11_isBound_21 : decode cX11_isBound 21 = .ok (.iadd, 1) := by decide +kernel
theorem dX11_isBound_22 : decode cX11_isBound 22 = .ok (.iaload, 1) := by decide +kernel
theorem dX11_isBound_23 : decode cX11_isBound 23 = .ok (.istore 4, 2) := by decide +kernel
theorem dX11_isBound_25 : decode cX11_isBound 25 = .ok (.aload_n 0, 1) := by decide +kernel
theorem dX11_isBound_26 : decode cX11_isBound 26 = .ok (.getfield 22, 3) := by decide +kernel
theorem dX11_isBound_29 : decode cX11_isBound 29 = .ok (.bipush 40, 2) := by decide +kernel
theorem dX11_isBound_31 : decode cX11_isBound 31 = .ok (.iload_n 1, 1) := by decide +kernel
theorem dX11_isBound_32 : decode cX11_isBound 32 = .ok (.imul, 1) := by decide +kernel
theorem dX11_isBound_33 : decode cX11_isBound 33 = .ok (.iload_n 2, 1) := by decide +kernel
theorem dX11_isBound_34 : decode cX11_isBound 34 = .ok (.iadd, 1) := by decide +kernel
theorem dX11_isBound_35 : decode cX11_isBound 35 = .ok (.iaload, 1) := by decide +kernel
theorem dX11_isBound_36 : decode cX11_isBound 36 = .ok (.istore 5, 2) := by decide +kernel
theorem dX11_isBound_38 : decode cX11_isBound 38 = .ok (.iload_n 3, 1) := by decide +kernel
theorem dX11_isBound_39 : decode cX11_isBound 39 = .ok (.tableswitch 189 1 15 #[73, 73, 189, 189, 189, 189, 189, 91, 91, 113, 189, 189, 120, 152, 169], 73) := by decide +kernel
theorem dX11_isBound_112 : decode cX11_isBound 112 = .ok (.iload 4, 2) := by decide +kernel
theorem dX11_isBound_114 : decode cX11_isBound 114 = .ok (.ifCond .lt 14, 3) := by decide +kernel
theorem dX11_isBound_117 : decode cX11_isBound 117 = .ok (.iload 4, 2) := by decide +kernel
theorem dX11_isBound_119 : decode cX11_isBound 119 = .ok (.bipush 8, 2) := by decide +kernel
theorem dX11_isBound_121 : decode cX11_isBound 121 = .ok (.if_icmp .ge 7, 3) := by decide +kernel
theorem dX11_isBound_124 : decode cX11_isBound 124 = .ok (.iconst 1, 1) := by decide +kernel
theorem dX11_isBound_125 : decode cX11_isBound 125 = .ok (.goto 4, 3) := by decide +kernel
theorem dX11_isBound_128 : decode cX11_isBound 128 = .ok (.iconst 0, 1) := by decide +kernel
theorem dX11_isBound_129 : decode cX11_isBound 129 = .ok (.ireturn, 1) := by decide +kernel
theorem dX11_isBound_130 : decode cX11_isBound 130 = .ok (.iload 4, 2) := by decide +kernel
theorem dX11_isBound_132 : decode cX11_isBound 132 = .ok (.ifCond .lt 18, 3) := by decide +kernel
theorem dX11_isBound_135 : decode cX11_isBound 135 = .ok (.iload 4, 2) := by decide +kernel
theorem dX11_isBound_137 : decode cX11_isBound 137 = .ok (.aload_n 0, 1) := by decide +kernel
theorem dX11_isBound_138 : decode cX11_isBound 138 = .ok (.getfield 13, 3) := by decide +kernel
theorem dX11_isBound_141 : decode cX11_isBound 141 = .ok (.iload_n 1, 1) := by decide +kernel
theorem dX11_isBound_142 : decode cX11_isBound 142 = .ok (.iaload, 1) := by decide +kernel
theorem dX11_isBound_143 : decode cX11_isBound 143 = .ok (.if_icmp .ge 7, 3) := by decide +kernel
theorem dX11_isBound_146 : decode cX11_isBound 146 = .ok (.iconst 1, 1) := by decide +kernel
theorem dX11_isBound_147 : decode cX11_isBound 147 = .ok (.goto 4, 3) := by decide +kernel
theorem dX11_isBound_150 : decode cX11_isBound 150 = .ok (.iconst 0, 1) := by decide +kernel
theorem dX11_isBound_151 : decode cX11_isBound 151 = .ok (.ireturn, 1) := by decide +kernel
theorem dX11_isBound_152 : decode cX11_isBound 152 = .ok (.aload_n 0, 1) := by decide +kernel
theorem dX11_isBound_153 : decode cX11_isBound 153 = .ok (.iload 4, 2) := by decide +kernel
theorem dX11_isBound_155 : decode cX11_isBound 155 = .ok (.invokevirtual 138, 3) := by decide +kernel
theorem dX11_isBound_158 : decode cX11_isBound 158 = .ok (.ireturn, 1) := by decide +kernel
theorem dX11_isBound_159 : decode cX11_isBound 159 = .ok (.aload_n 0, 1) := by decide +kernel
theorem dX11_isBound_160 : decode cX11_isBound 160 = .ok (.iload 4, 2) := by decide +kernel
theorem dX11_isBound_162 : decode cX11_isBound 162 = .ok (.invokevirtual 138, 3) := by decide +kernel
theorem dX11_isBound_165 : decode cX11_isBound 165 = .ok (.ifCond .eq 24, 3) := by decide +kernel
theorem dX11_isBound_168 : decode cX11_isBound 168 = .ok (.iload 5, 2) := by decide +kernel
theorem dX11_isBound_170 : decode cX11_isBound 170 = .ok (.ifCond .lt 19, 3) := by decide +kernel
theorem dX11_isBound_173 : decode cX11_isBound 173 = .ok (.iload 5, 2) := by decide +kernel
theorem dX11_isBound_175 : decode cX11_isBound 175 = .ok (.aload_n 0, 1) := by decide +kernel
theorem dX11_isBound_176 : decode cX11_isBound 176 = .ok (.getfield 7, 3) := by decide +kernel
theorem dX11_isBound_179 : decode cX11_isBound 179 = .ok (.iload 4, 2) := by decide +kernel
theorem dX11_isBound_181 : decode cX11_isBound 181 = .ok (.iaload, 1) := by decide +kernel
theorem dX11_isBound_182 : decode cX11_isBound 182 = .ok (.if_icmp .gt 7, 3) := by decide +kernel
theorem dX11_isBound_185 : decode cX11_isBound 185 = .ok (.iconst 1, 1) := by decide +kernel
theorem dX11_isBound_186 : decode cX11_isBound 186 = .ok (.goto 4, 3) := by decide +kernel
theorem dX11_isBound_189 : decode cX11_isBound 189 = .ok (.iconst 0, 1) := by decide +kernel
theorem dX11_isBound_190 : decode cX11_isBound 190 = .ok (.ireturn, 1) := by decide +kernel
theorem dX11_isBound_191 : decode cX11_isBound 191 = .ok (.iload 4, 2) := by decide +kernel
theorem dX11_isBound_193 : decode cX11_isBound 193 = .ok (.ifCond .lt 13, 3) := by decide +kernel
theorem dX11_isBound_196 : decode cX11_isBound 196 = .ok (.iload 4, 2) := by decide +kernel
theorem dX11_isBound_198 : decode cX11_isBound 198 = .ok (.iconst 3, 1) := by decide +kernel
theorem dX11_isBound_199 : decode cX11_isBound 199 = .ok (.if_icmp .gt 7, 3) := by decide +kernel
theorem dX11_isBound_202 : decode cX11_isBound 202 = .ok (.iconst 1, 1) := by decide +kernel
theorem dX11_isBound_203 : decode cX11_isBound 203 = .ok (.goto 4, 3) := by decide +kernel
theorem dX11_isBound_206 : decode cX11_isBound 206 = .ok (.iconst 0, 1) := by decide +kernel
theorem dX11_isBound_207 : decode cX11_isBound 207 = .ok (.ireturn, 1) := by decide +kernel
theorem dX11_isBound_208 : decode cX11_isBound 208 = .ok (.iload 4, 2) := by decide +kernel
theorem dX11_isBound_210 : decode cX11_isBound 210 = .ok (.ifCond .lt 16, 3) := by decide +kernel
theorem dX11_isBound_213 : decode cX11_isBound 213 = .ok (.iload 4, 2) := by decide +kernel
theorem dX11_isBound_215 : decode cX11_isBound 215 = .ok (.aload_n 0, 1) := by decide +kernel
theorem dX11_isBound_216 : decode cX11_isBound 216 = .ok (.getfield 146, 3) := by decide +kernel
theorem dX11_isBound_219 : decode cX11_isBound 219 = .ok (.if_icmp .ge 7, 3) := by decide +kernel
theorem dX11_isBound_222 : decode cX11_isBound 222 = .ok (.iconst 1, 1) := by decide +kernel
theorem dX11_isBound_223 : decode cX11_isBound 223 = .ok (.goto 4, 3) := by decide +kernel
theorem dX11_isBound_226 : decode cX11_isBound 226 = .ok (.iconst 0, 1) := by decide +kernel
theorem dX11_isBound_227 : decode cX11_isBound 227 = .ok (.ireturn, 1) := by decide +kernel
theorem dX11_isBound_228 : decode cX11_isBound 228 = .ok (.iconst 1, 1) := by decide +kernel
theorem dX11_isBound_229 : decode cX11_isBound 229 = .ok (.ireturn, 1) := by decide +kernel
theorem dX11_pops_0 : decode cX11_pops 0 = .ok (.aload_n 0, 1) := by decide +kernel
theorem dX11_pops_1 : decode cX11_pops 1 = .ok (.getfield 19, 3) := by decide +kernel
theorem dX11_pops_4 : decode cX11_pops 4 = .ok (.iload_n 1, 1) := by decide +kernel
theorem dX11_pops_5 : decode cX11_pops 5 = .ok (.iaload, 1) := by decide +kernel
theorem dX11_pops_6 : decode cX11_pops 6 = .ok (.istore_n 2, 1) := by decide +kernel
theorem dX11_pops_7 : decode cX11_pops 7 = .ok (.aload_n 0, 1) := by decide +kernel
theorem dX11_pops_8 : decode cX11_pops 8 = .ok (.getfield 16, 3) := by decide +kernel
theorem dX11_pops_11 : decode cX11_pops 11 = .ok (.iload_n 1, 1) := by decide +kernel
theorem dX11_pops_12 : decode cX11_pops 12 = .ok (.iaload, 1) := by decide +kernel
theorem dX11_pops_13 : decode cX11_pops 13 = .ok (.tableswitch 99 2 15 #[71, 73, 73, 73, 71, 71, 99, 71, 75, 71, 71, 82, 89, 93], 71) := by decide +kernel
theorem dX11_pops_84 : decode cX11_pops 84 = .ok (.iconst 1, 1) := by decide +kernel
theorem dX11_pops_85 : decode cX11_pops 85 = .ok (.ireturn, 1) := by decide +kernel
theorem dX11_pops_86 : decode cX11_pops 86 = .ok (.iconst 2, 1) := by decide +kernel
theorem dX11_pops_87 : decode cX11_pops 87 = .ok (.ireturn, 1) := by decide +kernel
theorem dX11_pops_88 : decode cX11_pops 88 = .ok (.aload_n 0, 1) := by decide +kernel
theorem dX11_pops_89 : decode cX11_pops 89 = .ok (.getfield 7, 3) := by decide +kernel
theorem dX11_pops_92 : decode cX11_pops 92 = .ok (.iload_n 2, 1) := by decide +kernel
theorem dX11_pops_93 : decode cX11_pops 93 = .ok (.iaload, 1) := by decide +kernel
theorem dX11_pops_94 : decode cX11_pops 94 = .ok (.ireturn, 1) := by decide +kernel
theorem dX11_pops_95 : decode cX11_pops 95 = .ok (.aload_n 0, 1) := by decide +kernel
theorem dX11_pops_96 : decode cX11_pops 96 = .ok (.getfield 22, 3) := by decide +kernel
theorem dX11_pops_99 : decode cX11_pops 99 = .ok (.iload_n 1, 1) := by decide +kernel
theorem dX11_pops_100 : decode cX11_pops 100 = .ok (.iaload, 1) := by decide +kernel
theorem dX11_pops_101 : decode cX11_pops 101 = .ok (.ireturn, 1) := by decide +kernel
theorem dX11_pops_102 : decode cX11_pops 102 = .ok (.iload_n 2, 1) := by decide +kernel
theorem dX11_pops_103 : decode cX11_pops 103 = .ok (.iconst 1, 1) := by decide +kernel
theorem dX11_pops_104 : decode cX11_pops 104 = .ok (.iadd, 1) := by decide +kernel
theorem dX11_pops_105 : decode cX11_pops 105 = .ok (.ireturn, 1) := by decide +kernel
theorem dX11_pops_106 : decode cX11_pops 106 = .ok (.aload_n 0, 1) := by decide +kernel
theorem dX11_pops_107 : decode cX11_pops 107 = .ok (.iload_n 2, 1) := by decide +kernel
theorem dX11_pops_108 : decode cX11_pops 108 = .ok (.invokevirtual 149, 3) := by decide +kernel
theorem dX11_pops_111 : decode cX11_pops 111 = .ok (.ireturn, 1) := by decide +kernel
theorem dX11_pops_112 : decode cX11_pops 112 = .ok (.iconst 0, 1) := by decide +kernel
theorem dX11_pops_113 : decode cX11_pops 113 = .ok (.ireturn, 1) := by decide +kernel
theorem dX11_pushes_0 : decode cX11_pushes 0 = .ok (.aload_n 0, 1) := by decide +kernel
theorem dX11_pushes_1 : decode cX11_pushes 1 = .ok (.getfield 16, 3) := by decide +kernel
theorem dX11_pushes_4 : decode cX11_pushes 4 = .ok (.iload_n 1, 1) := by decide +kernel
theorem dX11_pushes_5 : decode cX11_pushes 5 = .ok (.iaload, 1) := by decide +kernel
theorem dX11_pushes_6 : decode cX11_pushes 6 = .ok (.istore_n 2, 1) := by decide +kernel
theorem dX11_pushes_7 : decode cX11_pushes 7 = .ok (.iload_n 2, 1) := by decide +kernel
theorem dX11_pushes_8 : decode cX11_pushes 8 = .ok (.bipush 6, 2) := by decide +kernel
theorem dX11_pushes_10 : decode cX11_pushes 10 = .ok (.if_icmp .ne 5, 3) := by decide +kernel
theorem dX11_pushes_13 : decode cX11_pushes 13 = .ok (.iconst 2, 1) := by decide +kernel
theorem dX11_pushes_14 : decode cX11_pushes 14 = .ok (.ireturn, 1) := by decide +kernel
theorem dX11_pushes_15 : decode cX11_pushes 15 = .ok (.iload_n 2, 1) := by decide +kernel
theorem dX11_pushes_16 : decode cX11_pushes 16 = .ok (.iconst 2, 1) := by decide +kernel
theorem dX11_pushes_17 : decode cX11_pushes 17 = .ok (.if_icmp .eq 33, 3) := by decide +kernel
theorem dX11_pushes_20 : decode cX11_pushes 20 = .ok (.iload_n 2, 1) := by decide +kernel
theorem dX11_pushes_21 : decode cX11_pushes 21 = .ok (.bipush 7, 2) := by decide +kernel
theorem dX11_pushes_23 : decode cX11_pushes 23 = .ok (.if_icmp .eq 27, 3) := by decide +kernel
theorem dX11_pushes_26 : decode cX11_pushes 26 = .ok (.iload_n 2, 1) := by decide +kernel
theorem dX11_pushes_27 : decode cX11_pushes 27 = .ok (.bipush 8, 2) := by decide +kernel
theorem dX11_pushes_29 : decode cX11_pushes 29 = .ok (.if_icmp .eq 21, 3) := by decide +kernel
theorem dX11_pushes_32 : decode cX11_pushes 32 = .ok (.iload_n 2, 1) := by decide +kernel
theorem dX11_pushes_33 : decode cX11_pushes 33 = .ok (.bipush 9, 2) := by decide +kernel
theorem dX11_pushes_35 : decode cX11_pushes 35 = .ok (.if_icmp .eq 15, 3) := by decide +kernel
theorem dX11_pushes_38 : decode cX11_pushes 38 = .ok (.iload_n 2, 1) := by decide +kernel
theorem dX11_pushes_39 : decode cX11_pushes 39 = .ok (.bipush 11, 2) := by decide +kernel
theorem dX11_pushes_41 : decode cX11_pushes 41 = .ok (.if_icmp .eq 9, 3) := by decide +kernel
theorem dX11_pushes_44 : decode cX11_pushes 44 = .ok (.iload_n 2, 1) := by decide +kernel
theorem dX11_pushes_45 : decode cX11_pushes 45 = .ok (.bipush 12, 2) := by decide +kernel
theorem dX11_pushes_47 : decode cX11_pushes 47 = .ok (.if_icmp .ne 7, 3) := by decide +kernel
theorem dX11_pushes_50 : decode cX11_pushes 50 = .ok (.iconst 0, 1) := by decide +kernel
theorem dX11_pushes_51 : decode cX11_pushes 51 = .ok (.goto 4, 3) := by decide +kernel
theorem dX11_pushes_54 : decode cX11_pushes 54 = .ok (.iconst 1, 1) := by decide +kernel
theorem dX11_pushes_55 : decode cX11_pushes 55 = .ok (.ireturn, 1) := by decide +kernel
theorem dX11_meet_0 : decode cX11_meet 0 = .ok (.aload_n 0, 1) := by decide +kernel
theorem dX11_meet_1 : decode cX11_meet 1 = .ok (.getfield 31, 3) := by decide +kernel
theorem dX11_meet_4 : decode cX11_meet 4 = .ok (.iload_n 1, 1) := by decide +kernel
theorem dX11_meet_5 : decode cX11_meet 5 = .ok (.iaload, 1) := by decide +kernel
theorem dX11_meet_6 : decode cX11_meet 6 = .ok (.ifCond .ge 17, 3) := by decide +kernel
theorem dX11_meet_9 : decode cX11_meet 9 = .ok (.aload_n 0, 1) := by decide +kernel
theorem dX11_meet_10 : decode cX11_meet 10 = .ok (.getfield 31, 3) := by decide +kernel
theorem dX11_meet_13 : decode cX11_meet 13 = .ok (.iload_n 1, 1) := by decide +kernel
theorem dX11_meet_14 : decode cX11_meet 14 = .ok (.iload_n 2, 1) := by decide +kernel
theorem dX11_meet_15 : decode cX11_meet 15 = .ok (.iastore, 1) := by decide +kernel
theorem dX11_meet_16 : decode cX11_meet 16 = .ok (.aload_n 0, 1) := by decide +kernel
theorem dX11_meet_17 : decode cX11_meet 17 = .ok (.getfield 34, 3) := by decide +kernel
theorem dX11_meet_20 : decode cX11_meet 20 = .ok (.iload_n 1, 1) := by decide +kernel
theorem dX11_meet_21 : decode cX11_meet 21 = .ok (.iconst 1, 1) := by decide +kernel
theorem dX11_meet_22 : decode cX11_meet 22 = .ok (.bastore, 1) := by decide +kernel
theorem dX11_meet_23 : decode cX11_meet 23 = .ok (.aload_n 0, 1) := by decide +kernel
theorem dX11_meet_24 : decode cX11_meet 24 = .ok (.aload_n 0, 1) := by decide +kernel
theorem dX11_meet_25 : decode cX11_meet 25 = .ok (.getfield 31, 3) := by decide +kernel
theorem dX11_meet_28 : decode cX11_meet 28 = .ok (.iload_n 1, 1) := by decide +kernel
theorem dX11_meet_29 : decode cX11_meet 29 = .ok (.iaload, 1) := by decide +kernel
theorem dX11_meet_30 : decode cX11_meet 30 = .ok (.iload_n 2, 1) := by decide +kernel
theorem dX11_meet_31 : decode cX11_meet 31 = .ok (.if_icmp .eq 14, 3) := by decide +kernel
theorem dX11_meet_34 : decode cX11_meet 34 = .ok (.aload_n 0, 1) := by decide +kernel
theorem dX11_meet_35 : decode cX11_meet 35 = .ok (.getfield 153, 3) := by decide +kernel
theorem dX11_meet_38 : decode cX11_meet 38 = .ok (.ifCond .ge 7, 3) := by decide +kernel
theorem dX11_meet_41 : decode cX11_meet 41 = .ok (.iload_n 3, 1) := by decide +kernel
theorem dX11_meet_42 : decode cX11_meet 42 = .ok (.goto 7, 3) := by decide +kernel
theorem dX11_meet_45 : decode cX11_meet 45 = .ok (.aload_n 0, 1) := by decide +kernel
theorem dX11_meet_46 : decode cX11_meet 46 = .ok (.getfield 153, 3) := by decide +kernel
theorem dX11_meet_49 : decode cX11_meet 49 = .ok (.putfield 153, 3) := by decide +kernel
theorem dX11_meet_52 : decode cX11_meet 52 = .ok (.return_, 1) := by decide +kernel
theorem dX11_least_0 : decode cX11_least 0 = .ok (.iconst 0, 1) := by decide +kernel
theorem dX11_least_1 : decode cX11_least 1 = .ok (.istore_n 2, 1) := by decide +kernel
theorem dX11_least_2 : decode cX11_least 2 = .ok (.iload_n 2, 1) := by decide +kernel
theorem dX11_least_3 : decode cX11_least 3 = .ok (.iload_n 1, 1) := by decide +kernel
theorem dX11_least_4 : decode cX11_least 4 = .ok (.if_icmp .ge 20, 3) := by decide +kernel
theorem dX11_least_7 : decode cX11_least 7 = .ok (.aload_n 0, 1) := by decide +kernel
theorem dX11_least_8 : decode cX11_least 8 = .ok (.getfield 34, 3) := by decide +kernel
theorem dX11_least_11 : decode cX11_least 11 = .ok (.iload_n 2, 1) := by decide +kernel
theorem dX11_least_12 : decode cX11_least 12 = .ok (.baload, 1) := by decide +kernel
theorem dX11_least_13 : decode cX11_least 13 = .ok (.ifCond .eq 5, 3) := by decide +kernel
theorem dX11_least_16 : decode cX11_least 16 = .ok (.iload_n 2, 1) := by decide +kernel
theorem dX11_least_17 : decode cX11_least 17 = .ok (.ireturn, 1) := by decide +kernel
theorem dX11_least_18 : decode cX11_least 18 = .ok (.iinc 2 1, 3) := by decide +kernel
theorem dX11_least_21 : decode cX11_least 21 = .ok (.goto (-19), 3) := by decide +kernel
theorem dX11_least_24 : decode cX11_least 24 = .ok (.iconst (-1), 1) := by decide +kernel
theorem dX11_least_25 : decode cX11_least 25 = .ok (.ireturn, 1) := by decide +kernel
theorem dX11_walk_0 : decode cX11_walk 0 = .ok (.aload_n 0, 1) := by decide +kernel
theorem dX11_walk_1 : decode cX11_walk 1 = .ok (.getfield 13, 3) := by decide +kernel
theorem dX11_walk_4 : decode cX11_walk 4 = .ok (.iload_n 1, 1) := by decide +kernel
theorem dX11_walk_5 : decode cX11_walk 5 = .ok (.iaload, 1) := by decide +kernel
theorem dX11_walk_6 : decode cX11_walk 6 = .ok (.istore_n 2, 1) := by decide +kernel
theorem dX11_walk_7 : decode cX11_walk 7 = .ok (.iconst 0, 1) := by decide +kernel
theorem dX11_walk_8 : decode cX11_walk 8 = .ok (.istore_n 3, 1) := by decide +kernel
theorem dX11_walk_9 : decode cX11_walk 9 = .ok (.iload_n 3, 1) := by decide +kernel
theorem dX11_walk_10 : decode cX11_walk 10 = .ok (.iload_n 2, 1) := by decide +kernel
theorem dX11_walk_11 : decode cX11_walk 11 = .ok (.if_icmp .ge 39, 3) := by decide +kernel
theorem dX11_walk_14 : decode cX11_walk 14 = .ok (.aload_n 0, 1) := by decide +kernel
theorem dX11_walk_15 : decode cX11_walk 15 = .ok (.getfield 31, 3) := by decide +kernel
theorem dX11_walk_18 : decode cX11_walk 18 = .ok (.iload_n 3, 1) := by decide +kernel
theorem dX11_walk_19 : decode cX11_walk 19 = .ok (.iload_n 3, 1) := by decide +kernel
theorem dX11_walk_20 : decode cX11_walk 20 = .ok (.ifCond .ne 7, 3) := by decide +kernel
theorem dX11_walk_23 : decode cX11_walk 23 = .ok (.iconst 0, 1) := by decide +kernel
theorem dX11_walk_24 : decode cX11_walk 24 = .ok (.goto 4, 3) := by decide +kernel
theorem dX11_walk_27 : decode cX11_walk 27 = .ok (.iconst (-1), 1) := by decide +kernel
theorem dX11_walk_28 : decode cX11_walk 28 = .ok (.iastore, 1) := by decide +kernel
theorem dX11_walk_29 : decode cX11_walk 29 = .ok (.aload_n 0, 1) := by decide +kernel
theorem dX11_walk_30 : decode cX11_walk 30 = .ok (.getfield 34, 3) := by decide +kernel
theorem dX11_walk_33 : decode cX11_walk 33 = .ok (.iload_n 3, 1) := by decide +kernel
theorem dX11_walk_34 : decode cX11_walk 34 = .ok (.iload_n 3, 1) := by decide +kernel
theorem dX11_walk_35 : decode cX11_walk 35 = .ok (.ifCond .ne 7, 3) := by decide +kernel
theorem dX11_walk_38 : decode cX11_walk 38 = .ok (.iconst 1, 1) := by decide +kernel
theorem dX11_walk_39 : decode cX11_walk 39 = .ok (.goto 4, 3) := by decide +kernel
theorem dX11_walk_42 : decode cX11_walk 42 = .ok (.iconst 0, 1) := by decide +kernel
theorem dX11_walk_43 : decode cX11_walk 43 = .ok (.bastore, 1) := by decide +kernel
theorem dX11_walk_44 : decode cX11_walk 44 = .ok (.iinc 3 1, 3) := by decide +kernel
theorem dX11_walk_47 : decode cX11_walk 47 = .ok (.goto (-38), 3) := by decide +kernel
theorem dX11_walk_50 : decode cX11_walk 50 = .ok (.aload_n 0, 1) := by decide +kernel
theorem dX11_walk_51 : decode cX11_walk 51 = .ok (.getfield 38, 3) := by decide +kernel
theorem dX11_walk_54 : decode cX11_walk 54 = .ok (.iload_n 1, 1) := by decide +kernel
theorem dX11_walk_55 : decode cX11_walk 55 = .ok (.iconst 0, 1) := by decide +kernel
theorem dX11_walk_56 : decode cX11_walk 56 = .ok (.iastore, 1) := by decide +kernel
theorem dX11_walk_57 : decode cX11_walk 57 = .ok (.aload_n 0, 1) := by decide +kernel
theorem dX11_walk_58 : decode cX11_walk 58 = .ok (.iload_n 2, 1) := by decide +kernel
theorem dX11_walk_59 : decode cX11_walk 59 = .ok (.invokevirtual 156, 3) := by decide +kernel
theorem dX11_walk_62 : decode cX11_walk 62 = .ok (.istore_n 3, 1) := by decide +kernel
theorem dX11_walk_63 : decode cX11_walk 63 = .ok (.iload_n 3, 1) := by decide +kernel
theorem dX11_walk_64 : decode cX11_walk 64 = .ok (.ifCond .lt 225, 3) := by decide +kernel
theorem dX11_walk_67 : decode cX11_walk 67 = .ok (.aload_n 0, 1) := by decide +kernel
theorem dX11_walk_68 : decode cX11_walk 68 = .ok (.getfield 153, 3) := by decide +kernel
theorem dX11_walk_71 : decode cX11_walk 71 = .ok (.ifCond .ge 218, 3) := by decide +kernel
theorem dX11_walk_74 : decode cX11_walk 74 = .ok (.aload_n 0, 1) := by decide +kernel
theorem dX11_walk_75 : decode cX11_walk 75 = .ok (.getfield 34, 3) := by decide +kernel
theorem dX11_walk_78 : decode cX11_walk 78 = .ok (.iload_n 3, 1) := by decide +kernel
theorem dX11_walk_79 : decode cX11_walk 79 = .ok (.iconst 0, 1) := by decide +kernel
theorem dX11_walk_80 : decode cX11_walk 80 = .ok (.bastore, 1) := by decide +kernel
theorem dX11_walk_81 : decode cX11_walk 81 = .ok (.bipush 40, 2) := by decide +kernel
theorem dX11_walk_83 : decode cX11_walk 83 = .ok (.iload_n 1, 1) := by decide +kernel
theorem dX11_walk_84 : decode cX11_walk 84 = .ok (.imul, 1) := by decide +kernel
theorem dX11_walk_85 : decode cX11_walk 85 = .ok (.iload_n 3, 1) := by decide +kernel
theorem dX11_walk_86 : decode cX11_walk 86 = .ok (.iadd, 1) := by decide +kernel
theorem dX11_walk_87 : decode cX11_walk 87 = .ok (.istore 4, 2) := by decide +kernel
theorem dX11_walk_89 : decode cX11_walk 89 = .ok (.aload_n 0, 1) := by decide +kernel
theorem dX11_walk_90 : decode cX11_walk 90 = .ok (.getfield 31, 3) := by decide +kernel
theorem dX11_walk_93 : decode cX11_walk 93 = .ok (.iload_n 3, 1) := by decide +kernel
theorem dX11_walk_94 : decode cX11_walk 94 = .ok (.iaload, 1) := by decide +kernel
theorem dX11_walk_95 : decode cX11_walk 95 = .ok (.aload_n 0, 1) := by decide +kernel
theorem dX11_walk_96 : decode cX11_walk 96 = .ok (.iload 4, 2) := by decide +kernel
theorem dX11_walk_98 : decode cX11_walk 98 = .ok (.invokevirtual 159, 3) := by decide +kernel
theorem dX11_walk_101 : decode cX11_walk 101 = .ok (.isub, 1) := by decide +kernel
theorem dX11_walk_102 : decode cX11_walk 102 = .ok (.istore 5, 2) := by decide +kernel
theorem dX11_walk_104 : decode cX11_walk 104 = .ok (.iload 5, 2) := by decide +kernel
theorem dX11_walk_106 : decode cX11_walk 106 = .ok (.aload_n 0, 1) := by decide +kernel
theorem dX11_walk_107 : decode cX11_walk 107 = .ok (.iload 4, 2) := by decide +kernel
theorem dX11_walk_109 : decode cX11_walk 109 = .ok (.invokevirtual 162, 3) := by decide +kernel
theorem dX11_walk_112 : decode cX11_walk 112 = .ok (.iadd, 1) := by decide +kernel
theorem dX11_walk_113 : decode cX11_walk 113 = .ok (.istore 6, 2) := by decide +kernel
theorem dX11_walk_115 : decode cX11_walk 115 = .ok (.aload_n 0, 1) := by decide +kernel
theorem dX11_walk_116 : decode cX11_walk 116 = .ok (.iload 5, 2) := by decide +kernel
theorem dX11_walk_118 : decode cX11_walk 118 = .ok (.ifCond .lt 10, 3) := by decide +kernel
theorem dX11_walk_121 : decode cX11_walk 121 = .ok (.iload 6, 2) := by decide +kernel
theorem dX11_walk_123 : decode cX11_walk 123 = .ok (.bipush 12, 2) := by decide +kernel
theorem dX11_walk_125 : decode cX11_walk 125 = .ok (.if_icmp .le 7, 3) := by decide +kernel
theorem dX11_walk_128 : decode cX11_walk 128 = .ok (.iload_n 3, 1) := by decide +kernel
theorem dX11_walk_129 : decode cX11_walk 129 = .ok (.goto 7, 3) := by decide +kernel
theorem dX11_walk_132 : decode cX11_walk 132 = .ok (.aload_n 0, 1) := by decide +kernel
theorem dX11_walk_133 : decode cX11_walk 133 = .ok (.getfield 153, 3) := by decide +kernel
theorem dX11_walk_136 : decode cX11_walk 136 = .ok (.putfield 153, 3) := by decide +kernel
theorem dX11_walk_139 : decode cX11_walk 139 = .ok (.aload_n 0, 1) := by decide +kernel
theorem dX11_walk_140 : decode cX11_walk 140 = .ok (.getfield 38, 3) := by decide +kernel
theorem dX11_walk_143 : decode cX11_walk 143 = .ok (.iload_n 1, 1) := by decide +kernel
theorem dX11_walk_144 : decode cX11_walk 144 = .ok (.iload 6, 2) := by decide +kernel
theorem dX11_walk_146 : decode cX11_walk 146 = .ok (.aload_n 0, 1) := by decide +kernel
theorem dX11_walk_147 : decode cX11_walk 147 = .ok (.getfield 38, 3) := by decide +kernel
theorem dX11_walk_150 : decode cX11_walk 150 = .ok (.iload_n 1, 1) := by decide +kernel
theorem dX11_walk_151 : decode cX11_walk 151 = .ok (.iaload, 1) := by decide +kernel
theorem dX11_walk_152 : decode cX11_walk 152 = .ok (.if_icmp .le 8, 3) := by decide +kernel
theorem dX11_walk_155 : decode cX11_walk 155 = .ok (.iload 6, 2) := by decide +kernel
theorem dX11_walk_157 : decode cX11_walk 157 = .ok (.goto 9, 3) := by decide +kernel
theorem dX11_walk_160 : decode cX11_walk 160 = .ok (.aload_n 0, 1) := by decide +kernel
theorem dX11_walk_161 : decode cX11_walk 161 = .ok (.getfield 38, 3) := by decide +kernel
theorem dX11_walk_164 : decode cX11_walk 164 = .ok (.iload_n 1, 1) := by decide +kernel
theorem dX11_walk_165 : decode cX11_walk 165 = .ok (.iaload, 1) := by decide +kernel
theorem dX11_walk_166 : decode cX11_walk 166 = .ok (.iastore, 1) := by decide +kernel
theorem dX11_walk_167 : decode cX11_walk 167 = .ok (.aload_n 0, 1) := by decide +kernel
theorem dX11_walk_168 : decode cX11_walk 168 = .ok (.getfield 16, 3) := by decide +kernel
theorem dX11_walk_171 : decode cX11_walk 171 = .ok (.iload 4, 2) := by decide +kernel
theorem dX11_walk_173 : decode cX11_walk 173 = .ok (.iaload, 1) := by decide +kernel
theorem dX11_walk_174 : decode cX11_walk 174 = .ok (.bipush 8, 2) := by decide +kernel
theorem dX11_walk_176 : decode cX11_walk 176 = .ok (.if_icmp .eq 15, 3) := by decide +kernel
theorem dX11_walk_179 : decode cX11_walk 179 = .ok (.aload_n 0, 1) := by decide +kernel
theorem dX11_walk_180 : decode cX11_walk 180 = .ok (.getfield 16, 3) := by decide +kernel
theorem dX11_walk_183 : decode cX11_walk 183 = .ok (.iload 4, 2) := by decide +kernel
theorem dX11_walk_185 : decode cX11_walk 185 = .ok (.iaload, 1) := by decide +kernel
theorem dX11_walk_186 : decode cX11_walk 186 = .ok (.bipush 11, 2) := by decide +kernel
theorem dX11_walk_188 : decode cX11_walk 188 = .ok (.if_icmp .ne 7, 3) := by decide +kernel
theorem dX11_walk_191 : decode cX11_walk 191 = .ok (.iconst 1, 1) := by decide +kernel
theorem dX11_walk_192 : decode cX11_walk 192 = .ok (.goto 4, 3) := by decide +kernel
theorem dX11_walk_195 : decode cX11_walk 195 = .ok (.iconst 0, 1) := by decide +kernel
theorem dX11_walk_196 : decode cX11_walk 196 = .ok (.istore 7, 2) := by decide +kernel
theorem dX11_walk_198 : decode cX11_walk 198 = .ok (.aload_n 0, 1) := by decide +kernel
theorem dX11_walk_199 : decode cX11_walk 199 = .ok (.getfield 153, 3) := by decide +kernel
theorem dX11_walk_202 : decode cX11_walk 202 = .ok (.ifCond .ge 33, 3) := by decide +kernel
theorem dX11_walk_205 : decode cX11_walk 205 = .ok (.iload 7, 2) := by decide +kernel
theorem dX11_walk_207 : decode cX11_walk 207 = .ok (.ifCond .ne 28, 3) := by decide +kernel
theorem dX11_walk_210 : decode cX11_walk 210 = .ok (.iload_n 3, 1) := by decide +kernel
theorem dX11_walk_211 : decode cX11_walk 211 = .ok (.iconst 1, 1) := by decide +kernel
theorem dX11_walk_212 : decode cX11_walk 212 = .ok (.iadd, 1) := by decide +kernel
theorem dX11_walk_213 : decode cX11_walk 213 = .ok (.iload_n 2, 1) := by decide +kernel
theorem dX11_walk_214 : decode cX11_walk 214 = .ok (.if_icmp .ne 11, 3) := by decide +kernel
theorem dX11_walk_217 : decode cX11_walk 217 = .ok (.aload_n 0, 1) := by decide +kernel
theorem dX11_walk_218 : decode cX11_walk 218 = .ok (.iload_n 3, 1) := by decide +kernel
theorem dX11_walk_219 : decode cX11_walk 219 = .ok (.putfield 153, 3) := by decide +kernel
theorem dX11_walk_222 : decode cX11_walk 222 = .ok (.goto 13, 3) := by decide +kernel
theorem dX11_walk_225 : decode cX11_walk 225 = .ok (.aload_n 0, 1) := by decide +kernel
theorem dX11_walk_226 : decode cX11_walk 226 = .ok (.iload_n 3, 1) := by decide +kernel
theorem dX11_walk_227 : decode cX11_walk 227 = .ok (.iconst 1, 1) := by decide +kernel
theorem dX11_walk_228 : decode cX11_walk 228 = .ok (.iadd, 1) := by decide +kernel
theorem dX11_walk_229 : decode cX11_walk 229 = .ok (.iload 6, 2) := by decide +kernel
theorem dX11_walk_231 : decode cX11_walk 231 = .ok (.iload_n 3, 1) := by decide +kernel
theorem dX11_walk_232 : decode cX11_walk 232 = .ok (.invokevirtual 165, 3) := by decide +kernel
theorem dX11_walk_235 : decode cX11_walk 235 = .ok (.aload_n 0, 1) := by decide +kernel
theorem dX11_walk_236 : decode cX11_walk 236 = .ok (.getfield 153, 3) := by decide +kernel
theorem dX11_walk_239 : decode cX11_walk 239 = .ok (.ifCond .ge 41, 3) := by decide +kernel
theorem dX11_walk_242 : decode cX11_walk 242 = .ok (.aload_n 0, 1) := by decide +kernel
theorem dX11_walk_243 : decode cX11_walk 243 = .ok (.getfield 16, 3) := by decide +kernel
theorem dX11_walk_246 : decode cX11_walk 246 = .ok (.iload 4, 2) := by decide +kernel
theorem dX11_walk_248 : decode cX11_walk 248 = .ok (.iaload, 1) := by decide +kernel
theorem dX11_walk_249 : decode cX11_walk 249 = .ok (.bipush 8, 2) := by decide +kernel
theorem dX11_walk_251 : decode cX11_walk 251 = .ok (.if_icmp .eq 15, 3) := by decide +kernel
theorem dX11_walk_254 : decode cX11_walk 254 = .ok (.aload_n 0, 1) := by decide +kernel
theorem dX11_walk_255 : decode cX11_walk 255 = .ok (.getfield 16, 3) := by decide +kernel
theorem dX11_walk_258 : decode cX11_walk 258 = .ok (.iload 4, 2) := by decide +kernel
theorem dX11_walk_260 : decode cX11_walk 260 = .ok (.iaload, 1) := by decide +kernel
theorem dX11_walk_261 : decode cX11_walk 261 = .ok (.bipush 9, 2) := by decide +kernel
theorem dX11_walk_263 : decode cX11_walk 263 = .ok (.if_icmp .ne 17, 3) := by decide +kernel
theorem dX11_walk_266 : decode cX11_walk 266 = .ok (.aload_n 0, 1) := by decide +kernel
theorem dX11_walk_267 : decode cX11_walk 267 = .ok (.aload_n 0, 1) := by decide +kernel
theorem dX11_walk_268 : decode cX11_walk 268 = .ok (.getfield 19, 3) := by decide +kernel
theorem dX11_walk_271 : decode cX11_walk 271 = .ok (.iload 4, 2) := by decide +kernel
theorem dX11_walk_273 : decode cX11_walk 273 = .ok (.iaload, 1) := by decide +kernel
theorem dX11_walk_274 : decode cX11_walk 274 = .ok (.iload 6, 2) := by decide +kernel
theorem dX11_walk_276 : decode cX11_walk 276 = .ok (.iload_n 3, 1) := by decide +kernel
theorem dX11_walk_277 : decode cX11_walk 277 = .ok (.invokevirtual 165, 3) := by decide +kernel
theorem dX11_walk_280 : decode cX11_walk 280 = .ok (.aload_n 0, 1) := by decide +kernel
theorem dX11_walk_281 : decode cX11_walk 281 = .ok (.iload_n 2, 1) := by decide +kernel
theorem dX11_walk_282 : decode cX11_walk 282 = .ok (.invokevirtual 156, 3) := by decide +kernel
theorem dX11_walk_285 : decode cX11_walk 285 = .ok (.istore_n 3, 1) := by decide +kernel
theorem dX11_walk_286 : decode cX11_walk 286 = .ok (.goto (-223), 3) := by decide +kernel
theorem dX11_walk_289 : decode cX11_walk 289 = .ok (.return_, 1) := by decide +kernel
theorem dX11_checkOne_0 : decode cX11_checkOne 0 = .ok (.aload_n 0, 1) := by decide +kernel
theorem dX11_checkOne_1 : decode cX11_checkOne 1 = .ok (.aload_n 0, 1) := by decide +kernel
theorem dX11_checkOne_2 : decode cX11_checkOne 2 = .ok (.getfield 13, 3) := by decide +kernel
theorem dX11_checkOne_5 : decode cX11_checkOne 5 = .ok (.iload_n 1, 1) := by decide +kernel
theorem dX11_checkOne_6 : decode cX11_checkOne 6 = .ok (.iaload, 1) := by decide +kernel
theorem dX11_checkOne_7 : decode cX11_checkOne 7 = .ok (.ifCond .ne 7, 3) := by decide +kernel
theorem dX11_checkOne_10 : decode cX11_checkOne 10 = .ok (.iconst 0, 1) := by decide +kernel
theorem dX11_checkOne_11 : decode cX11_checkOne 11 = .ok (.goto 4, 3) := by decide +kernel
theorem dX11_checkOne_14 : decode cX11_checkOne 14 = .ok (.iconst (-1), 1) := by decide +kernel
theorem dX11_checkOne_15 : decode cX11_checkOne 15 = .ok (.putfield 153, 3) := by decide +kernel
theorem dX11_checkOne_18 : decode cX11_checkOne 18 = .ok (.aload_n 0, 1) := by decide +kernel
theorem dX11_checkOne_19 : decode cX11_checkOne 19 = .ok (.getfield 13, 3) := by decide +kernel
theorem dX11_checkOne_22 : decode cX11_checkOne 22 = .ok (.iload_n 1, 1) := by decide +kernel
theorem dX11_checkOne_23 : decode cX11_checkOne 23 = .ok (.iaload, 1) := by decide +kernel
theorem dX11_checkOne_24 : decode cX11_checkOne 24 = .ok (.iconst 1, 1) := by decide +kernel
theorem dX11_checkOne_25 : decode cX11_checkOne 25 = .ok (.isub, 1) := by decide +kernel
theorem dX11_checkOne_26 : decode cX11_checkOne 26 = .ok (.istore_n 2, 1) := by decide +kernel
theorem dX11_checkOne_27 : decode cX11_checkOne 27 = .ok (.iload_n 2, 1) := by decide +kernel
theorem dX11_checkOne_28 : decode cX11_checkOne 28 = .ok (.ifCond .lt 30, 3) := by decide +kernel
theorem dX11_checkOne_31 : decode cX11_checkOne 31 = .ok (.aload_n 0, 1) := by decide +kernel
theorem dX11_checkOne_32 : decode cX11_checkOne 32 = .ok (.aload_n 0, 1) := by decide +kernel
theorem dX11_checkOne_33 : decode cX11_checkOne 33 = .ok (.iload_n 1, 1) := by decide +kernel
theorem dX11_checkOne_34 : decode cX11_checkOne 34 = .ok (.iload_n 2, 1) := by decide +kernel
theorem dX11_checkOne_35 : decode cX11_checkOne 35 = .ok (.invokevirtual 169, 3) := by decide +kernel
theorem dX11_checkOne_38 : decode cX11_checkOne 38 = .ok (.ifCond .eq 10, 3) := by decide +kernel
theorem dX11_checkOne_41 : decode cX11_checkOne 41 = .ok (.aload_n 0, 1) := by decide +kernel
theorem dX11_checkOne_42 : decode cX11_checkOne 42 = .ok (.getfield 153, 3) := by decide +kernel
theorem dX11_checkOne_45 : decode cX11_checkOne 45 = .ok (.goto 4, 3) := by decide +kernel
theorem dX11_checkOne_48 : decode cX11_checkOne 48 = .ok (.iload_n 2, 1) := by decide +kernel
theorem dX11_checkOne_49 : decode cX11_checkOne 49 = .ok (.putfield 153, 3) := by decide +kernel
theorem dX11_checkOne_52 : decode cX11_checkOne 52 = .ok (.iinc 2 (-1), 3) := by decide +kernel
theorem dX11_checkOne_55 : decode cX11_checkOne 55 = .ok (.goto (-28), 3) := by decide +kernel
theorem dX11_checkOne_58 : decode cX11_checkOne 58 = .ok (.aload_n 0, 1) := by decide +kernel
theorem dX11_checkOne_59 : decode cX11_checkOne 59 = .ok (.getfield 153, 3) := by decide +kernel
theorem dX11_checkOne_62 : decode cX11_checkOne 62 = .ok (.ifCond .ge 8, 3) := by decide +kernel
theorem dX11_checkOne_65 : decode cX11_checkOne 65 = .ok (.aload_n 0, 1) := by decide +kernel
theorem dX11_checkOne_66 : decode cX11_checkOne 66 = .ok (.iload_n 1, 1) := by decide +kernel
theorem dX11_checkOne_67 : decode cX11_checkOne 67 = .ok (.invokevirtual 173, 3) := by decide +kernel
theorem dX11_checkOne_70 : decode cX11_checkOne 70 = .ok (.aload_n 0, 1) := by decide +kernel
theorem dX11_checkOne_71 : decode cX11_checkOne 71 = .ok (.getfield 153, 3) := by decide +kernel
theorem dX11_checkOne_74 : decode cX11_checkOne 74 = .ok (.ireturn, 1) := by decide +kernel
theorem dX11_checkAll_0 : decode cX11_checkAll 0 = .ok (.iconst 0, 1) := by decide +kernel
theorem dX11_checkAll_1 : decode cX11_checkAll 1 = .ok (.istore_n 1, 1) := by decide +kernel
theorem dX11_checkAll_2 : decode cX11_checkAll 2 = .ok (.iload_n 1, 1) := by decide +kernel
theorem dX11_checkAll_3 : decode cX11_checkAll 3 = .ok (.aload_n 0, 1) := by decide +kernel
theorem dX11_checkAll_4 : decode cX11_checkAll 4 = .ok (.getfield 127, 3) := by decide +kernel
theorem dX11_checkAll_7 : decode cX11_checkAll 7 = .ok (.if_icmp .ge 26, 3) := by decide +kernel
theorem dX11_checkAll_10 : decode cX11_checkAll 10 = .ok (.aload_n 0, 1) := by decide +kernel
theorem dX11_checkAll_11 : decode cX11_checkAll 11 = .ok (.iload_n 1, 1) := by decide +kernel
theorem dX11_checkAll_12 : decode cX11_checkAll 12 = .ok (.invokevirtual 177, 3) := by decide +kernel
theorem dX11_checkAll_15 : decode cX11_checkAll 15 = .ok (.istore_n 2, 1) := by decide +kernel
theorem dX11_checkAll_16 : decode cX11_checkAll 16 = .ok (.iload_n 2, 1) := by decide +kernel
theorem dX11_checkAll_17 : decode cX11_checkAll 17 = .ok (.ifCond .lt 10, 3) := by decide +kernel
theorem dX11_checkAll_20 : decode cX11_checkAll 20 = .ok (.bipush 64, 2) := by decide +kernel
theorem dX11_checkAll_22 : decode cX11_checkAll 22 = .ok (.iload_n 1, 1) := by decide +kernel
theorem dX11_checkAll_23 : decode cX11_checkAll 23 = .ok (.imul, 1) := by decide +kernel
theorem dX11_checkAll_24 : decode cX11_checkAll 24 = .ok (.iload_n 2, 1) := by decide +kernel
theorem dX11_checkAll_25 : decode cX11_checkAll 25 = .ok (.iadd, 1) := by decide +kernel
theorem dX11_checkAll_26 : decode cX11_checkAll 26 = .ok (.ireturn, 1) := by decide +kernel
theorem dX11_checkAll_27 : decode cX11_checkAll 27 = .ok (.iinc 1 1, 3) := by decide +kernel
theorem dX11_checkAll_30 : decode cX11_checkAll 30 = .ok (.goto (-28), 3) := by decide +kernel
theorem dX11_checkAll_33 : decode cX11_checkAll 33 = .ok (.iconst (-1), 1) := by decide +kernel
theorem dX11_checkAll_34 : decode cX11_checkAll 34 = .ok (.ireturn, 1) := by decide +kernel
theorem dX11_check_0 : decode cX11_check 0 = .ok (.aload_n 0, 1) := by decide +kernel
theorem dX11_check_1 : decode cX11_check 1 = .ok (.iconst 0, 1) := by decide +kernel
theorem dX11_check_2 : decode cX11_check 2 = .ok (.putfield 123, 3) := by decide +kernel
theorem dX11_check_5 : decode cX11_check 5 = .ok (.aload_n 0, 1) := by decide +kernel
theorem dX11_check_6 : decode cX11_check 6 = .ok (.invokevirtual 180, 3) := by decide +kernel
theorem dX11_check_9 : decode cX11_check 9 = .ok (.ireturn, 1) := by decide +kernel
theorem dX11_put_0 : decode cX11_put 0 = .ok (.sipush 1500, 3) := by decide +kernel
theorem dX11_put_3 : decode cX11_put 3 = .ok (.iload_n 1, 1) := by decide +kernel
theorem dX11_put_4 : decode cX11_put 4 = .ok (.imul, 1) := by decide +kernel
theorem dX11_put_5 : decode cX11_put 5 = .ok (.aload_n 0, 1) := by decide +kernel
theorem dX11_put_6 : decode cX11_put 6 = .ok (.getfield 44, 3) := by decide +kernel
theorem dX11_put_9 : decode cX11_put 9 = .ok (.iload_n 1, 1) := by decide +kernel
theorem dX11_put_10 : decode cX11_put 10 = .ok (.iaload, 1) := by decide +kernel
theorem dX11_put_11 : decode cX11_put 11 = .ok (.iadd, 1) := by decide +kernel
theorem dX11_put_12 : decode cX11_put 12 = .ok (.istore 5, 2) := by decide +kernel
theorem dX11_put_14 : decode cX11_put 14 = .ok (.aload_n 0, 1) := by decide +kernel
theorem dX11_put_15 : decode cX11_put 15 = .ok (.getfield 47, 3) := by decide +kernel
theorem dX11_put_18 : decode cX11_put 18 = .ok (.iload 5, 2) := by decide +kernel
theorem dX11_put_20 : decode cX11_put 20 = .ok (.iload_n 2, 1) := by decide +kernel
theorem dX11_put_21 : decode cX11_put 21 = .ok (.iastore, 1) := by decide +kernel
theorem dX11_put_22 : decode cX11_put 22 = .ok (.aload_n 0, 1) := by decide +kernel
theorem dX11_put_23 : decode cX11_put 23 = .ok (.getfield 50, 3) := by decide +kernel
theorem dX11_put_26 : decode cX11_put 26 = .ok (.iload 5, 2) := by decide +kernel
theorem dX11_put_28 : decode cX11_put 28 = .ok (.iload_n 3, 1) := by decide +kernel
theorem dX11_put_29 : decode cX11_put 29 = .ok (.iastore, 1) := by decide +kernel
theorem dX11_put_30 : decode cX11_put 30 = .ok (.aload_n 0, 1) := by decide +kernel
theorem dX11_put_31 : decode cX11_put 31 = .ok (.getfield 53, 3) := by decide +kernel
theorem dX11_put_34 : decode cX11_put 34 = .ok (.iload 5, 2) := by decide +kernel
theorem dX11_put_36 : decode cX11_put 36 = .ok (.iload 4, 2) := by decide +kernel
theorem dX11_put_38 : decode cX11_put 38 = .ok (.iastore, 1) := by decide +kernel
theorem dX11_put_39 : decode cX11_put 39 = .ok (.aload_n 0, 1) := by decide +kernel
theorem dX11_put_40 : decode cX11_put 40 = .ok (.getfield 44, 3) := by decide +kernel
theorem dX11_put_43 : decode cX11_put 43 = .ok (.iload_n 1, 1) := by decide +kernel
theorem dX11_put_44 : decode cX11_put 44 = .ok (.dup2, 1) := by decide +kernel
theorem dX11_put_45 : decode cX11_put 45 = .ok (.iaload, 1) := by decide +kernel
theorem dX11_put_46 : decode cX11_put 46 = .ok (.iconst 1, 1) := by decide +kernel
theorem dX11_put_47 : decode cX11_put 47 = .ok (.iadd, 1) := by decide +kernel
theorem dX11_put_48 : decode cX11_put 48 = .ok (.iastore, 1) := by decide +kernel
theorem dX11_put_49 : decode cX11_put 49 = .ok (.return_, 1) := by decide +kernel
theorem dX11_putFunction_0 : decode cX11_putFunction 0 = .ok (.aload_n 0, 1) := by decide +kernel
theorem dX11_putFunction_1 : decode cX11_putFunction 1 = .ok (.iload_n 1, 1) := by decide +kernel
theorem dX11_putFunction_2 : decode cX11_putFunction 2 = .ok (.bipush 20, 2) := by decide +kernel
theorem dX11_putFunction_4 : decode cX11_putFunction 4 = .ok (.aload_n 0, 1) := by decide +kernel
theorem dX11_putFunction_5 : decode cX11_putFunction 5 = .ok (.getfield 184, 3) := by decide +kernel
theorem dX11_putFunction_8 : decode cX11_putFunction 8 = .ok (.iconst 0, 1) := by decide +kernel
theorem dX11_putFunction_9 : decode cX11_putFunction 9 = .ok (.invokevirtual 187, 3) := by decide +kernel
theorem dX11_putFunction_12 : decode cX11_putFunction 12 = .ok (.aload_n 0, 1) := by decide +kernel
theorem dX11_putFunction_13 : decode cX11_putFunction 13 = .ok (.getfield 59, 3) := by decide +kernel
theorem dX11_putFunction_16 : decode cX11_putFunction 16 = .ok (.aload_n 0, 1) := by decide +kernel
theorem dX11_putFunction_17 : decode cX11_putFunction 17 = .ok (.getfield 184, 3) := by decide +kernel
theorem dX11_putFunction_20 : decode cX11_putFunction 20 = .ok (.iload_n 3, 1) := by decide +kernel
theorem dX11_putFunction_21 : decode cX11_putFunction 21 = .ok (.iastore, 1) := by decide +kernel
theorem dX11_putFunction_22 : decode cX11_putFunction 22 = .ok (.aload_n 0, 1) := by decide +kernel
theorem dX11_putFunction_23 : decode cX11_putFunction 23 = .ok (.getfield 62, 3) := by decide +kernel
theorem dX11_putFunction_26 : decode cX11_putFunction 26 = .ok (.aload_n 0, 1) := by decide +kernel
theorem dX11_putFunction_27 : decode cX11_putFunction 27 = .ok (.getfield 184, 3) := by decide +kernel
theorem dX11_putFunction_30 : decode cX11_putFunction 30 = .ok (.iload_n 2, 1) := by decide +kernel
theorem dX11_putFunction_31 : decode cX11_putFunction 31 = .ok (.iastore, 1) := by decide +kernel
theorem dX11_putFunction_32 : decode cX11_putFunction 32 = .ok (.aload_n 0, 1) := by decide +kernel
theorem dX11_putFunction_33 : decode cX11_putFunction 33 = .ok (.dup, 1) := by decide +kernel
theorem dX11_putFunction_34 : decode cX11_putFunction 34 = .ok (.getfield 184, 3) := by decide +kernel
theorem dX11_putFunction_37 : decode cX11_putFunction 37 = .ok (.iconst 1, 1) := by decide +kernel
theorem dX11_putFunction_38 : decode cX11_putFunction 38 = .ok (.iadd, 1) := by decide +kernel
theorem dX11_putFunction_39 : decode cX11_putFunction 39 = .ok (.putfield 184, 3) := by decide +kernel
theorem dX11_putFunction_42 : decode cX11_putFunction 42 = .ok (.iload_n 3, 1) := by decide +kernel
theorem dX11_putFunction_43 : decode cX11_putFunction 43 = .ok (.ifCond .ne 4, 3) := by decide +kernel
theorem dX11_putFunction_46 : decode cX11_putFunction 46 = .ok (.return_, 1) := by decide +kernel
theorem dX11_putFunction_47 : decode cX11_putFunction 47 = .ok (.aload_n 0, 1) := by decide +kernel
theorem dX11_putFunction_48 : decode cX11_putFunction 48 = .ok (.iload_n 1, 1) := by decide +kernel
theorem dX11_putFunction_49 : decode cX11_putFunction 49 = .ok (.iconst 2, 1) := by decide +kernel
theorem dX11_putFunction_50 : decode cX11_putFunction 50 = .ok (.bipush 8, 2) := by decide +kernel
theorem dX11_putFunction_52 : decode cX11_putFunction 52 = .ok (.iconst 0, 1) := by decide +kernel
theorem dX11_putFunction_53 : decode cX11_putFunction 53 = .ok (.invokevirtual 187, 3) := by decide +kernel
theorem dX11_putFunction_56 : decode cX11_putFunction 56 = .ok (.iload_n 3, 1) := by decide +kernel
theorem dX11_putFunction_57 : decode cX11_putFunction 57 = .ok (.istore 4, 2) := by decide +kernel
theorem dX11_putFunction_59 : decode cX11_putFunction 59 = .ok (.iload 4, 2) := by decide +kernel
theorem dX11_putFunction_61 : decode cX11_putFunction 61 = .ok (.iconst 1, 1) := by decide +kernel
theorem dX11_putFunction_62 : decode cX11_putFunction 62 = .ok (.if_icmp .lt 21, 3) := by decide +kernel
theorem dX11_putFunction_65 : decode cX11_putFunction 65 = .ok (.aload_n 0, 1) := by decide +kernel
theorem dX11_putFunction_66 : decode cX11_putFunction 66 = .ok (.iload_n 1, 1) := by decide +kernel
theorem dX11_putFunction_67 : decode cX11_putFunction 67 = .ok (.iconst 2, 1) := by decide +kernel
theorem dX11_putFunction_68 : decode cX11_putFunction 68 = .ok (.bipush 8, 2) := by decide +kernel
theorem dX11_putFunction_70 : decode cX11_putFunction 70 = .ok (.iload 4, 2) := by decide +kernel
theorem dX11_putFunction_72 : decode cX11_putFunction 72 = .ok (.iadd, 1) := by decide +kernel
theorem dX11_putFunction_73 : decode cX11_putFunction 73 = .ok (.iconst 0, 1) := by decide +kernel
theorem dX11_putFunction_74 : decode cX11_putFunction 74 = .ok (.invokevirtual 187, 3) := by decide +kernel
theorem dX11_putFunction_77 : decode cX11_putFunction 77 = .ok (.iinc 4 (-1), 3) := by decide +kernel
theorem dX11_putFunction_80 : decode cX11_putFunction 80 = .ok (.goto (-21), 3) := by decide +kernel
theorem dX11_putFunction_83 : decode cX11_putFunction 83 = .ok (.aload_n 0, 1) := by decide +kernel
theorem dX11_putFunction_84 : decode cX11_putFunction 84 = .ok (.iload_n 1, 1) := by decide +kernel
theorem dX11_putFunction_85 : decode cX11_putFunction 85 = .ok (.iconst 1, 1) := by decide +kernel
theorem dX11_putFunction_86 : decode cX11_putFunction 86 = .ok (.bipush 8, 2) := by decide +kernel
theorem dX11_putFunction_88 : decode cX11_putFunction 88 = .ok (.iconst 0, 1) := by decide +kernel
theorem dX11_putFunction_89 : decode cX11_putFunction 89 = .ok (.invokevirtual 187, 3) := by decide +kernel
theorem dX11_putFunction_92 : decode cX11_putFunction 92 = .ok (.iconst 0, 1) := by decide +kernel
theorem dX11_putFunction_93 : decode cX11_putFunction 93 = .ok (.istore 4, 2) := by decide +kernel
theorem dX11_putFunction_95 : decode cX11_putFunction 95 = .ok (.iload 4, 2) := by decide +kernel
theorem dX11_putFunction_97 : decode cX11_putFunction 97 = .ok (.iload_n 3, 1) := by decide +kernel
theorem dX11_putFunction_98 : decode cX11_putFunction 98 = .ok (.if_icmp .ge 31, 3) := by decide +kernel
theorem dX11_putFunction_101 : decode cX11_putFunction 101 = .ok (.aload_n 0, 1) := by decide +kernel
theorem dX11_putFunction_102 : decode cX11_putFunction 102 = .ok (.iload_n 1, 1) := by decide +kernel
theorem dX11_putFunction_103 : decode cX11_putFunction 103 = .ok (.iconst 1, 1) := by decide +kernel
theorem dX11_putFunction_104 : decode cX11_putFunction 104 = .ok (.bipush 9, 2) := by decide +kernel
theorem dX11_putFunction_106 : decode cX11_putFunction 106 = .ok (.iload 4, 2) := by decide +kernel
theorem dX11_putFunction_108 : decode cX11_putFunction 108 = .ok (.iadd, 1) := by decide +kernel
theorem dX11_putFunction_109 : decode cX11_putFunction 109 = .ok (.iconst 0, 1) := by decide +kernel
theorem dX11_putFunction_110 : decode cX11_putFunction 110 = .ok (.invokevirtual 187, 3) := by decide +kernel
theorem dX11_putFunction_113 : decode cX11_putFunction 113 = .ok (.aload_n 0, 1) := by decide +kernel
theorem dX11_putFunction_114 : decode cX11_putFunction 114 = .ok (.iload_n 1, 1) := by decide +kernel
theorem dX11_putFunction_115 : decode cX11_putFunction 115 = .ok (.bipush 21, 2) := by decide +kernel
theorem dX11_putFunction_117 : decode cX11_putFunction 117 = .ok (.iload 4, 2) := by decide +kernel
theorem dX11_putFunction_119 : decode cX11_putFunction 119 = .ok (.iconst 0, 1) := by decide +kernel
theorem dX11_putFunction_120 : decode cX11_putFunction 120 = .ok (.invokevirtual 187, 3) := by decide +kernel
theorem dX11_putFunction_123 : decode cX11_putFunction 123 = .ok (.iinc 4 1, 3) := by decide +kernel
theorem dX11_putFunction_126 : decode cX11_putFunction 126 = .ok (.goto (-31), 3) := by decide +kernel
theorem dX11_putFunction_129 : decode cX11_putFunction 129 = .ok (.return_, 1) := by decide +kernel
theorem dX11_putJoin_0 : decode cX11_putJoin 0 = .ok (.aload_n 0, 1) := by decide +kernel
theorem dX11_putJoin_1 : decode cX11_putJoin 1 = .ok (.iload_n 2, 1) := by decide +kernel
theorem dX11_putJoin_2 : decode cX11_putJoin 2 = .ok (.invokevirtual 149, 3) := by decide +kernel
theorem dX11_putJoin_5 : decode cX11_putJoin 5 = .ok (.iconst 1, 1) := by decide +kernel
theorem dX11_putJoin_6 : decode cX11_putJoin 6 = .ok (.isub, 1) := by decide +kernel
theorem dX11_putJoin_7 : decode cX11_putJoin 7 = .ok (.istore_n 3, 1) := by decide +kernel
theorem dX11_putJoin_8 : decode cX11_putJoin 8 = .ok (.iload_n 3, 1) := by decide +kernel
theorem dX11_putJoin_9 : decode cX11_putJoin 9 = .ok (.ifCond .lt 20, 3) := by decide +kernel
theorem dX11_putJoin_12 : decode cX11_putJoin 12 = .ok (.aload_n 0, 1) := by decide +kernel
theorem dX11_putJoin_13 : decode cX11_putJoin 13 = .ok (.iload_n 1, 1) := by decide +kernel
theorem dX11_putJoin_14 : decode cX11_putJoin 14 = .ok (.iconst 2, 1) := by decide +kernel
theorem dX11_putJoin_15 : decode cX11_putJoin 15 = .ok (.bipush 8, 2) := by decide +kernel
theorem dX11_putJoin_17 : decode cX11_putJoin 17 = .ok (.iload_n 3, 1) := by decide +kernel
theorem dX11_putJoin_18 : decode cX11_putJoin 18 = .ok (.iadd, 1) := by decide +kernel
theorem dX11_putJoin_19 : decode cX11_putJoin 19 = .ok (.iconst 0, 1) := by decide +kernel
theorem dX11_putJoin_20 : decode cX11_putJoin 20 = .ok (.invokevirtual 187, 3) := by decide +kernel
theorem dX11_putJoin_23 : decode cX11_putJoin 23 = .ok (.iinc 3 (-1), 3) := by decide +kernel
theorem dX11_putJoin_26 : decode cX11_putJoin 26 = .ok (.goto (-18), 3) := by decide +kernel
theorem dX11_putJoin_29 : decode cX11_putJoin 29 = .ok (.aload_n 0, 1) := by decide +kernel
theorem dX11_putJoin_30 : decode cX11_putJoin 30 = .ok (.iload_n 1, 1) := by decide +kernel
theorem dX11_putJoin_31 : decode cX11_putJoin 31 = .ok (.bipush 24, 2) := by decide +kernel
theorem dX11_putJoin_33 : decode cX11_putJoin 33 = .ok (.iconst 0, 1) := by decide +kernel
theorem dX11_putJoin_34 : decode cX11_putJoin 34 = .ok (.iconst 0, 1) := by decide +kernel
theorem dX11_putJoin_35 : decode cX11_putJoin 35 = .ok (.invokevirtual 187, 3) := by decide +kernel
theorem dX11_putJoin_38 : decode cX11_putJoin 38 = .ok (.aload_n 0, 1) := by decide +kernel
theorem dX11_putJoin_39 : decode cX11_putJoin 39 = .ok (.getfield 68, 3) := by decide +kernel
theorem dX11_putJoin_42 : decode cX11_putJoin 42 = .ok (.iload_n 2, 1) := by decide +kernel
theorem dX11_putJoin_43 : decode cX11_putJoin 43 = .ok (.iaload, 1) := by decide +kernel
theorem dX11_putJoin_44 : decode cX11_putJoin 44 = .ok (.istore_n 3, 1) := by decide +kernel
theorem dX11_putJoin_45 : decode cX11_putJoin 45 = .ok (.iconst 0, 1) := by decide +kernel
theorem dX11_putJoin_46 : decode cX11_putJoin 46 = .ok (.istore 4, 2) := by decide +kernel
theorem dX11_putJoin_48 : decode cX11_putJoin 48 = .ok (.iconst 0, 1) := by decide +kernel
theorem dX11_putJoin_49 : decode cX11_putJoin 49 = .ok (.istore 5, 2) := by decide +kernel
theorem dX11_putJoin_51 : decode cX11_putJoin 51 = .ok (.iload 5, 2) := by decide +kernel
theorem dX11_putJoin_53 : decode cX11_putJoin 53 = .ok (.aload_n 0, 1) := by decide +kernel
theorem dX11_putJoin_54 : decode cX11_putJoin 54 = .ok (.getfield 25, 3) := by decide +kernel
theorem dX11_putJoin_57 : decode cX11_putJoin 57 = .ok (.iload_n 2, 1) := by decide +kernel
theorem dX11_putJoin_58 : decode cX11_putJoin 58 = .ok (.iaload, 1) := by decide +kernel
theorem dX11_putJoin_59 : decode cX11_putJoin 59 = .ok (.if_icmp .ge 106, 3) := by decide +kernel
theorem dX11_putJoin_62 : decode cX11_putJoin 62 = .ok (.iconst 0, 1) := by decide +kernel
theorem dX11_putJoin_63 : decode cX11_putJoin 63 = .ok (.istore 6, 2) := by decide +kernel
theorem dX11_putJoin_65 : decode cX11_putJoin 65 = .ok (.iload 5, 2) := by decide +kernel
theorem dX11_putJoin_67 : decode cX11_putJoin 67 = .ok (.iload 6, 2) := by decide +kernel
theorem dX11_putJoin_69 : decode cX11_putJoin 69 = .ok (.iadd, 1) := by decide +kernel
theorem dX11_putJoin_70 : decode cX11_putJoin 70 = .ok (.aload_n 0, 1) := by decide +kernel
theorem dX11_putJoin_71 : decode cX11_putJoin 71 = .ok (.getfield 25, 3) := by decide +kernel
theorem dX11_putJoin_74 : decode cX11_putJoin 74 = .ok (.iload_n 2, 1) := by decide +kernel
theorem dX11_putJoin_75 : decode cX11_putJoin 75 = .ok (.iaload, 1) := by decide +kernel
theorem dX11_putJoin_76 : decode cX11_putJoin 76 = .ok (.if_icmp .ge 29, 3) := by decide +kernel
theorem dX11_putJoin_79 : decode cX11_putJoin 79 = .ok (.aload_n 0, 1) := by decide +kernel
theorem dX11_putJoin_80 : decode cX11_putJoin 80 = .ok (.getfield 28, 3) := by decide +kernel
theorem dX11_putJoin_83 : decode cX11_putJoin 83 = .ok (.bipush 12, 2) := by decide +kernel
theorem dX11_putJoin_85 : decode cX11_putJoin 85 = .ok (.iload_n 2, 1) := by decide +kernel
theorem dX11_putJoin_86 : decode cX11_putJoin 86 = .ok (.imul, 1) := by decide +kernel
theorem dX11_putJoin_87 : decode cX11_putJoin 87 = .ok (.iload 5, 2) := by decide +kernel
theorem dX11_putJoin_89 : decode cX11_putJoin 89 = .ok (.iadd, 1) := by decide +kernel
theorem dX11_putJoin_90 : decode cX11_putJoin 90 = .ok (.iload 6, 2) := by decide +kernel
theorem dX11_putJoin_92 : decode cX11_putJoin 92 = .ok (.iadd, 1) := by decide +kernel
theorem dX11_putJoin_93 : decode cX11_putJoin 93 = .ok (.iaload, 1) := by decide +kernel
theorem dX11_putJoin_94 : decode cX11_putJoin 94 = .ok (.bipush 27, 2) := by decide +kernel
theorem dX11_putJoin_96 : decode cX11_putJoin 96 = .ok (.if_icmp .ge 9, 3) := by decide +kernel
theorem dX11_putJoin_99 : decode cX11_putJoin 99 = .ok (.iinc 6 1, 3) := by decide +kernel
theorem dX11_putJoin_102 : decode cX11_putJoin 102 = .ok (.goto (-37), 3) := by decide +kernel
theorem dX11_putJoin_105 : decode cX11_putJoin 105 = .ok (.iload 6, 2) := by decide +kernel
theorem dX11_putJoin_107 : decode cX11_putJoin 107 = .ok (.ifCond .le 28, 3) := by decide +kernel
theorem dX11_putJoin_110 : decode cX11_putJoin 110 = .ok (.aload_n 0, 1) := by decide +kernel
theorem dX11_putJoin_111 : decode cX11_putJoin 111 = .ok (.iload_n 1, 1) := by decide +kernel
theorem dX11_putJoin_112 : decode cX11_putJoin 112 = .ok (.bipush 25, 2) := by decide +kernel
theorem dX11_putJoin_114 : decode cX11_putJoin 114 = .ok (.iload_n 3, 1) := by decide +kernel
theorem dX11_putJoin_115 : decode cX11_putJoin 115 = .ok (.iload 6, 2) := by decide +kernel
theorem dX11_putJoin_117 : decode cX11_putJoin 117 = .ok (.invokevirtual 187, 3) := by decide +kernel
theorem dX11_putJoin_120 : decode cX11_putJoin 120 = .ok (.iload_n 3, 1) := by decide +kernel
theorem dX11_putJoin_121 : decode cX11_putJoin 121 = .ok (.iload 6, 2) := by decide +kernel
theorem dX11_putJoin_123 : decode cX11_putJoin 123 = .ok (.iadd, 1) := by decide +kernel
theorem dX11_putJoin_124 : decode cX11_putJoin 124 = .ok (.istore_n 3, 1) := by decide +kernel
theorem dX11_putJoin_125 : decode cX11_putJoin 125 = .ok (.iload 5, 2) := by decide +kernel
theorem dX11_putJoin_127 : decode cX11_putJoin 127 = .ok (.iload 6, 2) := by decide +kernel
theorem dX11_putJoin_129 : decode cX11_putJoin 129 = .ok (.iadd, 1) := by decide +kernel
theorem dX11_putJoin_130 : decode cX11_putJoin 130 = .ok (.istore 5, 2) := by decide +kernel
theorem dX11_putJoin_132 : decode cX11_putJoin 132 = .ok (.goto 30, 3) := by decide +kernel
theorem dX11_putJoin_135 : decode cX11_putJoin 135 = .ok (.aload_n 0, 1) := by decide +kernel
theorem dX11_putJoin_136 : decode cX11_putJoin 136 = .ok (.iload_n 1, 1) := by decide +kernel
theorem dX11_putJoin_137 : decode cX11_putJoin 137 = .ok (.iconst 1, 1) := by decide +kernel
theorem dX11_putJoin_138 : decode cX11_putJoin 138 = .ok (.bipush 8, 2) := by decide +kernel
theorem dX11_putJoin_140 : decode cX11_putJoin 140 = .ok (.iload 4, 2) := by decide +kernel
theorem dX11_putJoin_142 : decode cX11_putJoin 142 = .ok (.iadd, 1) := by decide +kernel
theorem dX11_putJoin_143 : decode cX11_putJoin 143 = .ok (.iconst 0, 1) := by decide +kernel
theorem dX11_putJoin_144 : decode cX11_putJoin 144 = .ok (.invokevirtual 187, 3) := by decide +kernel
theorem dX11_putJoin_147 : decode cX11_putJoin 147 = .ok (.aload_n 0, 1) := by decide +kernel
theorem dX11_putJoin_148 : decode cX11_putJoin 148 = .ok (.iload_n 1, 1) := by decide +kernel
theorem dX11_putJoin_149 : decode cX11_putJoin 149 = .ok (.bipush 26, 2) := by decide +kernel
theorem dX11_putJoin_151 : decode cX11_putJoin 151 = .ok (.iconst 0, 1) := by decide +kernel
theorem dX11_putJoin_152 : decode cX11_putJoin 152 = .ok (.iconst 0, 1) := by decide +kernel
theorem dX11_putJoin_153 : decode cX11_putJoin 153 = .ok (.invokevirtual 187, 3) := by decide +kernel
theorem dX11_putJoin_156 : decode cX11_putJoin 156 = .ok (.iinc 4 1, 3) := by decide +kernel
theorem dX11_putJoin_159 : decode cX11_putJoin 159 = .ok (.iinc 5 1, 3) := by decide +kernel
theorem dX11_putJoin_162 : decode cX11_putJoin 162 = .ok (.goto (-111), 3) := by decide +kernel
theorem dX11_putJoin_165 : decode cX11_putJoin 165 = .ok (.return_, 1) := by decide +kernel
theorem dX11_within_0 : decode cX11_within 0 = .ok (.aload_n 0, 1) := by decide +kernel
theorem dX11_within_1 : decode cX11_within 1 = .ok (.getfield 16, 3) := by decide +kernel
theorem dX11_within_4 : decode cX11_within 4 = .ok (.iload_n 1, 1) := by decide +kernel
theorem dX11_within_5 : decode cX11_within 5 = .ok (.iaload, 1) := by decide +kernel
theorem dX11_within_6 : decode cX11_within 6 = .ok (.bipush 13, 2) := by decide +kernel
theorem dX11_within_8 : decode cX11_within 8 = .ok (.if_icmp .ne 7, 3) := by decide +kernel
theorem dX11_within_11 : decode cX11_within 11 = .ok (.iload_n 2, 1) := by decide +kernel
theorem dX11_within_12 : decode cX11_within 12 = .ok (.iconst 1, 1) := by decide +kernel
theorem dX11_within_13 : decode cX11_within 13 = .ok (.iadd, 1) := by decide +kernel
theorem dX11_within_14 : decode cX11_within 14 = .ok (.ireturn, 1) := by decide +kernel
theorem dX11_within_15 : decode cX11_within 15 = .ok (.aload_n 0, 1) := by decide +kernel
theorem dX11_within_16 : decode cX11_within 16 = .ok (.getfield 16, 3) := by decide +kernel
theorem dX11_within_19 : decode cX11_within 19 = .ok (.iload_n 1, 1) := by decide +kernel
theorem dX11_within_20 : decode cX11_within 20 = .ok (.iaload, 1) := by decide +kernel
theorem dX11_within_21 : decode cX11_within 21 = .ok (.bipush 15, 2) := by decide +kernel
theorem dX11_within_23 : decode cX11_within 23 = .ok (.if_icmp .ne 52, 3) := by decide +kernel
theorem dX11_within_26 : decode cX11_within 26 = .ok (.aload_n 0, 1) := by decide +kernel
theorem dX11_within_27 : decode cX11_within 27 = .ok (.aload_n 0, 1) := by decide +kernel
theorem dX11_within_28 : decode cX11_within 28 = .ok (.getfield 19, 3) := by decide +kernel
theorem dX11_within_31 : decode cX11_within 31 = .ok (.iload_n 1, 1) := by decide +kernel
theorem dX11_within_32 : decode cX11_within 32 = .ok (.iaload, 1) := by decide +kernel
theorem dX11_within_33 : decode cX11_within 33 = .ok (.invokevirtual 149, 3) := by decide +kernel
theorem dX11_within_36 : decode cX11_within 36 = .ok (.istore_n 3, 1) := by decide +kernel
theorem dX11_within_37 : decode cX11_within 37 = .ok (.iload_n 3, 1) := by decide +kernel
theorem dX11_within_38 : decode cX11_within 38 = .ok (.ifCond .ne 9, 3) := by decide +kernel
theorem dX11_within_41 : decode cX11_within 41 = .ok (.iload_n 2, 1) := by decide +kernel
theorem dX11_within_42 : decode cX11_within 42 = .ok (.iconst 1, 1) := by decide +kernel
theorem dX11_within_43 : decode cX11_within 43 = .ok (.iadd, 1) := by decide +kernel
theorem dX11_within_44 : decode cX11_within 44 = .ok (.goto 8, 3) := by decide +kernel
theorem dX11_within_47 : decode cX11_within 47 = .ok (.iload_n 2, 1) := by decide +kernel
theorem dX11_within_48 : decode cX11_within 48 = .ok (.iload_n 3, 1) := by decide +kernel
theorem dX11_within_49 : decode cX11_within 49 = .ok (.isub, 1) := by decide +kernel
theorem dX11_within_50 : decode cX11_within 50 = .ok (.iconst 2, 1) := by decide +kernel
theorem dX11_within_51 : decode cX11_within 51 = .ok (.iadd, 1) := by decide +kernel
theorem dX11_within_52 : decode cX11_within 52 = .ok (.istore 4, 2) := by decide +kernel
theorem dX11_within_54 : decode cX11_within 54 = .ok (.iload_n 3, 1) := by decide +kernel
theorem dX11_within_55 : decode cX11_within 55 = .ok (.ifCond .le 17, 3) := by decide +kernel
theorem dX11_within_58 : decode cX11_within 58 = .ok (.iload_n 2, 1) := by decide +kernel
theorem dX11_within_59 : decode cX11_within 59 = .ok (.iconst 1, 1) := by decide +kernel
theorem dX11_within_60 : decode cX11_within 60 = .ok (.isub, 1) := by decide +kernel
theorem dX11_within_61 : decode cX11_within 61 = .ok (.iload 4, 2) := by decide +kernel
theorem dX11_within_63 : decode cX11_within 63 = .ok (.if_icmp .le 9, 3) := by decide +kernel
theorem dX11_within_66 : decode cX11_within 66 = .ok (.iload_n 2, 1) := by decide +kernel
theorem dX11_within_67 : decode cX11_within 67 = .ok (.iconst 1, 1) := by decide +kernel
theorem dX11_within_68 : decode cX11_within 68 = .ok (.isub, 1) := by decide +kernel
theorem dX11_within_69 : decode cX11_within 69 = .ok (.goto 5, 3) := by decide +kernel
theorem dX11_within_72 : decode cX11_within 72 = .ok (.iload 4, 2) := by decide +kernel
theorem dX11_within_74 : decode cX11_within 74 = .ok (.ireturn, 1) := by decide +kernel
theorem dX11_within_75 : decode cX11_within 75 = .ok (.iload_n 2, 1) := by decide +kernel
theorem dX11_within_76 : decode cX11_within 76 = .ok (.aload_n 0, 1) := by decide +kernel
theorem dX11_within_77 : decode cX11_within 77 = .ok (.iload_n 1, 1) := by decide +kernel
theorem dX11_within_78 : decode cX11_within 78 = .ok (.invokevirtual 159, 3) := by decide +kernel
theorem dX11_within_81 : decode cX11_within 81 = .ok (.isub, 1) := by decide +kernel
theorem dX11_within_82 : decode cX11_within 82 = .ok (.aload_n 0, 1) := by decide +kernel
theorem dX11_within_83 : decode cX11_within 83 = .ok (.iload_n 1, 1) := by decide +kernel
theorem dX11_within_84 : decode cX11_within 84 = .ok (.invokevirtual 162, 3) := by decide +kernel
theorem dX11_within_87 : decode cX11_within 87 = .ok (.iadd, 1) := by decide +kernel
theorem dX11_within_88 : decode cX11_within 88 = .ok (.ireturn, 1) := by decide +kernel
theorem dX11_lowerOne_0 : decode cX11_lowerOne 0 = .ok (.aload_n 0, 1) := by decide +kernel
theorem dX11_lowerOne_1 : decode cX11_lowerOne 1 = .ok (.getfield 44, 3) := by decide +kernel
theorem dX11_lowerOne_4 : decode cX11_lowerOne 4 = .ok (.iload_n 1, 1) := by decide +kernel
theorem dX11_lowerOne_5 : decode cX11_lowerOne 5 = .ok (.iconst 0, 1) := by decide +kernel
theorem dX11_lowerOne_6 : decode cX11_lowerOne 6 = .ok (.iastore, 1) := by decide +kernel
theorem dX11_lowerOne_7 : decode cX11_lowerOne 7 = .ok (.aload_n 0, 1) := by decide +kernel
theorem dX11_lowerOne_8 : decode cX11_lowerOne 8 = .ok (.getfield 41, 3) := by decide +kernel
theorem dX11_lowerOne_11 : decode cX11_lowerOne 11 = .ok (.iload_n 1, 1) := by decide +kernel
theorem dX11_lowerOne_12 : decode cX11_lowerOne 12 = .ok (.iconst 0, 1) := by decide +kernel
theorem dX11_lowerOne_13 : decode cX11_lowerOne 13 = .ok (.iastore, 1) := by decide +kernel
theorem dX11_lowerOne_14 : decode cX11_lowerOne 14 = .ok (.aload_n 0, 1) := by decide +kernel
theorem dX11_lowerOne_15 : decode cX11_lowerOne 15 = .ok (.iconst (-1), 1) := by decide +kernel
theorem dX11_lowerOne_16 : decode cX11_lowerOne 16 = .ok (.putfield 153, 3) := by decide +kernel
theorem dX11_lowerOne_19 : decode cX11_lowerOne 19 = .ok (.aload_n 0, 1) := by decide +kernel
theorem dX11_lowerOne_20 : decode cX11_lowerOne 20 = .ok (.iload_n 1, 1) := by decide +kernel
theorem dX11_lowerOne_21 : decode cX11_lowerOne 21 = .ok (.invokevirtual 173, 3) := by decide +kernel
theorem dX11_lowerOne_24 : decode cX11_lowerOne 24 = .ok (.iconst 0, 1) := by decide +kernel
theorem dX11_lowerOne_25 : decode cX11_lowerOne 25 = .ok (.istore_n 2, 1) := by decide +kernel
theorem dX11_lowerOne_26 : decode cX11_lowerOne 26 = .ok (.iload_n 2, 1) := by decide +kernel
theorem dX11_lowerOne_27 : decode cX11_lowerOne 27 = .ok (.aload_n 0, 1) := by decide +kernel
theorem dX11_lowerOne_28 : decode cX11_lowerOne 28 = .ok (.getfield 13, 3) := by decide +kernel
theorem dX11_lowerOne_31 : decode cX11_lowerOne 31 = .ok (.iload_n 1, 1) := by decide +kernel
theorem dX11_lowerOne_32 : decode cX11_lowerOne 32 = .ok (.iaload, 1) := by decide +kernel
theorem dX11_lowerOne_33 : decode cX11_lowerOne 33 = .ok (.if_icmp .ge 212, 3) := by decide +kernel
theorem dX11_lowerOne_36 : decode cX11_lowerOne 36 = .ok (.bipush 40, 2) := by decide +kernel
theorem dX11_lowerOne_38 : decode cX11_lowerOne 38 = .ok (.iload_n 1, 1) := by decide +kernel
theorem dX11_lowerOne_39 : decode cX11_lowerOne 39 = .ok (.imul, 1) := by decide +kernel
theorem dX11_lowerOne_40 : decode cX11_lowerOne 40 = .ok (.iload_n 2, 1) := by decide +kernel
theorem dX11_lowerOne_41 : decode cX11_lowerOne 41 = .ok (.iadd, 1) := by decide +kernel
theorem dX11_lowerOne_42 : decode cX11_lowerOne 42 = .ok (.istore_n 3, 1) := by decide +kernel
theorem dX11_lowerOne_43 : decode cX11_lowerOne 43 = .ok (.aload_n 0, 1) := by decide +kernel
theorem dX11_lowerOne_44 : decode cX11_lowerOne 44 = .ok (.getfield 56, 3) := by decide +kernel
theorem dX11_lowerOne_47 : decode cX11_lowerOne 47 = .ok (.iload_n 2, 1) := by decide +kernel
theorem dX11_lowerOne_48 : decode cX11_lowerOne 48 = .ok (.aload_n 0, 1) := by decide +kernel
theorem dX11_lowerOne_49 : decode cX11_lowerOne 49 = .ok (.getfield 44, 3) := by decide +kernel
theorem dX11_lowerOne_52 : decode cX11_lowerOne 52 = .ok (.iload_n 1, 1) := by decide +kernel
theorem dX11_lowerOne_53 : decode cX11_lowerOne 53 = .ok (.iaload, 1) := by decide +kernel
theorem dX11_lowerOne_54 : decode cX11_lowerOne 54 = .ok (.iastore, 1) := by decide +kernel
theorem dX11_lowerOne_55 : decode cX11_lowerOne 55 = .ok (.aload_n 0, 1) := by decide +kernel
theorem dX11_lowerOne_56 : decode cX11_lowerOne 56 = .ok (.getfield 31, 3) := by decide +kernel
theorem dX11_lowerOne_59 : decode cX11_lowerOne 59 = .ok (.iload_n 2, 1) := by decide +kernel
theorem dX11_lowerOne_60 : decode cX11_lowerOne 60 = .ok (.iaload, 1) := by decide +kernel
theorem dX11_lowerOne_61 : decode cX11_lowerOne 61 = .ok (.ifCond .ge 7, 3) := by decide +kernel
theorem dX11_lowerOne_64 : decode cX11_lowerOne 64 = .ok (.iconst 0, 1) := by decide +kernel
theorem dX11_lowerOne_65 : decode cX11_lowerOne 65 = .ok (.goto 14, 3) := by decide +kernel
theorem dX11_lowerOne_68 : decode cX11_lowerOne 68 = .ok (.aload_n 0, 1) := by decide +kernel
theorem dX11_lowerOne_69 : decode cX11_lowerOne 69 = .ok (.iload_n 3, 1) := by decide +kernel
theorem dX11_lowerOne_70 : decode cX11_lowerOne 70 = .ok (.aload_n 0, 1) := by decide +kernel
theorem dX11_lowerOne_71 : decode cX11_lowerOne 71 = .ok (.getfield 31, 3) := by decide +kernel
theorem dX11_lowerOne_74 : decode cX11_lowerOne 74 = .ok (.iload_n 2, 1) := by decide +kernel
theorem dX11_lowerOne_75 : decode cX11_lowerOne 75 = .ok (.iaload, 1) := by decide +kernel
theorem dX11_lowerOne_76 : decode cX11_lowerOne 76 = .ok (.invokevirtual 191, 3) := by decide +kernel
theorem dX11_lowerOne_79 : decode cX11_lowerOne 79 = .ok (.istore 4, 2) := by decide +kernel
theorem dX11_lowerOne_81 : decode cX11_lowerOne 81 = .ok (.aload_n 0, 1) := by decide +kernel
theorem dX11_lowerOne_82 : decode cX11_lowerOne 82 = .ok (.getfield 41, 3) := by decide +kernel
theorem dX11_lowerOne_85 : decode cX11_lowerOne 85 = .ok (.iload_n 1, 1) := by decide +kernel
theorem dX11_lowerOne_86 : decode cX11_lowerOne 86 = .ok (.iload 4, 2) := by decide +kernel
theorem dX11_lowerOne_88 : decode cX11_lowerOne 88 = .ok (.aload_n 0, 1) := by decide +kernel
theorem dX11_lowerOne_89 : decode cX11_lowerOne 89 = .ok (.getfield 41, 3) := by decide +kernel
theorem dX11_lowerOne_92 : decode cX11_lowerOne 92 = .ok (.iload_n 1, 1) := by decide +kernel
theorem dX11_lowerOne_93 : decode cX11_lowerOne 93 = .ok (.iaload, 1) := by decide +kernel
theorem dX11_lowerOne_94 : decode cX11_lowerOne 94 = .ok (.if_icmp .le 8, 3) := by decide +kernel
theorem dX11_lowerOne_97 : decode cX11_lowerOne 97 = .ok (.iload 4, 2) := by decide +kernel
theorem dX11_lowerOne_99 : decode cX11_lowerOne 99 = .ok (.goto 9, 3) := by decide +kernel
theorem dX11_lowerOne_102 : decode cX11_lowerOne 102 = .ok (.aload_n 0, 1) := by decide +kernel
theorem dX11_lowerOne_103 : decode cX11_lowerOne 103 = .ok (.getfield 41, 3) := by decide +kernel
theorem dX11_lowerOne_106 : decode cX11_lowerOne 106 = .ok (.iload_n 1, 1) := by decide +kernel
theorem dX11_lowerOne_107 : decode cX11_lowerOne 107 = .ok (.iaload, 1) := by decide +kernel
theorem dX11_lowerOne_108 : decode cX11_lowerOne 108 = .ok (.iastore, 1) := by decide +kernel
theorem dX11_lowerOne_109 : decode cX11_lowerOne 109 = .ok (.aload_n 0, 1) := by decide +kernel
theorem dX11_lowerOne_110 : decode cX11_lowerOne 110 = .ok (.getfield 16, 3) := by decide +kernel
theorem dX11_lowerOne_113 : decode cX11_lowerOne 113 = .ok (.iload_n 3, 1) := by decide +kernel
theorem dX11_lowerOne_114 : decode cX11_lowerOne 114 = .ok (.iaload, 1) := by decide +kernel
theorem dX11_lowerOne_115 : decode cX11_lowerOne 115 = .ok (.istore 5, 2) := by decide +kernel
theorem dX11_lowerOne_117 : decode cX11_lowerOne 117 = .ok (.iload 5, 2) := by decide +kernel
theorem dX11_lowerOne_119 : decode cX11_lowerOne 119 = .ok (.bipush 13, 2) := by decide +kernel
theorem dX11_lowerOne_121 : decode cX11_lowerOne 121 = .ok (.if_icmp .ne 23, 3) := by decide +kernel
theorem dX11_lowerOne_124 : decode cX11_lowerOne 124 = .ok (.aload_n 0, 1) := by decide +kernel
theorem dX11_lowerOne_125 : decode cX11_lowerOne 125 = .ok (.iload_n 1, 1) := by decide +kernel
theorem dX11_lowerOne_126 : decode cX11_lowerOne 126 = .ok (.aload_n 0, 1) := by decide +kernel
theorem dX11_lowerOne_127 : decode cX11_lowerOne 127 = .ok (.getfield 19, 3) := by decide +kernel
theorem dX11_lowerOne_130 : decode cX11_lowerOne 130 = .ok (.iload_n 3, 1) := by decide +kernel
theorem dX11_lowerOne_131 : decode cX11_lowerOne 131 = .ok (.iaload, 1) := by decide +kernel
theorem dX11_lowerOne_132 : decode cX11_lowerOne 132 = .ok (.aload_n 0, 1) := by decide +kernel
theorem dX11_lowerOne_133 : decode cX11_lowerOne 133 = .ok (.getfield 22, 3) := by decide +kernel
theorem dX11_lowerOne_136 : decode cX11_lowerOne 136 = .ok (.iload_n 3, 1) := by decide +kernel
theorem dX11_lowerOne_137 : decode cX11_lowerOne 137 = .ok (.iaload, 1) := by decide +kernel
theorem dX11_lowerOne_138 : decode cX11_lowerOne 138 = .ok (.invokevirtual 195, 3) := by decide +kernel
theorem dX11_lowerOne_141 : decode cX11_lowerOne 141 = .ok (.goto 98, 3) := by decide +kernel
theorem dX11_lowerOne_144 : decode cX11_lowerOne 144 = .ok (.iload 5, 2) := by decide +kernel
theorem dX11_lowerOne_146 : decode cX11_lowerOne 146 = .ok (.bipush 14, 2) := by decide +kernel
theorem dX11_lowerOne_148 : decode cX11_lowerOne 148 = .ok (.if_icmp .ne 20, 3) := by decide +kernel
theorem dX11_lowerOne_151 : decode cX11_lowerOne 151 = .ok (.aload_n 0, 1) := by decide +kernel
theorem dX11_lowerOne_152 : decode cX11_lowerOne 152 = .ok (.iload_n 1, 1) := by decide +kernel
theorem dX11_lowerOne_153 : decode cX11_lowerOne 153 = .ok (.bipush 22, 2) := by decide +kernel
theorem dX11_lowerOne_155 : decode cX11_lowerOne 155 = .ok (.aload_n 0, 1) := by decide +kernel
theorem dX11_lowerOne_156 : decode cX11_lowerOne 156 = .ok (.getfield 19, 3) := by decide +kernel
theorem dX11_lowerOne_159 : decode cX11_lowerOne 159 = .ok (.iload_n 3, 1) := by decide +kernel
theorem dX11_lowerOne_160 : decode cX11_lowerOne 160 = .ok (.iaload, 1) := by decide +kernel
theorem dX11_lowerOne_161 : decode cX11_lowerOne 161 = .ok (.iconst 0, 1) := by decide +kernel
theorem dX11_lowerOne_162 : decode cX11_lowerOne 162 = .ok (.invokevirtual 187, 3) := by decide +kernel
theorem dX11_lowerOne_165 : decode cX11_lowerOne 165 = .ok (.goto 74, 3) := by decide +kernel
theorem dX11_lowerOne_168 : decode cX11_lowerOne 168 = .ok (.iload 5, 2) := by decide +kernel
theorem dX11_lowerOne_170 : decode cX11_lowerOne 170 = .ok (.bipush 15, 2) := by decide +kernel
theorem dX11_lowerOne_172 : decode cX11_lowerOne 172 = .ok (.if_icmp .ne 17, 3) := by decide +kernel
theorem dX11_lowerOne_175 : decode cX11_lowerOne 175 = .ok (.aload_n 0, 1) := by decide +kernel
theorem dX11_lowerOne_176 : decode cX11_lowerOne 176 = .ok (.iload_n 1, 1) := by decide +kernel
theorem dX11_lowerOne_177 : decode cX11_lowerOne 177 = .ok (.aload_n 0, 1) := by decide +kernel
theorem dX11_lowerOne_178 : decode cX11_lowerOne 178 = .ok (.getfield 19, 3) := by decide +kernel
theorem dX11_lowerOne_181 : decode cX11_lowerOne 181 = .ok (.iload_n 3, 1) := by decide +kernel
theorem dX11_lowerOne_182 : decode cX11_lowerOne 182 = .ok (.iaload, 1) := by decide +kernel
theorem dX11_lowerOne_183 : decode cX11_lowerOne 183 = .ok (.invokevirtual 198, 3) := by decide +kernel
theorem dX11_lowerOne_186 : decode cX11_lowerOne 186 = .ok (.goto 53, 3) := by decide +kernel
theorem dX11_lowerOne_189 : decode cX11_lowerOne 189 = .ok (.iload 5, 2) := by decide +kernel
theorem dX11_lowerOne_191 : decode cX11_lowerOne 191 = .ok (.iconst 3, 1) := by decide +kernel
theorem dX11_lowerOne_192 : decode cX11_lowerOne 192 = .ok (.if_icmp .lt 17, 3) := by decide +kernel
theorem dX11_lowerOne_195 : decode cX11_lowerOne 195 = .ok (.iload 5, 2) := by decide +kernel
theorem dX11_lowerOne_197 : decode cX11_lowerOne 197 = .ok (.bipush 7, 2) := by decide +kernel
theorem dX11_lowerOne_199 : decode cX11_lowerOne 199 = .ok (.if_icmp .le 14, 3) := by decide +kernel
theorem dX11_lowerOne_202 : decode cX11_lowerOne 202 = .ok (.iload 5, 2) := by decide +kernel
theorem dX11_lowerOne_204 : decode cX11_lowerOne 204 = .ok (.bipush 11, 2) := by decide +kernel
theorem dX11_lowerOne_206 : decode cX11_lowerOne 206 = .ok (.if_icmp .ge 7, 3) := by decide +kernel
theorem dX11_lowerOne_209 : decode cX11_lowerOne 209 = .ok (.iconst 1, 1) := by decide +kernel
theorem dX11_lowerOne_210 : decode cX11_lowerOne 210 = .ok (.goto 4, 3) := by decide +kernel
theorem dX11_lowerOne_213 : decode cX11_lowerOne 213 = .ok (.iconst 0, 1) := by decide +kernel
theorem dX11_lowerOne_214 : decode cX11_lowerOne 214 = .ok (.istore 6, 2) := by decide +kernel
theorem dX11_lowerOne_216 : decode cX11_lowerOne 216 = .ok (.aload_n 0, 1) := by decide +kernel
theorem dX11_lowerOne_217 : decode cX11_lowerOne 217 = .ok (.iload_n 1, 1) := by decide +kernel
theorem dX11_lowerOne_218 : decode cX11_lowerOne 218 = .ok (.iload 5, 2) := by decide +kernel
theorem dX11_lowerOne_220 : decode cX11_lowerOne 220 = .ok (.iload 6, 2) := by decide +kernel
theorem dX11_lowerOne_222 : decode cX11_lowerOne 222 = .ok (.ifCond .eq 12, 3) := by decide +kernel
theorem dX11_lowerOne_225 : decode cX11_lowerOne 225 = .ok (.aload_n 0, 1) := by decide +kernel
theorem dX11_lowerOne_226 : decode cX11_lowerOne 226 = .ok (.getfield 19, 3) := by decide +kernel
theorem dX11_lowerOne_229 : decode cX11_lowerOne 229 = .ok (.iload_n 3, 1) := by decide +kernel
theorem dX11_lowerOne_230 : decode cX11_lowerOne 230 = .ok (.iaload, 1) := by decide +kernel
theorem dX11_lowerOne_231 : decode cX11_lowerOne 231 = .ok (.goto 4, 3) := by decide +kernel
theorem dX11_lowerOne_234 : decode cX11_lowerOne 234 = .ok (.iconst 0, 1) := by decide +kernel
theorem dX11_lowerOne_235 : decode cX11_lowerOne 235 = .ok (.iconst 0, 1) := by decide +kernel
theorem dX11_lowerOne_236 : decode cX11_lowerOne 236 = .ok (.invokevirtual 187, 3) := by decide +kernel
theorem dX11_lowerOne_239 : decode cX11_lowerOne 239 = .ok (.iinc 2 1, 3) := by decide +kernel
theorem dX11_lowerOne_242 : decode cX11_lowerOne 242 = .ok (.goto (-216), 3) := by decide +kernel
theorem dX11_lowerOne_245 : decode cX11_lowerOne 245 = .ok (.iconst 0, 1) := by decide +kernel
theorem dX11_lowerOne_246 : decode cX11_lowerOne 246 = .ok (.istore_n 2, 1) := by decide +kernel
theorem dX11_lowerOne_247 : decode cX11_lowerOne 247 = .ok (.iload_n 2, 1) := by decide +kernel
theorem dX11_lowerOne_248 : decode cX11_lowerOne 248 = .ok (.aload_n 0, 1) := by decide +kernel
theorem dX11_lowerOne_249 : decode cX11_lowerOne 249 = .ok (.getfield 44, 3) := by decide +kernel
theorem dX11_lowerOne_252 : decode cX11_lowerOne 252 = .ok (.iload_n 1, 1) := by decide +kernel
theorem dX11_lowerOne_253 : decode cX11_lowerOne 253 = .ok (.iaload, 1) := by decide +kernel
theorem dX11_lowerOne_254 : decode cX11_lowerOne 254 = .ok (.if_icmp .ge 65, 3) := by decide +kernel
theorem dX11_lowerOne_257 : decode cX11_lowerOne 257 = .ok (.sipush 1500, 3) := by decide +kernel
theorem dX11_lowerOne_260 : decode cX11_lowerOne 260 = .ok (.iload_n 1, 1) := by decide +kernel
theorem dX11_lowerOne_261 : decode cX11_lowerOne 261 = .ok (.imul, 1) := by decide +kernel
theorem dX11_lowerOne_262 : decode cX11_lowerOne 262 = .ok (.iload_n 2, 1) := by decide +kernel
theorem dX11_lowerOne_263 : decode cX11_lowerOne 263 = .ok (.iadd, 1) := by decide +kernel
theorem dX11_lowerOne_264 : decode cX11_lowerOne 264 = .ok (.istore_n 3, 1) := by decide +kernel
theorem dX11_lowerOne_265 : decode cX11_lowerOne 265 = .ok (.aload_n 0, 1) := by decide +kernel
theorem dX11_lowerOne_266 : decode cX11_lowerOne 266 = .ok (.getfield 50, 3) := by decide +kernel
theorem dX11_lowerOne_269 : decode cX11_lowerOne 269 = .ok (.iload_n 3, 1) := by decide +kernel
theorem dX11_lowerOne_270 : decode cX11_lowerOne 270 = .ok (.aload_n 0, 1) := by decide +kernel
theorem dX11_lowerOne_271 : decode cX11_lowerOne 271 = .ok (.getfield 47, 3) := by decide +kernel
theorem dX11_lowerOne_274 : decode cX11_lowerOne 274 = .ok (.iload_n 3, 1) := by decide +kernel
theorem dX11_lowerOne_275 : decode cX11_lowerOne 275 = .ok (.iaload, 1) := by decide +kernel
theorem dX11_lowerOne_276 : decode cX11_lowerOne 276 = .ok (.bipush 8, 2) := by decide +kernel
theorem dX11_lowerOne_278 : decode cX11_lowerOne 278 = .ok (.if_icmp .eq 14, 3) := by decide +kernel
theorem dX11_lowerOne_281 : decode cX11_lowerOne 281 = .ok (.aload_n 0, 1) := by decide +kernel
theorem dX11_lowerOne_282 : decode cX11_lowerOne 282 = .ok (.getfield 47, 3) := by decide +kernel
theorem dX11_lowerOne_285 : decode cX11_lowerOne 285 = .ok (.iload_n 3, 1) := by decide +kernel
theorem dX11_lowerOne_286 : decode cX11_lowerOne 286 = .ok (.iaload, 1) := by decide +kernel
theorem dX11_lowerOne_287 : decode cX11_lowerOne 287 = .ok (.bipush 9, 2) := by decide +kernel
theorem dX11_lowerOne_289 : decode cX11_lowerOne 289 = .ok (.if_icmp .ne 17, 3) := by decide +kernel
theorem dX11_lowerOne_292 : decode cX11_lowerOne 292 = .ok (.aload_n 0, 1) := by decide +kernel
theorem dX11_lowerOne_293 : decode cX11_lowerOne 293 = .ok (.getfield 56, 3) := by decide +kernel
theorem dX11_lowerOne_296 : decode cX11_lowerOne 296 = .ok (.aload_n 0, 1) := by decide +kernel
theorem dX11_lowerOne_297 : decode cX11_lowerOne 297 = .ok (.getfield 50, 3) := by decide +kernel
theorem dX11_lowerOne_300 : decode cX11_lowerOne 300 = .ok (.iload_n 3, 1) := by decide +kernel
theorem dX11_lowerOne_301 : decode cX11_lowerOne 301 = .ok (.iaload, 1) := by decide +kernel
theorem dX11_lowerOne_302 : decode cX11_lowerOne 302 = .ok (.iaload, 1) := by decide +kernel
theorem dX11_lowerOne_303 : decode cX11_lowerOne 303 = .ok (.goto 9, 3) := by decide +kernel
theorem dX11_lowerOne_306 : decode cX11_lowerOne 306 = .ok (.aload_n 0, 1) := by decide +kernel
theorem dX11_lowerOne_307 : decode cX11_lowerOne 307 = .ok (.getfield 50, 3) := by decide +kernel
theorem dX11_lowerOne_310 : decode cX11_lowerOne 310 = .ok (.iload_n 3, 1) := by decide +kernel
theorem dX11_lowerOne_311 : decode cX11_lowerOne 311 = .ok (.iaload, 1) := by decide +kernel
theorem dX11_lowerOne_312 : decode cX11_lowerOne 312 = .ok (.iastore, 1) := by decide +kernel
theorem dX11_lowerOne_313 : decode cX11_lowerOne 313 = .ok (.iinc 2 1, 3) := by decide +kernel
theorem dX11_lowerOne_316 : decode cX11_lowerOne 316 = .ok (.goto (-69), 3) := by decide +kernel
theorem dX11_lowerOne_319 : decode cX11_lowerOne 319 = .ok (.return_, 1) := by decide +kernel
theorem dX11_lower_0 : decode cX11_lower 0 = .ok (.aload_n 0, 1) := by decide +kernel
theorem dX11_lower_1 : decode cX11_lower 1 = .ok (.iconst 0, 1) := by decide +kernel
theorem dX11_lower_2 : decode cX11_lower 2 = .ok (.putfield 123, 3) := by decide +kernel
theorem dX11_lower_5 : decode cX11_lower 5 = .ok (.aload_n 0, 1) := by decide +kernel
theorem dX11_lower_6 : decode cX11_lower 6 = .ok (.invokevirtual 180, 3) := by decide +kernel
theorem dX11_lower_9 : decode cX11_lower 9 = .ok (.ifCond .lt 5, 3) := by decide +kernel
theorem dX11_lower_12 : decode cX11_lower 12 = .ok (.iconst (-1), 1) := by decide +kernel
theorem dX11_lower_13 : decode cX11_lower 13 = .ok (.ireturn, 1) := by decide +kernel
theorem dX11_lower_14 : decode cX11_lower 14 = .ok (.aload_n 0, 1) := by decide +kernel
theorem dX11_lower_15 : decode cX11_lower 15 = .ok (.iconst 0, 1) := by decide +kernel
theorem dX11_lower_16 : decode cX11_lower 16 = .ok (.putfield 184, 3) := by decide +kernel
theorem dX11_lower_19 : decode cX11_lower 19 = .ok (.aload_n 0, 1) := by decide +kernel
theorem dX11_lower_20 : decode cX11_lower 20 = .ok (.iconst 0, 1) := by decide +kernel
theorem dX11_lower_21 : decode cX11_lower 21 = .ok (.putfield 202, 3) := by decide +kernel
theorem dX11_lower_24 : decode cX11_lower 24 = .ok (.iconst 0, 1) := by decide +kernel
theorem dX11_lower_25 : decode cX11_lower 25 = .ok (.istore_n 1, 1) := by decide +kernel
theorem dX11_lower_26 : decode cX11_lower 26 = .ok (.iload_n 1, 1) := by decide +kernel
theorem dX11_lower_27 : decode cX11_lower 27 = .ok (.aload_n 0, 1) := by decide +kernel
theorem dX11_lower_28 : decode cX11_lower 28 = .ok (.getfield 146, 3) := by decide +kernel
theorem dX11_lower_31 : decode cX11_lower 31 = .ok (.if_icmp .ge 85, 3) := by decide +kernel
theorem dX11_lower_34 : decode cX11_lower 34 = .ok (.aload_n 0, 1) := by decide +kernel
theorem dX11_lower_35 : decode cX11_lower 35 = .ok (.getfield 68, 3) := by decide +kernel
theorem dX11_lower_38 : decode cX11_lower 38 = .ok (.iload_n 1, 1) := by decide +kernel
theorem dX11_lower_39 : decode cX11_lower 39 = .ok (.aload_n 0, 1) := by decide +kernel
theorem dX11_lower_40 : decode cX11_lower 40 = .ok (.getfield 202, 3) := by decide +kernel
theorem dX11_lower_43 : decode cX11_lower 43 = .ok (.iastore, 1) := by decide +kernel
theorem dX11_lower_44 : decode cX11_lower 44 = .ok (.iconst 0, 1) := by decide +kernel
theorem dX11_lower_45 : decode cX11_lower 45 = .ok (.istore_n 2, 1) := by decide +kernel
theorem dX11_lower_46 : decode cX11_lower 46 = .ok (.iload_n 2, 1) := by decide +kernel
theorem dX11_lower_47 : decode cX11_lower 47 = .ok (.aload_n 0, 1) := by decide +kernel
theorem dX11_lower_48 : decode cX11_lower 48 = .ok (.getfield 25, 3) := by decide +kernel
theorem dX11_lower_51 : decode cX11_lower 51 = .ok (.iload_n 1, 1) := by decide +kernel
theorem dX11_lower_52 : decode cX11_lower 52 = .ok (.iaload, 1) := by decide +kernel
theorem dX11_lower_53 : decode cX11_lower 53 = .ok (.if_icmp .ge 57, 3) := by decide +kernel
theorem dX11_lower_56 : decode cX11_lower 56 = .ok (.aload_n 0, 1) := by decide +kernel
theorem dX11_lower_57 : decode cX11_lower 57 = .ok (.getfield 28, 3) := by decide +kernel
theorem dX11_lower_60 : decode cX11_lower 60 = .ok (.bipush 12, 2) := by decide +kernel
theorem dX11_lower_62 : decode cX11_lower 62 = .ok (.iload_n 1, 1) := by decide +kernel
theorem dX11_lower_63 : decode cX11_lower 63 = .ok (.imul, 1) := by decide +kernel
theorem dX11_lower_64 : decode cX11_lower 64 = .ok (.iload_n 2, 1) := by decide +kernel
theorem dX11_lower_65 : decode cX11_lower 65 = .ok (.iadd, 1) := by decide +kernel
theorem dX11_lower_66 : decode cX11_lower 66 = .ok (.iaload, 1) := by decide +kernel
theorem dX11_lower_67 : decode cX11_lower 67 = .ok (.bipush 27, 2) := by decide +kernel
theorem dX11_lower_69 : decode cX11_lower 69 = .ok (.if_icmp .ge 35, 3) := by decide +kernel
theorem dX11_lower_72 : decode cX11_lower 72 = .ok (.aload_n 0, 1) := by decide +kernel
theorem dX11_lower_73 : decode cX11_lower 73 = .ok (.getfield 65, 3) := by decide +kernel
theorem dX11_lower_76 : decode cX11_lower 76 = .ok (.aload_n 0, 1) := by decide +kernel
theorem dX11_lower_77 : decode cX11_lower 77 = .ok (.getfield 202, 3) := by decide +kernel
theorem dX11_lower_80 : decode cX11_lower 80 = .ok (.aload_n 0, 1) := by decide +kernel
theorem dX11_lower_81 : decode cX11_lower 81 = .ok (.getfield 28, 3) := by decide +kernel
theorem dX11_lower_84 : decode cX11_lower 84 = .ok (.bipush 12, 2) := by decide +kernel
theorem dX11_lower_86 : decode cX11_lower 86 = .ok (.iload_n 1, 1) := by decide +kernel
theorem dX11_lower_87 : decode cX11_lower 87 = .ok (.imul, 1) := by decide +kernel
theorem dX11_lower_88 : decode cX11_lower 88 = .ok (.iload_n 2, 1) := by decide +kernel
theorem dX11_lower_89 : decode cX11_lower 89 = .ok (.iadd, 1) := by decide +kernel
theorem dX11_lower_90 : decode cX11_lower 90 = .ok (.iaload, 1) := by decide +kernel
theorem dX11_lower_91 : decode cX11_lower 91 = .ok (.iconst 1, 1) := by decide +kernel
theorem dX11_lower_92 : decode cX11_lower 92 = .ok (.isub, 1) := by decide +kernel
theorem dX11_lower_93 : decode cX11_lower 93 = .ok (.iastore, 1) := by decide +kernel
theorem dX11_lower_94 : decode cX11_lower 94 = .ok (.aload_n 0, 1) := by decide +kernel
theorem dX11_lower_95 : decode cX11_lower 95 = .ok (.dup, 1) := by decide +kernel
theorem dX11_lower_96 : decode cX11_lower 96 = .ok (.getfield 202, 3) := by decide +kernel
theorem dX11_lower_99 : decode cX11_lower 99 = .ok (.iconst 1, 1) := by decide +kernel
theorem dX11_lower_100 : decode cX11_lower 100 = .ok (.iadd, 1) := by decide +kernel
theorem dX11_lower_101 : decode cX11_lower 101 = .ok (.putfield 202, 3) := by decide +kernel
theorem dX11_lower_104 : decode cX11_lower 104 = .ok (.iinc 2 1, 3) := by decide +kernel
theorem dX11_lower_107 : decode cX11_lower 107 = .ok (.goto (-61), 3) := by decide +kernel
theorem dX11_lower_110 : decode cX11_lower 110 = .ok (.iinc 1 1, 3) := by decide +kernel
theorem dX11_lower_113 : decode cX11_lower 113 = .ok (.goto (-87), 3) := by decide +kernel
theorem dX11_lower_116 : decode cX11_lower 116 = .ok (.iconst 0, 1) := by decide +kernel
theorem dX11_lower_117 : decode cX11_lower 117 = .ok (.istore_n 1, 1) := by decide +kernel
theorem dX11_lower_118 : decode cX11_lower 118 = .ok (.iconst 0, 1) := by decide +kernel
theorem dX11_lower_119 : decode cX11_lower 119 = .ok (.istore_n 2, 1) := by decide +kernel
theorem dX11_lower_120 : decode cX11_lower 120 = .ok (.iload_n 2, 1) := by decide +kernel
theorem dX11_lower_121 : decode cX11_lower 121 = .ok (.aload_n 0, 1) := by decide +kernel
theorem dX11_lower_122 : decode cX11_lower 122 = .ok (.getfield 127, 3) := by decide +kernel
theorem dX11_lower_125 : decode cX11_lower 125 = .ok (.if_icmp .ge 23, 3) := by decide +kernel
theorem dX11_lower_128 : decode cX11_lower 128 = .ok (.aload_n 0, 1) := by decide +kernel
theorem dX11_lower_129 : decode cX11_lower 129 = .ok (.iload_n 2, 1) := by decide +kernel
theorem dX11_lower_130 : decode cX11_lower 130 = .ok (.invokevirtual 205, 3) := by decide +kernel
theorem dX11_lower_133 : decode cX11_lower 133 = .ok (.iload_n 1, 1) := by decide +kernel
theorem dX11_lower_134 : decode cX11_lower 134 = .ok (.aload_n 0, 1) := by decide +kernel
theorem dX11_lower_135 : decode cX11_lower 135 = .ok (.getfield 44, 3) := by decide +kernel
theorem dX11_lower_138 : decode cX11_lower 138 = .ok (.iload_n 2, 1) := by decide +kernel
theorem dX11_lower_139 : decode cX11_lower 139 = .ok (.iaload, 1) := by decide +kernel
theorem dX11_lower_140 : decode cX11_lower 140 = .ok (.iadd, 1) := by decide +kernel
theorem dX11_lower_141 : decode cX11_lower 141 = .ok (.istore_n 1, 1) := by decide +kernel
theorem dX11_lower_142 : decode cX11_lower 142 = .ok (.iinc 2 1, 3) := by decide +kernel
theorem dX11_lower_145 : decode cX11_lower 145 = .ok (.goto (-25), 3) := by decide +kernel
theorem dX11_lower_148 : decode cX11_lower 148 = .ok (.aload_n 0, 1) := by decide +kernel
theorem dX11_lower_149 : decode cX11_lower 149 = .ok (.iconst 1, 1) := by decide +kernel
theorem dX11_lower_150 : decode cX11_lower 150 = .ok (.putfield 134, 3) := by decide +kernel
theorem dX11_lower_153 : decode cX11_lower 153 = .ok (.iload_n 1, 1) := by decide +kernel
theorem dX11_lower_154 : decode cX11_lower 154 = .ok (.ireturn, 1) := by decide +kernel
theorem dX11_count_0 : decode cX11_count 0 = .ok (.aload_n 0, 1) := by decide +kernel
theorem dX11_count_1 : decode cX11_count 1 = .ok (.iload_n 1, 1) := by decide +kernel
theorem dX11_count_2 : decode cX11_count 2 = .ok (.ifCond .lt 12, 3) := by decide +kernel
theorem dX11_count_5 : decode cX11_count 5 = .ok (.iload_n 1, 1) := by decide +kernel
theorem dX11_count_6 : decode cX11_count 6 = .ok (.iconst 3, 1) := by decide +kernel
theorem dX11_count_7 : decode cX11_count 7 = .ok (.if_icmp .gt 7, 3) := by decide +kernel
theorem dX11_count_10 : decode cX11_count 10 = .ok (.iconst 1, 1) := by decide +kernel
theorem dX11_count_11 : decode cX11_count 11 = .ok (.goto 4, 3) := by decide +kernel
theorem dX11_count_14 : decode cX11_count 14 = .ok (.iconst 0, 1) := by decide +kernel
theorem dX11_count_15 : decode cX11_count 15 = .ok (.iload_n 1, 1) := by decide +kernel
theorem dX11_count_16 : decode cX11_count 16 = .ok (.iconst 2, 1) := by decide +kernel
theorem dX11_count_17 : decode cX11_count 17 = .ok (.if_icmp .lt 10, 3) := by decide +kernel
theorem dX11_count_20 : decode cX11_count 20 = .ok (.aload_n 0, 1) := by decide +kernel
theorem dX11_count_21 : decode cX11_count 21 = .ok (.getfield 134, 3) := by decide +kernel
theorem dX11_count_24 : decode cX11_count 24 = .ok (.ifCond .eq 7, 3) := by decide +kernel
theorem dX11_count_27 : decode cX11_count 27 = .ok (.iconst 1, 1) := by decide +kernel
theorem dX11_count_28 : decode cX11_count 28 = .ok (.goto 4, 3) := by decide +kernel
theorem dX11_count_31 : decode cX11_count 31 = .ok (.iconst 0, 1) := by decide +kernel
theorem dX11_count_32 : decode cX11_count 32 = .ok (.invokevirtual 130, 3) := by decide +kernel
theorem dX11_count_35 : decode cX11_count 35 = .ok (.ifCond .ne 5, 3) := by decide +kernel
theorem dX11_count_38 : decode cX11_count 38 = .ok (.iconst 0, 1) := by decide +kernel
theorem dX11_count_39 : decode cX11_count 39 = .ok (.ireturn, 1) := by decide +kernel
theorem dX11_count_40 : decode cX11_count 40 = .ok (.iload_n 1, 1) := by decide +kernel
theorem dX11_count_41 : decode cX11_count 41 = .ok (.ifCond .ne 10, 3) := by decide +kernel
theorem dX11_count_44 : decode cX11_count 44 = .ok (.aload_n 0, 1) := by decide +kernel
theorem dX11_count_45 : decode cX11_count 45 = .ok (.getfield 127, 3) := by decide +kernel
theorem dX11_count_48 : decode cX11_count 48 = .ok (.goto 31, 3) := by decide +kernel
theorem dX11_count_51 : decode cX11_count 51 = .ok (.iload_n 1, 1) := by decide +kernel
theorem dX11_count_52 : decode cX11_count 52 = .ok (.iconst 1, 1) := by decide +kernel
theorem dX11_count_53 : decode cX11_count 53 = .ok (.if_icmp .ne 10, 3) := by decide +kernel
theorem dX11_count_56 : decode cX11_count 56 = .ok (.aload_n 0, 1) := by decide +kernel
theorem dX11_count_57 : decode cX11_count 57 = .ok (.getfield 146, 3) := by decide +kernel
theorem dX11_count_60 : decode cX11_count 60 = .ok (.goto 19, 3) := by decide +kernel
theorem dX11_count_63 : decode cX11_count 63 = .ok (.iload_n 1, 1) := by decide +kernel
theorem dX11_count_64 : decode cX11_count 64 = .ok (.iconst 2, 1) := by decide +kernel
theorem dX11_count_65 : decode cX11_count 65 = .ok (.if_icmp .ne 10, 3) := by decide +kernel
theorem dX11_count_68 : decode cX11_count 68 = .ok (.aload_n 0, 1) := by decide +kernel
theorem dX11_count_69 : decode cX11_count 69 = .ok (.getfield 184, 3) := by decide +kernel
theorem dX11_count_72 : decode cX11_count 72 = .ok (.goto 7, 3) := by decide +kernel
theorem dX11_count_75 : decode cX11_count 75 = .ok (.aload_n 0, 1) := by decide +kernel
theorem dX11_count_76 : decode cX11_count 76 = .ok (.getfield 202, 3) := by decide +kernel
theorem dX11_count_79 : decode cX11_count 79 = .ok (.ireturn, 1) := by decide +kernel
theorem dX11_size_0 : decode cX11_size 0 = .ok (.aload_n 0, 1) := by decide +kernel
theorem dX11_size_1 : decode cX11_size 1 = .ok (.aload_n 0, 1) := by decide +kernel
theorem dX11_size_2 : decode cX11_size 2 = .ok (.iload_n 1, 1) := by decide +kernel
theorem dX11_size_3 : decode cX11_size 3 = .ok (.invokevirtual 138, 3) := by decide +kernel
theorem dX11_size_6 : decode cX11_size 6 = .ok (.ifCond .eq 16, 3) := by decide +kernel
theorem dX11_size_9 : decode cX11_size 9 = .ok (.iload_n 2, 1) := by decide +kernel
theorem dX11_size_10 : decode cX11_size 10 = .ok (.ifCond .lt 12, 3) := by decide +kernel
theorem dX11_size_13 : decode cX11_size 13 = .ok (.iload_n 2, 1) := by decide +kernel
theorem dX11_size_14 : decode cX11_size 14 = .ok (.iconst 3, 1) := by decide +kernel
theorem dX11_size_15 : decode cX11_size 15 = .ok (.if_icmp .gt 7, 3) := by decide +kernel
theorem dX11_size_18 : decode cX11_size 18 = .ok (.iconst 1, 1) := by decide +kernel
theorem dX11_size_19 : decode cX11_size 19 = .ok (.goto 4, 3) := by decide +kernel
theorem dX11_size_22 : decode cX11_size 22 = .ok (.iconst 0, 1) := by decide +kernel
theorem dX11_size_23 : decode cX11_size 23 = .ok (.iload_n 2, 1) := by decide +kernel
theorem dX11_size_24 : decode cX11_size 24 = .ok (.ifCond .eq 10, 3) := by decide +kernel
theorem dX11_size_27 : decode cX11_size 27 = .ok (.aload_n 0, 1) := by decide +kernel
theorem dX11_size_28 : decode cX11_size 28 = .ok (.getfield 134, 3) := by decide +kernel
theorem dX11_size_31 : decode cX11_size 31 = .ok (.ifCond .eq 7, 3) := by decide +kernel
theorem dX11_size_34 : decode cX11_size 34 = .ok (.iconst 1, 1) := by decide +kernel
theorem dX11_size_35 : decode cX11_size 35 = .ok (.goto 4, 3) := by decide +kernel
theorem dX11_size_38 : decode cX11_size 38 = .ok (.iconst 0, 1) := by decide +kernel
theorem dX11_size_39 : decode cX11_size 39 = .ok (.invokevirtual 130, 3) := by decide +kernel
theorem dX11_size_42 : decode cX11_size 42 = .ok (.ifCond .ne 5, 3) := by decide +kernel
theorem dX11_size_45 : decode cX11_size 45 = .ok (.iconst 0, 1) := by decide +kernel
theorem dX11_size_46 : decode cX11_size 46 = .ok (.ireturn, 1) := by decide +kernel
theorem dX11_size_47 : decode cX11_size 47 = .ok (.iload_n 2, 1) := by decide +kernel
theorem dX11_size_48 : decode cX11_size 48 = .ok (.ifCond .ne 12, 3) := by decide +kernel
theorem dX11_size_51 : decode cX11_size 51 = .ok (.aload_n 0, 1) := by decide +kernel
theorem dX11_size_52 : decode cX11_size 52 = .ok (.getfield 13, 3) := by decide +kernel
theorem dX11_size_55 : decode cX11_size 55 = .ok (.iload_n 1, 1) := by decide +kernel
theorem dX11_size_56 : decode cX11_size 56 = .ok (.iaload, 1) := by decide +kernel
theorem dX11_size_57 : decode cX11_size 57 = .ok (.goto 37, 3) := by decide +kernel
theorem dX11_size_60 : decode cX11_size 60 = .ok (.iload_n 2, 1) := by decide +kernel
theorem dX11_size_61 : decode cX11_size 61 = .ok (.iconst 1, 1) := by decide +kernel
theorem dX11_size_62 : decode cX11_size 62 = .ok (.if_icmp .ne 12, 3) := by decide +kernel
theorem dX11_size_65 : decode cX11_size 65 = .ok (.aload_n 0, 1) := by decide +kernel
theorem dX11_size_66 : decode cX11_size 66 = .ok (.getfield 44, 3) := by decide +kernel
theorem dX11_size_69 : decode cX11_size 69 = .ok (.iload_n 1, 1) := by decide +kernel
theorem dX11_size_70 : decode cX11_size 70 = .ok (.iaload, 1) := by decide +kernel
theorem dX11_size_71 : decode cX11_size 71 = .ok (.goto 23, 3) := by decide +kernel
theorem dX11_size_74 : decode cX11_size 74 = .ok (.iload_n 2, 1) := by decide +kernel
theorem dX11_size_75 : decode cX11_size 75 = .ok (.iconst 2, 1) := by decide +kernel
theorem dX11_size_76 : decode cX11_size 76 = .ok (.if_icmp .ne 12, 3) := by decide +kernel
theorem dX11_size_79 : decode cX11_size 79 = .ok (.aload_n 0, 1) := by decide +kernel
theorem dX11_size_80 : decode cX11_size 80 = .ok (.getfield 38, 3) := by decide +kernel
theorem dX11_size_83 : decode cX11_size 83 = .ok (.iload_n 1, 1) := by decide +kernel
theorem dX11_size_84 : decode cX11_size 84 = .ok (.iaload, 1) := by decide +kernel
theorem dX11_size_85 : decode cX11_size 85 = .ok (.goto 9, 3) := by decide +kernel
theorem dX11_size_88 : decode cX11_size 88 = .ok (.aload_n 0, 1) := by decide +kernel
theorem dX11_size_89 : decode cX11_size 89 = .ok (.getfield 41, 3) := by decide +kernel
theorem dX11_size_92 : decode cX11_size 92 = .ok (.iload_n 1, 1) := by decide +kernel
theorem dX11_size_93 : decode cX11_size 93 = .ok (.iaload, 1) := by decide +kernel
theorem dX11_size_94 : decode cX11_size 94 = .ok (.ireturn, 1) := by decide +kernel
theorem dX11_plain_0 : decode cX11_plain 0 = .ok (.aload_n 0, 1) := by decide +kernel
theorem dX11_plain_1 : decode cX11_plain 1 = .ok (.iload_n 1, 1) := by decide +kernel
theorem dX11_plain_2 : decode cX11_plain 2 = .ok (.invokevirtual 138, 3) := by decide +kernel
theorem dX11_plain_5 : decode cX11_plain 5 = .ok (.ifCond .eq 20, 3) := by decide +kernel
theorem dX11_plain_8 : decode cX11_plain 8 = .ok (.iload_n 3, 1) := by decide +kernel
theorem dX11_plain_9 : decode cX11_plain 9 = .ok (.ifCond .lt 16, 3) := by decide +kernel
theorem dX11_plain_12 : decode cX11_plain 12 = .ok (.iload_n 3, 1) := by decide +kernel
theorem dX11_plain_13 : decode cX11_plain 13 = .ok (.iconst 2, 1) := by decide +kernel
theorem dX11_plain_14 : decode cX11_plain 14 = .ok (.if_icmp .gt 11, 3) := by decide +kernel
theorem dX11_plain_17 : decode cX11_plain 17 = .ok (.iload_n 2, 1) := by decide +kernel
theorem dX11_plain_18 : decode cX11_plain 18 = .ok (.ifCond .lt 7, 3) := by decide +kernel
theorem dX11_plain_21 : decode cX11_plain 21 = .ok (.iconst 1, 1) := by decide +kernel
theorem dX11_plain_22 : decode cX11_plain 22 = .ok (.goto 4, 3) := by decide +kernel
theorem dX11_plain_25 : decode cX11_plain 25 = .ok (.iconst 0, 1) := by decide +kernel
theorem dX11_plain_26 : decode cX11_plain 26 = .ok (.istore 4, 2) := by decide +kernel
theorem dX11_plain_28 : decode cX11_plain 28 = .ok (.aload_n 0, 1) := by decide +kernel
theorem dX11_plain_29 : decode cX11_plain 29 = .ok (.iload 4, 2) := by decide +kernel
theorem dX11_plain_31 : decode cX11_plain 31 = .ok (.ifCond .eq 24, 3) := by decide +kernel
theorem dX11_plain_34 : decode cX11_plain 34 = .ok (.aload_n 0, 1) := by decide +kernel
theorem dX11_plain_35 : decode cX11_plain 35 = .ok (.getfield 134, 3) := by decide +kernel
theorem dX11_plain_38 : decode cX11_plain 38 = .ok (.ifCond .eq 13, 3) := by decide +kernel
theorem dX11_plain_41 : decode cX11_plain 41 = .ok (.iload_n 2, 1) := by decide +kernel
theorem dX11_plain_42 : decode cX11_plain 42 = .ok (.aload_n 0, 1) := by decide +kernel
theorem dX11_plain_43 : decode cX11_plain 43 = .ok (.getfield 44, 3) := by decide +kernel
theorem dX11_plain_46 : decode cX11_plain 46 = .ok (.iload_n 1, 1) := by decide +kernel
theorem dX11_plain_47 : decode cX11_plain 47 = .ok (.iaload, 1) := by decide +kernel
theorem dX11_plain_48 : decode cX11_plain 48 = .ok (.if_icmp .ge 7, 3) := by decide +kernel
theorem dX11_plain_51 : decode cX11_plain 51 = .ok (.iconst 1, 1) := by decide +kernel
theorem dX11_plain_52 : decode cX11_plain 52 = .ok (.goto 4, 3) := by decide +kernel
theorem dX11_plain_55 : decode cX11_plain 55 = .ok (.iconst 0, 1) := by decide +kernel
theorem dX11_plain_56 : decode cX11_plain 56 = .ok (.aload_n 0, 1) := by decide +kernel
theorem dX11_plain_57 : decode cX11_plain 57 = .ok (.getfield 134, 3) := by decide +kernel
theorem dX11_plain_60 : decode cX11_plain 60 = .ok (.invokevirtual 130, 3) := by decide +kernel
theorem dX11_plain_63 : decode cX11_plain 63 = .ok (.ifCond .ne 5, 3) := by decide +kernel
theorem dX11_plain_66 : decode cX11_plain 66 = .ok (.iconst 0, 1) := by decide +kernel
theorem dX11_plain_67 : decode cX11_plain 67 = .ok (.ireturn, 1) := by decide +kernel
theorem dX11_plain_68 : decode cX11_plain 68 = .ok (.sipush 1500, 3) := by decide +kernel
theorem dX11_plain_71 : decode cX11_plain 71 = .ok (.iload_n 1, 1) := by decide +kernel
theorem dX11_plain_72 : decode cX11_plain 72 = .ok (.imul, 1) := by decide +kernel
theorem dX11_plain_73 : decode cX11_plain 73 = .ok (.iload_n 2, 1) := by decide +kernel
theorem dX11_plain_74 : decode cX11_plain 74 = .ok (.iadd, 1) := by decide +kernel
theorem dX11_plain_75 : decode cX11_plain 75 = .ok (.istore 5, 2) := by decide +kernel
theorem dX11_plain_77 : decode cX11_plain 77 = .ok (.iload_n 3, 1) := by decide +kernel
theorem dX11_plain_78 : decode cX11_plain 78 = .ok (.ifCond .ne 13, 3) := by decide +kernel
theorem dX11_plain_81 : decode cX11_plain 81 = .ok (.aload_n 0, 1) := by decide +kernel
theorem dX11_plain_82 : decode cX11_plain 82 = .ok (.getfield 47, 3) := by decide +kernel
theorem dX11_plain_85 : decode cX11_plain 85 = .ok (.iload 5, 2) := by decide +kernel
theorem dX11_plain_87 : decode cX11_plain 87 = .ok (.iaload, 1) := by decide +kernel
theorem dX11_plain_88 : decode cX11_plain 88 = .ok (.goto 25, 3) := by decide +kernel
theorem dX11_plain_91 : decode cX11_plain 91 = .ok (.iload_n 3, 1) := by decide +kernel
theorem dX11_plain_92 : decode cX11_plain 92 = .ok (.iconst 1, 1) := by decide +kernel
theorem dX11_plain_93 : decode cX11_plain 93 = .ok (.if_icmp .ne 13, 3) := by decide +kernel
theorem dX11_plain_96 : decode cX11_plain 96 = .ok (.aload_n 0, 1) := by decide +kernel
theorem dX11_plain_97 : decode cX11_plain 97 = .ok (.getfield 50, 3) := by decide +kernel
theorem dX11_plain_100 : decode cX11_plain 100 = .ok (.iload 5, 2) := by decide +kernel
theorem dX11_plain_102 : decode cX11_plain 102 = .ok (.iaload, 1) := by decide +kernel
theorem dX11_plain_103 : decode cX11_plain 103 = .ok (.goto 10, 3) := by decide +kernel
theorem dX11_plain_106 : decode cX11_plain 106 = .ok (.aload_n 0, 1) := by decide +kernel
theorem dX11_plain_107 : decode cX11_plain 107 = .ok (.getfield 53, 3) := by decide +kernel
theorem dX11_plain_110 : decode cX11_plain 110 = .ok (.iload 5, 2) := by decide +kernel
theorem dX11_plain_112 : decode cX11_plain 112 = .ok (.iaload, 1) := by decide +kernel
theorem dX11_plain_113 : decode cX11_plain 113 = .ok (.ireturn, 1) := by decide +kernel
theorem dX11_made_0 : decode cX11_made 0 = .ok (.aload_n 0, 1) := by decide +kernel
theorem dX11_made_1 : decode cX11_made 1 = .ok (.iload_n 1, 1) := by decide +kernel
theorem dX11_made_2 : decode cX11_made 2 = .ok (.ifCond .lt 31, 3) := by decide +kernel
theorem dX11_made_5 : decode cX11_made 5 = .ok (.iload_n 2, 1) := by decide +kernel
theorem dX11_made_6 : decode cX11_made 6 = .ok (.ifCond .lt 27, 3) := by decide +kernel
theorem dX11_made_9 : decode cX11_made 9 = .ok (.iload_n 2, 1) := by decide +kernel
theorem dX11_made_10 : decode cX11_made 10 = .ok (.iconst 2, 1) := by decide +kernel
theorem dX11_made_11 : decode cX11_made 11 = .ok (.if_icmp .gt 22, 3) := by decide +kernel
theorem dX11_made_14 : decode cX11_made 14 = .ok (.aload_n 0, 1) := by decide +kernel
theorem dX11_made_15 : decode cX11_made 15 = .ok (.getfield 134, 3) := by decide +kernel
theorem dX11_made_18 : decode cX11_made 18 = .ok (.ifCond .eq 11, 3) := by decide +kernel
theorem dX11_made_21 : decode cX11_made 21 = .ok (.iload_n 1, 1) := by decide +kernel
theorem dX11_made_22 : decode cX11_made 22 = .ok (.aload_n 0, 1) := by decide +kernel
theorem dX11_made_23 : decode cX11_made 23 = .ok (.getfield 184, 3) := by decide +kernel
theorem dX11_made_26 : decode cX11_made 26 = .ok (.if_icmp .ge 7, 3) := by decide +kernel
theorem dX11_made_29 : decode cX11_made 29 = .ok (.iconst 1, 1) := by decide +kernel
theorem dX11_made_30 : decode cX11_made 30 = .ok (.goto 4, 3) := by decide +kernel
theorem dX11_made_33 : decode cX11_made 33 = .ok (.iconst 0, 1) := by decide +kernel
theorem dX11_made_34 : decode cX11_made 34 = .ok (.aload_n 0, 1) := by decide +kernel
theorem dX11_made_35 : decode cX11_made 35 = .ok (.getfield 134, 3) := by decide +kernel
theorem dX11_made_38 : decode cX11_made 38 = .ok (.invokevirtual 130, 3) := by decide +kernel
theorem dX11_made_41 : decode cX11_made 41 = .ok (.ifCond .ne 5, 3) := by decide +kernel
theorem dX11_made_44 : decode cX11_made 44 = .ok (.iconst 0, 1) := by decide +kernel
theorem dX11_made_45 : decode cX11_made 45 = .ok (.ireturn, 1) := by decide +kernel
theorem dX11_made_46 : decode cX11_made 46 = .ok (.iload_n 2, 1) := by decide +kernel
theorem dX11_made_47 : decode cX11_made 47 = .ok (.ifCond .ne 12, 3) := by decide +kernel
theorem dX11_made_50 : decode cX11_made 50 = .ok (.aload_n 0, 1) := by decide +kernel
theorem dX11_made_51 : decode cX11_made 51 = .ok (.getfield 59, 3) := by decide +kernel
theorem dX11_made_54 : decode cX11_made 54 = .ok (.iload_n 1, 1) := by decide +kernel
theorem dX11_made_55 : decode cX11_made 55 = .ok (.iaload, 1) := by decide +kernel
theorem dX11_made_56 : decode cX11_made 56 = .ok (.goto 30, 3) := by decide +kernel
theorem dX11_made_59 : decode cX11_made 59 = .ok (.iload_n 2, 1) := by decide +kernel
theorem dX11_made_60 : decode cX11_made 60 = .ok (.iconst 1, 1) := by decide +kernel
theorem dX11_made_61 : decode cX11_made 61 = .ok (.if_icmp .ne 12, 3) := by decide +kernel
theorem dX11_made_64 : decode cX11_made 64 = .ok (.aload_n 0, 1) := by decide +kernel
theorem dX11_made_65 : decode cX11_made 65 = .ok (.getfield 62, 3) := by decide +kernel
theorem dX11_made_68 : decode cX11_made 68 = .ok (.iload_n 1, 1) := by decide +kernel
theorem dX11_made_69 : decode cX11_made 69 = .ok (.iaload, 1) := by decide +kernel
theorem dX11_made_70 : decode cX11_made 70 = .ok (.goto 16, 3) := by decide +kernel
theorem dX11_made_73 : decode cX11_made 73 = .ok (.aload_n 0, 1) := by decide +kernel
theorem dX11_made_74 : decode cX11_made 74 = .ok (.getfield 7, 3) := by decide +kernel
theorem dX11_made_77 : decode cX11_made 77 = .ok (.aload_n 0, 1) := by decide +kernel
theorem dX11_made_78 : decode cX11_made 78 = .ok (.getfield 62, 3) := by decide +kernel
theorem dX11_made_81 : decode cX11_made 81 = .ok (.iload_n 1, 1) := by decide +kernel
theorem dX11_made_82 : decode cX11_made 82 = .ok (.iaload, 1) := by decide +kernel
theorem dX11_made_83 : decode cX11_made 83 = .ok (.iaload, 1) := by decide +kernel
theorem dX11_made_84 : decode cX11_made 84 = .ok (.iconst 2, 1) := by decide +kernel
theorem dX11_made_85 : decode cX11_made 85 = .ok (.iadd, 1) := by decide +kernel
theorem dX11_made_86 : decode cX11_made 86 = .ok (.ireturn, 1) := by decide +kernel
theorem dX11_character_0 : decode cX11_character 0 = .ok (.aload_n 0, 1) := by decide +kernel
theorem dX11_character_1 : decode cX11_character 1 = .ok (.iload_n 1, 1) := by decide +kernel
theorem dX11_character_2 : decode cX11_character 2 = .ok (.ifCond .lt 22, 3) := by decide +kernel
theorem dX11_character_5 : decode cX11_character 5 = .ok (.aload_n 0, 1) := by decide +kernel
theorem dX11_character_6 : decode cX11_character 6 = .ok (.getfield 134, 3) := by decide +kernel
theorem dX11_character_9 : decode cX11_character 9 = .ok (.ifCond .eq 11, 3) := by decide +kernel
theorem dX11_character_12 : decode cX11_character 12 = .ok (.iload_n 1, 1) := by decide +kernel
theorem dX11_character_13 : decode cX11_character 13 = .ok (.aload_n 0, 1) := by decide +kernel
theorem dX11_character_14 : decode cX11_character 14 = .ok (.getfield 202, 3) := by decide +kernel
theorem dX11_character_17 : decode cX11_character 17 = .ok (.if_icmp .ge 7, 3) := by decide +kernel
theorem dX11_character_20 : decode cX11_character 20 = .ok (.iconst 1, 1) := by decide +kernel
theorem dX11_character_21 : decode cX11_character 21 = .ok (.goto 4, 3) := by decide +kernel
theorem dX11_character_24 : decode cX11_character 24 = .ok (.iconst 0, 1) := by decide +kernel
theorem dX11_character_25 : decode cX11_character 25 = .ok (.aload_n 0, 1) := by decide +kernel
theorem dX11_character_26 : decode cX11_character 26 = .ok (.getfield 134, 3) := by decide +kernel
theorem dX11_character_29 : decode cX11_character 29 = .ok (.invokevirtual 130, 3) := by decide +kernel
theorem dX11_character_32 : decode cX11_character 32 = .ok (.ifCond .eq 12, 3) := by decide +kernel
theorem dX11_character_35 : decode cX11_character 35 = .ok (.aload_n 0, 1) := by decide +kernel
theorem dX11_character_36 : decode cX11_character 36 = .ok (.getfield 65, 3) := by decide +kernel
theorem dX11_character_39 : decode cX11_character 39 = .ok (.iload_n 1, 1) := by decide +kernel
theorem dX11_character_40 : decode cX11_character 40 = .ok (.iaload, 1) := by decide +kernel
theorem dX11_character_41 : decode cX11_character 41 = .ok (.goto 4, 3) := by decide +kernel
theorem dX11_character_44 : decode cX11_character 44 = .ok (.iconst 0, 1) := by decide +kernel
theorem dX11_character_45 : decode cX11_character 45 = .ok (.ireturn, 1) := by decide +kernel
theorem dX11_push_0 : decode cX11_push 0 = .ok (.aload_n 0, 1) := by decide +kernel
theorem dX11_push_1 : decode cX11_push 1 = .ok (.getfield 74, 3) := by decide +kernel
theorem dX11_push_4 : decode cX11_push 4 = .ok (.aload_n 0, 1) := by decide +kernel
theorem dX11_push_5 : decode cX11_push 5 = .ok (.getfield 208, 3) := by decide +kernel
theorem dX11_push_8 : decode cX11_push 8 = .ok (.iload_n 1, 1) := by decide +kernel
theorem dX11_push_9 : decode cX11_push 9 = .ok (.iastore, 1) := by decide +kernel
theorem dX11_push_10 : decode cX11_push 10 = .ok (.aload_n 0, 1) := by decide +kernel
theorem dX11_push_11 : decode cX11_push 11 = .ok (.getfield 77, 3) := by decide +kernel
theorem dX11_push_14 : decode cX11_push 14 = .ok (.aload_n 0, 1) := by decide +kernel
theorem dX11_push_15 : decode cX11_push 15 = .ok (.getfield 208, 3) := by decide +kernel
theorem dX11_push_18 : decode cX11_push 18 = .ok (.iload_n 2, 1) := by decide +kernel
theorem dX11_push_19 : decode cX11_push 19 = .ok (.iastore, 1) := by decide +kernel
theorem dX11_push_20 : decode cX11_push 20 = .ok (.aload_n 0, 1) := by decide +kernel
theorem dX11_push_21 : decode cX11_push 21 = .ok (.dup, 1) := by decide +kernel
theorem dX11_push_22 : decode cX11_push 22 = .ok (.getfield 208, 3) := by decide +kernel
theorem dX11_push_25 : decode cX11_push 25 = .ok (.iconst 1, 1) := by decide +kernel
theorem dX11_push_26 : decode cX11_push 26 = .ok (.iadd, 1) := by decide +kernel
theorem dX11_push_27 : decode cX11_push 27 = .ok (.putfield 208, 3) := by decide +kernel
theorem dX11_push_30 : decode cX11_push 30 = .ok (.return_, 1) := by decide +kernel
theorem dX11_begin_0 : decode cX11_begin 0 = .ok (.aload_n 0, 1) := by decide +kernel
theorem dX11_begin_1 : decode cX11_begin 1 = .ok (.getfield 211, 3) := by decide +kernel
theorem dX11_begin_4 : decode cX11_begin 4 = .ok (.bipush 30, 2) := by decide +kernel
theorem dX11_begin_6 : decode cX11_begin 6 = .ok (.if_icmp .ne 9, 3) := by decide +kernel
theorem dX11_begin_9 : decode cX11_begin 9 = .ok (.aload_n 0, 1) := by decide +kernel
theorem dX11_begin_10 : decode cX11_begin 10 = .ok (.iconst 3, 1) := by decide +kernel
theorem dX11_begin_11 : decode cX11_begin 11 = .ok (.putfield 214, 3) := by decide +kernel
theorem dX11_begin_14 : decode cX11_begin 14 = .ok (.return_, 1) := by decide +kernel
theorem dX11_begin_15 : decode cX11_begin 15 = .ok (.aload_n 0, 1) := by decide +kernel
theorem dX11_begin_16 : decode cX11_begin 16 = .ok (.dup, 1) := by decide +kernel
theorem dX11_begin_17 : decode cX11_begin 17 = .ok (.getfield 211, 3) := by decide +kernel
theorem dX11_begin_20 : decode cX11_begin 20 = .ok (.iconst 1, 1) := by decide +kernel
theorem dX11_begin_21 : decode cX11_begin 21 = .ok (.iadd, 1) := by decide +kernel
theorem dX11_begin_22 : decode cX11_begin 22 = .ok (.putfield 211, 3) := by decide +kernel
theorem dX11_begin_25 : decode cX11_begin 25 = .ok (.aload_n 0, 1) := by decide +kernel
theorem dX11_begin_26 : decode cX11_begin 26 = .ok (.getfield 80, 3) := by decide +kernel
theorem dX11_begin_29 : decode cX11_begin 29 = .ok (.aload_n 0, 1) := by decide +kernel
theorem dX11_begin_30 : decode cX11_begin 30 = .ok (.getfield 211, 3) := by decide +kernel
theorem dX11_begin_33 : decode cX11_begin 33 = .ok (.iload_n 1, 1) := by decide +kernel
theorem dX11_begin_34 : decode cX11_begin 34 = .ok (.iastore, 1) := by decide +kernel
theorem dX11_begin_35 : decode cX11_begin 35 = .ok (.aload_n 0, 1) := by decide +kernel
theorem dX11_begin_36 : decode cX11_begin 36 = .ok (.getfield 83, 3) := by decide +kernel
theorem dX11_begin_39 : decode cX11_begin 39 = .ok (.aload_n 0, 1) := by decide +kernel
theorem dX11_begin_40 : decode cX11_begin 40 = .ok (.getfield 211, 3) := by decide +kernel
theorem dX11_begin_43 : decode cX11_begin 43 = .ok (.iconst 0, 1) := by decide +kernel
theorem dX11_begin_44 : decode cX11_begin 44 = .ok (.iastore, 1) := by decide +kernel
theorem dX11_begin_45 : decode cX11_begin 45 = .ok (.aload_n 0, 1) := by decide +kernel
theorem dX11_begin_46 : decode cX11_begin 46 = .ok (.getfield 86, 3) := by decide +kernel
theorem dX11_begin_49 : decode cX11_begin 49 = .ok (.aload_n 0, 1) := by decide +kernel
theorem dX11_begin_50 : decode cX11_begin 50 = .ok (.getfield 211, 3) := by decide +kernel
theorem dX11_begin_53 : decode cX11_begin 53 = .ok (.aload_n 0, 1) := by decide +kernel
theorem dX11_begin_54 : decode cX11_begin 54 = .ok (.getfield 208, 3) := by decide +kernel
theorem dX11_begin_57 : decode cX11_begin 57 = .ok (.iastore, 1) := by decide +kernel
theorem dX11_begin_58 : decode cX11_begin 58 = .ok (.iconst 0, 1) := by decide +kernel
theorem dX11_begin_59 : decode cX11_begin 59 = .ok (.istore_n 3, 1) := by decide +kernel
theorem dX11_begin_60 : decode cX11_begin 60 = .ok (.iload_n 3, 1) := by decide +kernel
theorem dX11_begin_61 : decode cX11_begin 61 = .ok (.bipush 8, 2) := by decide +kernel
theorem dX11_begin_63 : decode cX11_begin 63 = .ok (.if_icmp .ge 67, 3) := by decide +kernel
theorem dX11_begin_66 : decode cX11_begin 66 = .ok (.aload_n 0, 1) := by decide +kernel
theorem dX11_begin_67 : decode cX11_begin 67 = .ok (.getfield 89, 3) := by decide +kernel
theorem dX11_begin_70 : decode cX11_begin 70 = .ok (.bipush 8, 2) := by decide +kernel
theorem dX11_begin_72 : decode cX11_begin 72 = .ok (.aload_n 0, 1) := by decide +kernel
theorem dX11_begin_73 : decode cX11_begin 73 = .ok (.getfield 211, 3) := by decide +kernel
theorem dX11_begin_76 : decode cX11_begin 76 = .ok (.imul, 1) := by decide +kernel
theorem dX11_begin_77 : decode cX11_begin 77 = .ok (.iload_n 3, 1) := by decide +kernel
theorem dX11_begin_78 : decode cX11_begin 78 = .ok (.iadd, 1) := by decide +kernel
theorem dX11_begin_79 : decode cX11_begin 79 = .ok (.iload_n 3, 1) := by decide +kernel
theorem dX11_begin_80 : decode cX11_begin 80 = .ok (.iload_n 2, 1) := by decide +kernel
theorem dX11_begin_81 : decode cX11_begin 81 = .ok (.if_icmp .ge 12, 3) := by decide +kernel
theorem dX11_begin_84 : decode cX11_begin 84 = .ok (.aload_n 0, 1) := by decide +kernel
theorem dX11_begin_85 : decode cX11_begin 85 = .ok (.getfield 95, 3) := by decide +kernel
theorem dX11_begin_88 : decode cX11_begin 88 = .ok (.iload_n 3, 1) := by decide +kernel
theorem dX11_begin_89 : decode cX11_begin 89 = .ok (.iaload, 1) := by decide +kernel
theorem dX11_begin_90 : decode cX11_begin 90 = .ok (.goto 4, 3) := by decide +kernel
theorem dX11_begin_93 : decode cX11_begin 93 = .ok (.iconst 1, 1) := by decide +kernel
theorem dX11_begin_94 : decode cX11_begin 94 = .ok (.iastore, 1) := by decide +kernel
theorem dX11_begin_95 : decode cX11_begin 95 = .ok (.aload_n 0, 1) := by decide +kernel
theorem dX11_begin_96 : decode cX11_begin 96 = .ok (.getfield 92, 3) := by decide +kernel
theorem dX11_begin_99 : decode cX11_begin 99 = .ok (.bipush 8, 2) := by decide +kernel
theorem dX11_begin_101 : decode cX11_begin 101 = .ok (.aload_n 0, 1) := by decide +kernel
theorem dX11_begin_102 : decode cX11_begin 102 = .ok (.getfield 211, 3) := by decide +kernel
theorem dX11_begin_105 : decode cX11_begin 105 = .ok (.imul, 1) := by decide +kernel
theorem dX11_begin_106 : decode cX11_begin 106 = .ok (.iload_n 3, 1) := by decide +kernel
theorem dX11_begin_107 : decode cX11_begin 107 = .ok (.iadd, 1) := by decide +kernel
theorem dX11_begin_108 : decode cX11_begin 108 = .ok (.iload_n 3, 1) := by decide +kernel
theorem dX11_begin_109 : decode cX11_begin 109 = .ok (.iload_n 2, 1) := by decide +kernel
theorem dX11_begin_110 : decode cX11_begin 110 = .ok (.if_icmp .ge 12, 3) := by decide +kernel
theorem dX11_begin_113 : decode cX11_begin 113 = .ok (.aload_n 0, 1) := by decide +kernel
theorem dX11_begin_114 : decode cX11_begin 114 = .ok (.getfield 98, 3) := by decide +kernel
theorem dX11_begin_117 : decode cX11_begin 117 = .ok (.iload_n 3, 1) := by decide +kernel
theorem dX11_begin_118 : decode cX11_begin 118 = .ok (.iaload, 1) := by decide +kernel
theorem dX11_begin_119 : decode cX11_begin 119 = .ok (.goto 4, 3) := by decide +kernel
theorem dX11_begin_122 : decode cX11_begin 122 = .ok (.iconst 0, 1) := by decide +kernel
theorem dX11_begin_123 : decode cX11_begin 123 = .ok (.iastore, 1) := by decide +kernel
theorem dX11_begin_124 : decode cX11_begin 124 = .ok (.iinc 3 1, 3) := by decide +kernel
theorem dX11_begin_127 : decode cX11_begin 127 = .ok (.goto (-67), 3) := by decide +kernel
theorem dX11_begin_130 : decode cX11_begin 130 = .ok (.return_, 1) := by decide +kernel
theorem dX11_take_0 : decode cX11_take 0 = .ok (.aload_n 0, 1) := by decide +kernel
theorem dX11_take_1 : decode cX11_take 1 = .ok (.dup, 1) := by decide +kernel
theorem dX11_take_2 : decode cX11_take 2 = .ok (.getfield 208, 3) := by decide +kernel
theorem dX11_take_5 : decode cX11_take 5 = .ok (.iload_n 1, 1) := by decide +kernel
theorem dX11_take_6 : decode cX11_take 6 = .ok (.isub, 1) := by decide +kernel
theorem dX11_take_7 : decode cX11_take 7 = .ok (.putfield 208, 3) := by decide +kernel
theorem dX11_take_10 : decode cX11_take 10 = .ok (.iconst 0, 1) := by decide +kernel
theorem dX11_take_11 : decode cX11_take 11 = .ok (.istore_n 3, 1) := by decide +kernel
theorem dX11_take_12 : decode cX11_take 12 = .ok (.iload_n 3, 1) := by decide +kernel
theorem dX11_take_13 : decode cX11_take 13 = .ok (.iload_n 1, 1) := by decide +kernel
theorem dX11_take_14 : decode cX11_take 14 = .ok (.if_icmp .ge 47, 3) := by decide +kernel
theorem dX11_take_17 : decode cX11_take 17 = .ok (.aload_n 0, 1) := by decide +kernel
theorem dX11_take_18 : decode cX11_take 18 = .ok (.getfield 95, 3) := by decide +kernel
theorem dX11_take_21 : decode cX11_take 21 = .ok (.iload_n 2, 1) := by decide +kernel
theorem dX11_take_22 : decode cX11_take 22 = .ok (.iload_n 3, 1) := by decide +kernel
theorem dX11_take_23 : decode cX11_take 23 = .ok (.iadd, 1) := by decide +kernel
theorem dX11_take_24 : decode cX11_take 24 = .ok (.aload_n 0, 1) := by decide +kernel
theorem dX11_take_25 : decode cX11_take 25 = .ok (.getfield 74, 3) := by decide +kernel
theorem dX11_take_28 : decode cX11_take 28 = .ok (.aload_n 0, 1) := by decide +kernel
theorem dX11_take_29 : decode cX11_take 29 = .ok (.getfield 208, 3) := by decide +kernel
theorem dX11_take_32 : decode cX11_take 32 = .ok (.iload_n 3, 1) := by decide +kernel
theorem dX11_take_33 : decode cX11_take 33 = .ok (.iadd, 1) := by decide +kernel
theorem dX11_take_34 : decode cX11_take 34 = .ok (.iaload, 1) := by decide +kernel
theorem dX11_take_35 : decode cX11_take 35 = .ok (.iastore, 1) := by decide +kernel
theorem dX11_take_36 : decode cX11_take 36 = .ok (.aload_n 0, 1) := by decide +kernel
theorem dX11_take_37 : decode cX11_take 37 = .ok (.getfield 98, 3) := by decide +kernel
theorem dX11_take_40 : decode cX11_take 40 = .ok (.iload_n 2, 1) := by decide +kernel
theorem dX11_take_41 : decode cX11_take 41 = .ok (.iload_n 3, 1) := by decide +kernel
theorem dX11_take_42 : decode cX11_take 42 = .ok (.iadd, 1) := by decide +kernel
theorem dX11_take_43 : decode cX11_take 43 = .ok (.aload_n 0, 1) := by decide +kernel
theorem dX11_take_44 : decode cX11_take 44 = .ok (.getfield 77, 3) := by decide +kernel
theorem dX11_take_47 : decode cX11_take 47 = .ok (.aload_n 0, 1) := by decide +kernel
theorem dX11_take_48 : decode cX11_take 48 = .ok (.getfield 208, 3) := by decide +kernel
theorem dX11_take_51 : decode cX11_take 51 = .ok (.iload_n 3, 1) := by decide +kernel
theorem dX11_take_52 : decode cX11_take 52 = .ok (.iadd, 1) := by decide +kernel
theorem dX11_take_53 : decode cX11_take 53 = .ok (.iaload, 1) := by decide +kernel
theorem dX11_take_54 : decode cX11_take 54 = .ok (.iastore, 1) := by decide +kernel
theorem dX11_take_55 : decode cX11_take 55 = .ok (.iinc 3 1, 3) := by decide +kernel
theorem dX11_take_58 : decode cX11_take 58 = .ok (.goto (-46), 3) := by decide +kernel
theorem dX11_take_61 : decode cX11_take 61 = .ok (.return_, 1) := by decide +kernel
theorem dX11_letter_0 : decode cX11_letter 0 = .ok (.aload_n 0, 1) := by decide +kernel
theorem dX11_letter_1 : decode cX11_letter 1 = .ok (.getfield 217, 3) := by decide +kernel
theorem dX11_letter_4 : decode cX11_letter 4 = .ok (.sipush 2500, 3) := by decide +kernel
theorem dX11_letter_7 : decode cX11_letter 7 = .ok (.if_icmp .ge 13, 3) := by decide +kernel
theorem dX11_letter_10 : decode cX11_letter 10 = .ok (.aload_n 0, 1) := by decide +kernel
theorem dX11_letter_11 : decode cX11_letter 11 = .ok (.getfield 120, 3) := by decide +kernel
theorem dX11_letter_14 : decode cX11_letter 14 = .ok (.aload_n 0, 1) := by decide +kernel
theorem dX11_letter_15 : decode cX11_letter 15 = .ok (.getfield 217, 3) := by decide +kernel
theorem dX11_letter_18 : decode cX11_letter 18 = .ok (.iload_n 1, 1) := by decide +kernel
theorem dX11_letter_19 : decode cX11_letter 19 = .ok (.iastore, 1) := by decide +kernel
theorem dX11_letter_20 : decode cX11_letter 20 = .ok (.aload_n 0, 1) := by decide +kernel
theorem dX11_letter_21 : decode cX11_letter 21 = .ok (.dup, 1) := by decide +kernel
theorem dX11_letter_22 : decode cX11_letter 22 = .ok (.getfield 217, 3) := by decide +kernel
theorem dX11_letter_25 : decode cX11_letter 25 = .ok (.iconst 1, 1) := by decide +kernel
theorem dX11_letter_26 : decode cX11_letter 26 = .ok (.iadd, 1) := by decide +kernel
theorem dX11_letter_27 : decode cX11_letter 27 = .ok (.putfield 217, 3) := by decide +kernel
theorem dX11_letter_30 : decode cX11_letter 30 = .ok (.return_, 1) := by decide +kernel
theorem dX11_write_0 : decode cX11_write 0 = .ok (.iload_n 1, 1) := by decide +kernel
theorem dX11_write_1 : decode cX11_write 1 = .ok (.iconst 3, 1) := by decide +kernel
theorem dX11_write_2 : decode cX11_write 2 = .ok (.if_icmp .ne 10, 3) := by decide +kernel
theorem dX11_write_5 : decode cX11_write 5 = .ok (.aload_n 0, 1) := by decide +kernel
theorem dX11_write_6 : decode cX11_write 6 = .ok (.bipush 102, 2) := by decide +kernel
theorem dX11_write_8 : decode cX11_write 8 = .ok (.invokevirtual 220, 3) := by decide +kernel
theorem dX11_write_11 : decode cX11_write 11 = .ok (.return_, 1) := by decide +kernel
theorem dX11_write_12 : decode cX11_write 12 = .ok (.iload_n 1, 1) := by decide +kernel
theorem dX11_write_13 : decode cX11_write 13 = .ok (.iconst 2, 1) := by decide +kernel
theorem dX11_write_14 : decode cX11_write 14 = .ok (.if_icmp .ne 38, 3) := by decide +kernel
theorem dX11_write_17 : decode cX11_write 17 = .ok (.iconst 0, 1) := by decide +kernel
theorem dX11_write_18 : decode cX11_write 18 = .ok (.istore_n 3, 1) := by decide +kernel
theorem dX11_write_19 : decode cX11_write 19 = .ok (.iload_n 3, 1) := by decide +kernel
theorem dX11_write_20 : decode cX11_write 20 = .ok (.aload_n 0, 1) := by decide +kernel
theorem dX11_write_21 : decode cX11_write 21 = .ok (.getfield 101, 3) := by decide +kernel
theorem dX11_write_24 : decode cX11_write 24 = .ok (.iload_n 2, 1) := by decide +kernel
theorem dX11_write_25 : decode cX11_write 25 = .ok (.iaload, 1) := by decide +kernel
theorem dX11_write_26 : decode cX11_write 26 = .ok (.if_icmp .ge 25, 3) := by decide +kernel
theorem dX11_write_29 : decode cX11_write 29 = .ok (.aload_n 0, 1) := by decide +kernel
theorem dX11_write_30 : decode cX11_write 30 = .ok (.aload_n 0, 1) := by decide +kernel
theorem dX11_write_31 : decode cX11_write 31 = .ok (.getfield 105, 3) := by decide +kernel
theorem dX11_write_34 : decode cX11_write 34 = .ok (.sipush 200, 3) := by decide +kernel
theorem dX11_write_37 : decode cX11_write 37 = .ok (.iload_n 2, 1) := by decide +kernel
theorem dX11_write_38 : decode cX11_write 38 = .ok (.imul, 1) := by decide +kernel
theorem dX11_write_39 : decode cX11_write 39 = .ok (.iload_n 3, 1) := by decide +kernel
theorem dX11_write_40 : decode cX11_write 40 = .ok (.iadd, 1) := by decide +kernel
theorem dX11_write_41 : decode cX11_write 41 = .ok (.iaload, 1) := by decide +kernel
theorem dX11_write_42 : decode cX11_write 42 = .ok (.invokevirtual 220, 3) := by decide +kernel
theorem dX11_write_45 : decode cX11_write 45 = .ok (.iinc 3 1, 3) := by decide +kernel
theorem dX11_write_48 : decode cX11_write 48 = .ok (.goto (-29), 3) := by decide +kernel
theorem dX11_write_51 : decode cX11_write 51 = .ok (.return_, 1) := by decide +kernel
theorem dX11_write_52 : decode cX11_write 52 = .ok (.iload_n 2, 1) := by decide +kernel
theorem dX11_write_53 : decode cX11_write 53 = .ok (.ifCond .ge 9, 3) := by decide +kernel
theorem dX11_write_56 : decode cX11_write 56 = .ok (.aload_n 0, 1) := by decide +kernel
theorem dX11_write_57 : decode cX11_write 57 = .ok (.bipush 45, 2) := by decide +kernel
theorem dX11_write_59 : decode cX11_write 59 = .ok (.invokevirtual 220, 3) := by decide +kernel
theorem dX11_write_62 : decode cX11_write 62 = .ok (.iload_n 2, 1) := by decide +kernel
theorem dX11_write_63 : decode cX11_write 63 = .ok (.ifCond .ge 9, 3) := by decide +kernel
theorem dX11_write_66 : decode cX11_write 66 = .ok (.iload_n 2, 1) := by decide +kernel
theorem dX11_write_67 : decode cX11_write 67 = .ok (.i2l, 1) := by decide +kernel
theorem dX11_write_68 : decode cX11_write 68 = .ok (.lneg, 1) := by decide +kernel
theorem dX11_write_69 : decode cX11_write 69 = .ok (.goto 5, 3) := by decide +kernel
theorem dX11_write_72 : decode cX11_write 72 = .ok (.iload_n 2, 1) := by decide +kernel
theorem dX11_write_73 : decode cX11_write 73 = .ok (.i2l, 1) := by decide +kernel
theorem dX11_write_74 : decode cX11_write 74 = .ok (.lstore_n 3, 1) := by decide +kernel
theorem dX11_write_75 : decode cX11_write 75 = .ok (.lconst 1, 1) := by decide +kernel
theorem dX11_write_76 : decode cX11_write 76 = .ok (.lstore 5, 2) := by decide +kernel
theorem dX11_write_78 : decode cX11_write 78 = .ok (.lload_n 3, 1) := by decide +kernel
theorem dX11_write_79 : decode cX11_write 79 = .ok (.lload 5, 2) := by decide +kernel
theorem dX11_write_81 : decode cX11_write 81 = .ok (.ldiv, 1) := by decide +kernel
theorem dX11_write_82 : decode cX11_write 82 = .ok (.ldc2_w 222, 3) := by decide +kernel
theorem dX11_write_85 : decode cX11_write 85 = .ok (.lcmp, 1) := by decide +kernel
theorem dX11_write_86 : decode cX11_write 86 = .ok (.ifCond .le 14, 3) := by decide +kernel
theorem dX11_write_89 : decode cX11_write 89 = .ok (.lload 5, 2) := by decide +kernel
theorem dX11_write_91 : decode cX11_write 91 = .ok (.ldc2_w 224, 3) := by decide +kernel
theorem dX11_write_94 : decode cX11_write 94 = .ok (.lmul, 1) := by decide +kernel
theorem dX11_write_95 : decode cX11_write 95 = .ok (.lstore 5, 2) := by decide +kernel
theorem dX11_write_97 : decode cX11_write 97 = .ok (.goto (-19), 3) := by decide +kernel
theorem dX11_write_100 : decode cX11_write 100 = .ok (.lload 5, 2) := by decide +kernel
theorem dX11_write_102 : decode cX11_write 102 = .ok (.lconst 0, 1) := by decide +kernel
theorem dX11_write_103 : decode cX11_write 103 = .ok (.lcmp, 1) := by decide +kernel
theorem dX11_write_104 : decode cX11_write 104 = .ok (.ifCond .le 30, 3) := by decide +kernel
theorem dX11_write_107 : decode cX11_write 107 = .ok (.aload_n 0, 1) := by decide +kernel
theorem dX11_write_108 : decode cX11_write 108 = .ok (.bipush 48, 2) := by decide +kernel
theorem dX11_write_110 : decode cX11_write 110 = .ok (.lload_n 3, 1) := by decide +kernel
theorem dX11_write_111 : decode cX11_write 111 = .ok (.lload 5, 2) := by decide +kernel
theorem dX11_write_113 : decode cX11_write 113 = .ok (.ldiv, 1) := by decide +kernel
theorem dX11_write_114 : decode cX11_write 114 = .ok (.ldc2_w 224, 3) := by decide +kernel
theorem dX11_write_117 : decode cX11_write 117 = .ok (.lrem, 1) := by decide +kernel
theorem dX11_write_118 : decode cX11_write 118 = .ok (.l2i, 1) := by decide +kernel
theorem dX11_write_119 : decode cX11_write 119 = .ok (.iadd, 1) := by decide +kernel
theorem dX11_write_120 : decode cX11_write 120 = .ok (.invokevirtual 220, 3) := by decide +kernel
theorem dX11_write_123 : decode cX11_write 123 = .ok (.lload 5, 2) := by decide +kernel
theorem dX11_write_125 : decode cX11_write 125 = .ok (.ldc2_w 224, 3) := by decide +kernel
theorem dX11_write_128 : decode cX11_write 128 = .ok (.ldiv, 1) := by decide +kernel
theorem dX11_write_129 : decode cX11_write 129 = .ok (.lstore 5, 2) := by decide +kernel
theorem dX11_write_131 : decode cX11_write 131 = .ok (.goto (-31), 3) := by decide +kernel
theorem dX11_write_134 : decode cX11_write 134 = .ok (.return_, 1) := by decide +kernel
theorem dX11_say_0 : decode cX11_say 0 = .ok (.aload_n 0, 1) := by decide +kernel
theorem dX11_say_1 : decode cX11_say 1 = .ok (.iconst 0, 1) := by decide +kernel
theorem dX11_say_2 : decode cX11_say 2 = .ok (.putfield 217, 3) := by decide +kernel
theorem dX11_say_5 : decode cX11_say 5 = .ok (.aload_n 0, 1) := by decide +kernel
theorem dX11_say_6 : decode cX11_say 6 = .ok (.dup, 1) := by decide +kernel
theorem dX11_say_7 : decode cX11_say 7 = .ok (.getfield 208, 3) := by decide +kernel
theorem dX11_say_10 : decode cX11_say 10 = .ok (.iconst 1, 1) := by decide +kernel
theorem dX11_say_11 : decode cX11_say 11 = .ok (.isub, 1) := by decide +kernel
theorem dX11_say_12 : decode cX11_say 12 = .ok (.putfield 208, 3) := by decide +kernel
theorem dX11_say_15 : decode cX11_say 15 = .ok (.aload_n 0, 1) := by decide +kernel
theorem dX11_say_16 : decode cX11_say 16 = .ok (.aload_n 0, 1) := by decide +kernel
theorem dX11_say_17 : decode cX11_say 17 = .ok (.getfield 74, 3) := by decide +kernel
theorem dX11_say_20 : decode cX11_say 20 = .ok (.aload_n 0, 1) := by decide +kernel
theorem dX11_say_21 : decode cX11_say 21 = .ok (.getfield 208, 3) := by decide +kernel
theorem dX11_say_24 : decode cX11_say 24 = .ok (.iaload, 1) := by decide +kernel
theorem dX11_say_25 : decode cX11_say 25 = .ok (.aload_n 0, 1) := by decide +kernel
theorem dX11_say_26 : decode cX11_say 26 = .ok (.getfield 77, 3) := by decide +kernel
theorem dX11_say_29 : decode cX11_say 29 = .ok (.aload_n 0, 1) := by decide +kernel
theorem dX11_say_30 : decode cX11_say 30 = .ok (.getfield 208, 3) := by decide +kernel
theorem dX11_say_33 : decode cX11_say 33 = .ok (.iaload, 1) := by decide +kernel
theorem dX11_say_34 : decode cX11_say 34 = .ok (.invokevirtual 226, 3) := by decide +kernel
theorem dX11_say_37 : decode cX11_say 37 = .ok (.aload_n 0, 1) := by decide +kernel
theorem dX11_say_38 : decode cX11_say 38 = .ok (.getfield 229, 3) := by decide +kernel
theorem dX11_say_41 : decode cX11_say 41 = .ok (.aload_n 0, 1) := by decide +kernel
theorem dX11_say_42 : decode cX11_say 42 = .ok (.getfield 217, 3) := by decide +kernel
theorem dX11_say_45 : decode cX11_say 45 = .ok (.iadd, 1) := by decide +kernel
theorem dX11_say_46 : decode cX11_say 46 = .ok (.sipush 200, 3) := by decide +kernel
theorem dX11_say_49 : decode cX11_say 49 = .ok (.if_icmp .le 9, 3) := by decide +kernel
theorem dX11_say_52 : decode cX11_say 52 = .ok (.aload_n 0, 1) := by decide +kernel
theorem dX11_say_53 : decode cX11_say 53 = .ok (.iconst 5, 1) := by decide +kernel
theorem dX11_say_54 : decode cX11_say 54 = .ok (.putfield 214, 3) := by decide +kernel
theorem dX11_say_57 : decode cX11_say 57 = .ok (.return_, 1) := by decide +kernel
theorem dX11_say_58 : decode cX11_say 58 = .ok (.iconst 0, 1) := by decide +kernel
theorem dX11_say_59 : decode cX11_say 59 = .ok (.istore_n 1, 1) := by decide +kernel
theorem dX11_say_60 : decode cX11_say 60 = .ok (.iload_n 1, 1) := by decide +kernel
theorem dX11_say_61 : decode cX11_say 61 = .ok (.aload_n 0, 1) := by decide +kernel
theorem dX11_say_62 : decode cX11_say 62 = .ok (.getfield 217, 3) := by decide +kernel
theorem dX11_say_65 : decode cX11_say 65 = .ok (.if_icmp .ge 26, 3) := by decide +kernel
theorem dX11_say_68 : decode cX11_say 68 = .ok (.aload_n 0, 1) := by decide +kernel
theorem dX11_say_69 : decode cX11_say 69 = .ok (.getfield 71, 3) := by decide +kernel
theorem dX11_say_72 : decode cX11_say 72 = .ok (.aload_n 0, 1) := by decide +kernel
theorem dX11_say_73 : decode cX11_say 73 = .ok (.getfield 229, 3) := by decide +kernel
theorem dX11_say_76 : decode cX11_say 76 = .ok (.iload_n 1, 1) := by decide +kernel
theorem dX11_say_77 : decode cX11_say 77 = .ok (.iadd, 1) := by decide +kernel
theorem dX11_say_78 : decode cX11_say 78 = .ok (.aload_n 0, 1) := by decide +kernel
theorem dX11_say_79 : decode cX11_say 79 = .ok (.getfield 120, 3) := by decide +kernel
theorem dX11_say_82 : decode cX11_say 82 = .ok (.iload_n 1, 1) := by decide +kernel
theorem dX11_say_83 : decode cX11_say 83 = .ok (.iaload, 1) := by decide +kernel
theorem dX11_say_84 : decode cX11_say 84 = .ok (.iastore, 1) := by decide +kernel
theorem dX11_say_85 : decode cX11_say 85 = .ok (.iinc 1 1, 3) := by decide +kernel
theorem dX11_say_88 : decode cX11_say 88 = .ok (.goto (-28), 3) := by decide +kernel
theorem dX11_say_91 : decode cX11_say 91 = .ok (.aload_n 0, 1) := by decide +kernel
theorem dX11_say_92 : decode cX11_say 92 = .ok (.dup, 1) := by decide +kernel
theorem dX11_say_93 : decode cX11_say 93 = .ok (.getfield 229, 3) := by decide +kernel
theorem dX11_say_96 : decode cX11_say 96 = .ok (.aload_n 0, 1) := by decide +kernel
theorem dX11_say_97 : decode cX11_say 97 = .ok (.getfield 217, 3) := by decide +kernel
theorem dX11_say_100 : decode cX11_say 100 = .ok (.iadd, 1) := by decide +kernel
theorem dX11_say_101 : decode cX11_say 101 = .ok (.putfield 229, 3) := by decide +kernel
theorem dX11_say_104 : decode cX11_say 104 = .ok (.return_, 1) := by decide +kernel
theorem dX11_join_0 : decode cX11_join 0 = .ok (.aload_n 0, 1) := by decide +kernel
theorem dX11_join_1 : decode cX11_join 1 = .ok (.iconst 0, 1) := by decide +kernel
theorem dX11_join_2 : decode cX11_join 2 = .ok (.putfield 217, 3) := by decide +kernel
theorem dX11_join_5 : decode cX11_join 5 = .ok (.aload_n 0, 1) := by decide +kernel
theorem dX11_join_6 : decode cX11_join 6 = .ok (.iload_n 1, 1) := by decide +kernel
theorem dX11_join_7 : decode cX11_join 7 = .ok (.invokevirtual 149, 3) := by decide +kernel
theorem dX11_join_10 : decode cX11_join 10 = .ok (.istore_n 2, 1) := by decide +kernel
theorem dX11_join_11 : decode cX11_join 11 = .ok (.aload_n 0, 1) := by decide +kernel
theorem dX11_join_12 : decode cX11_join 12 = .ok (.dup, 1) := by decide +kernel
theorem dX11_join_13 : decode cX11_join 13 = .ok (.getfield 208, 3) := by decide +kernel
theorem dX11_join_16 : decode cX11_join 16 = .ok (.iload_n 2, 1) := by decide +kernel
theorem dX11_join_17 : decode cX11_join 17 = .ok (.isub, 1) := by decide +kernel
theorem dX11_join_18 : decode cX11_join 18 = .ok (.putfield 208, 3) := by decide +kernel
theorem dX11_join_21 : decode cX11_join 21 = .ok (.iconst 0, 1) := by decide +kernel
theorem dX11_join_22 : decode cX11_join 22 = .ok (.istore_n 3, 1) := by decide +kernel
theorem dX11_join_23 : decode cX11_join 23 = .ok (.iconst 0, 1) := by decide +kernel
theorem dX11_join_24 : decode cX11_join 24 = .ok (.istore 4, 2) := by decide +kernel
theorem dX11_join_26 : decode cX11_join 26 = .ok (.iload 4, 2) := by decide +kernel
theorem dX11_join_28 : decode cX11_join 28 = .ok (.aload_n 0, 1) := by decide +kernel
theorem dX11_join_29 : decode cX11_join 29 = .ok (.getfield 25, 3) := by decide +kernel
theorem dX11_join_32 : decode cX11_join 32 = .ok (.iload_n 1, 1) := by decide +kernel
theorem dX11_join_33 : decode cX11_join 33 = .ok (.iaload, 1) := by decide +kernel
theorem dX11_join_34 : decode cX11_join 34 = .ok (.if_icmp .ge 71, 3) := by decide +kernel
theorem dX11_join_37 : decode cX11_join 37 = .ok (.aload_n 0, 1) := by decide +kernel
theorem dX11_join_38 : decode cX11_join 38 = .ok (.getfield 28, 3) := by decide +kernel
theorem dX11_join_41 : decode cX11_join 41 = .ok (.bipush 12, 2) := by decide +kernel
theorem dX11_join_43 : decode cX11_join 43 = .ok (.iload_n 1, 1) := by decide +kernel
theorem dX11_join_44 : decode cX11_join 44 = .ok (.imul, 1) := by decide +kernel
theorem dX11_join_45 : decode cX11_join 45 = .ok (.iload 4, 2) := by decide +kernel
theorem dX11_join_47 : decode cX11_join 47 = .ok (.iadd, 1) := by decide +kernel
theorem dX11_join_48 : decode cX11_join 48 = .ok (.iaload, 1) := by decide +kernel
theorem dX11_join_49 : decode cX11_join 49 = .ok (.istore 5, 2) := by decide +kernel
theorem dX11_join_51 : decode cX11_join 51 = .ok (.iload 5, 2) := by decide +kernel
theorem dX11_join_53 : decode cX11_join 53 = .ok (.bipush 27, 2) := by decide +kernel
theorem dX11_join_55 : decode cX11_join 55 = .ok (.if_icmp .ne 35, 3) := by decide +kernel
theorem dX11_join_58 : decode cX11_join 58 = .ok (.aload_n 0, 1) := by decide +kernel
theorem dX11_join_59 : decode cX11_join 59 = .ok (.aload_n 0, 1) := by decide +kernel
theorem dX11_join_60 : decode cX11_join 60 = .ok (.getfield 74, 3) := by decide +kernel
theorem dX11_join_63 : decode cX11_join 63 = .ok (.aload_n 0, 1) := by decide +kernel
theorem dX11_join_64 : decode cX11_join 64 = .ok (.getfield 208, 3) := by decide +kernel
theorem dX11_join_67 : decode cX11_join 67 = .ok (.iload_n 3, 1) := by decide +kernel
theorem dX11_join_68 : decode cX11_join 68 = .ok (.iadd, 1) := by decide +kernel
theorem dX11_join_69 : decode cX11_join 69 = .ok (.iaload, 1) := by decide +kernel
theorem dX11_join_70 : decode cX11_join 70 = .ok (.aload_n 0, 1) := by decide +kernel
theorem dX11_join_71 : decode cX11_join 71 = .ok (.getfield 77, 3) := by decide +kernel
theorem dX11_join_74 : decode cX11_join 74 = .ok (.aload_n 0, 1) := by decide +kernel
theorem dX11_join_75 : decode cX11_join 75 = .ok (.getfield 208, 3) := by decide +kernel
theorem dX11_join_78 : decode cX11_join 78 = .ok (.iload_n 3, 1) := by decide +kernel
theorem dX11_join_79 : decode cX11_join 79 = .ok (.iadd, 1) := by decide +kernel
theorem dX11_join_80 : decode cX11_join 80 = .ok (.iaload, 1) := by decide +kernel
theorem dX11_join_81 : decode cX11_join 81 = .ok (.invokevirtual 226, 3) := by decide +kernel
theorem dX11_join_84 : decode cX11_join 84 = .ok (.iinc 3 1, 3) := by decide +kernel
theorem dX11_join_87 : decode cX11_join 87 = .ok (.goto 12, 3) := by decide +kernel
theorem dX11_join_90 : decode cX11_join 90 = .ok (.aload_n 0, 1) := by decide +kernel
theorem dX11_join_91 : decode cX11_join 91 = .ok (.bipush 96, 2) := by decide +kernel
theorem dX11_join_93 : decode cX11_join 93 = .ok (.iload 5, 2) := by decide +kernel
theorem dX11_join_95 : decode cX11_join 95 = .ok (.iadd, 1) := by decide +kernel
theorem dX11_join_96 : decode cX11_join 96 = .ok (.invokevirtual 220, 3) := by decide +kernel
theorem dX11_join_99 : decode cX11_join 99 = .ok (.iinc 4 1, 3) := by decide +kernel
theorem dX11_join_102 : decode cX11_join 102 = .ok (.goto (-76), 3) := by decide +kernel
theorem dX11_join_105 : decode cX11_join 105 = .ok (.aload_n 0, 1) := by decide +kernel
theorem dX11_join_106 : decode cX11_join 106 = .ok (.getfield 217, 3) := by decide +kernel
theorem dX11_join_109 : decode cX11_join 109 = .ok (.sipush 200, 3) := by decide +kernel
theorem dX11_join_112 : decode cX11_join 112 = .ok (.if_icmp .le 9, 3) := by decide +kernel
theorem dX11_join_115 : decode cX11_join 115 = .ok (.aload_n 0, 1) := by decide +kernel
theorem dX11_join_116 : decode cX11_join 116 = .ok (.iconst 5, 1) := by decide +kernel
theorem dX11_join_117 : decode cX11_join 117 = .ok (.putfield 214, 3) := by decide +kernel
theorem dX11_join_120 : decode cX11_join 120 = .ok (.return_, 1) := by decide +kernel
theorem dX11_join_121 : decode cX11_join 121 = .ok (.iconst 0, 1) := by decide +kernel
theorem dX11_join_122 : decode cX11_join 122 = .ok (.istore 4, 2) := by decide +kernel
theorem dX11_join_124 : decode cX11_join 124 = .ok (.iload 4, 2) := by decide +kernel
theorem dX11_join_126 : decode cX11_join 126 = .ok (.aload_n 0, 1) := by decide +kernel
theorem dX11_join_127 : decode cX11_join 127 = .ok (.getfield 217, 3) := by decide +kernel
theorem dX11_join_130 : decode cX11_join 130 = .ok (.if_icmp .ge 32, 3) := by decide +kernel
theorem dX11_join_133 : decode cX11_join 133 = .ok (.aload_n 0, 1) := by decide +kernel
theorem dX11_join_134 : decode cX11_join 134 = .ok (.getfield 105, 3) := by decide +kernel
theorem dX11_join_137 : decode cX11_join 137 = .ok (.sipush 200, 3) := by decide +kernel
theorem dX11_join_140 : decode cX11_join 140 = .ok (.aload_n 0, 1) := by decide +kernel
theorem dX11_join_141 : decode cX11_join 141 = .ok (.getfield 232, 3) := by decide +kernel
theorem dX11_join_144 : decode cX11_join 144 = .ok (.imul, 1) := by decide +kernel
theorem dX11_join_145 : decode cX11_join 145 = .ok (.iload 4, 2) := by decide +kernel
theorem dX11_join_147 : decode cX11_join 147 = .ok (.iadd, 1) := by decide +kernel
theorem dX11_join_148 : decode cX11_join 148 = .ok (.aload_n 0, 1) := by decide +kernel
theorem dX11_join_149 : decode cX11_join 149 = .ok (.getfield 120, 3) := by decide +kernel
theorem dX11_join_152 : decode cX11_join 152 = .ok (.iload 4, 2) := by decide +kernel
theorem dX11_join_154 : decode cX11_join 154 = .ok (.iaload, 1) := by decide +kernel
theorem dX11_join_155 : decode cX11_join 155 = .ok (.iastore, 1) := by decide +kernel
theorem dX11_join_156 : decode cX11_join 156 = .ok (.iinc 4 1, 3) := by decide +kernel
theorem dX11_join_159 : decode cX11_join 159 = .ok (.goto (-35), 3) := by decide +kernel
theorem dX11_join_162 : decode cX11_join 162 = .ok (.aload_n 0, 1) := by decide +kernel
theorem dX11_join_163 : decode cX11_join 163 = .ok (.getfield 101, 3) := by decide +kernel
theorem dX11_join_166 : decode cX11_join 166 = .ok (.aload_n 0, 1) := by decide +kernel
theorem dX11_join_167 : decode cX11_join 167 = .ok (.getfield 232, 3) := by decide +kernel
theorem dX11_join_170 : decode cX11_join 170 = .ok (.aload_n 0, 1) := by decide +kernel
theorem dX11_join_171 : decode cX11_join 171 = .ok (.getfield 217, 3) := by decide +kernel
theorem dX11_join_174 : decode cX11_join 174 = .ok (.iastore, 1) := by decide +kernel
theorem dX11_join_175 : decode cX11_join 175 = .ok (.aload_n 0, 1) := by decide +kernel
theorem dX11_join_176 : decode cX11_join 176 = .ok (.dup, 1) := by decide +kernel
theorem dX11_join_177 : decode cX11_join 177 = .ok (.getfield 232, 3) := by decide +kernel
theorem dX11_join_180 : decode cX11_join 180 = .ok (.iconst 1, 1) := by decide +kernel
theorem dX11_join_181 : decode cX11_join 181 = .ok (.iadd, 1) := by decide +kernel
theorem dX11_join_182 : decode cX11_join 182 = .ok (.putfield 232, 3) := by decide +kernel
theorem dX11_join_185 : decode cX11_join 185 = .ok (.aload_n 0, 1) := by decide +kernel
theorem dX11_join_186 : decode cX11_join 186 = .ok (.iconst 2, 1) := by decide +kernel
theorem dX11_join_187 : decode cX11_join 187 = .ok (.aload_n 0, 1) := by decide +kernel
theorem dX11_join_188 : decode cX11_join 188 = .ok (.getfield 232, 3) := by decide +kernel
theorem dX11_join_191 : decode cX11_join 191 = .ok (.iconst 1, 1) := by decide +kernel
theorem dX11_join_192 : decode cX11_join 192 = .ok (.isub, 1) := by decide +kernel
theorem dX11_join_193 : decode cX11_join 193 = .ok (.invokevirtual 235, 3) := by decide +kernel
theorem dX11_join_196 : decode cX11_join 196 = .ok (.return_, 1) := by decide +kernel
theorem dX11_close_0 : decode cX11_close 0 = .ok (.aload_n 0, 1) := by decide +kernel
theorem dX11_close_1 : decode cX11_close 1 = .ok (.dup, 1) := by decide +kernel
theorem dX11_close_2 : decode cX11_close 2 = .ok (.getfield 208, 3) := by decide +kernel
theorem dX11_close_5 : decode cX11_close 5 = .ok (.iload_n 2, 1) := by decide +kernel
theorem dX11_close_6 : decode cX11_close 6 = .ok (.isub, 1) := by decide +kernel
theorem dX11_close_7 : decode cX11_close 7 = .ok (.putfield 208, 3) := by decide +kernel
theorem dX11_close_10 : decode cX11_close 10 = .ok (.iconst 0, 1) := by decide +kernel
theorem dX11_close_11 : decode cX11_close 11 = .ok (.istore_n 3, 1) := by decide +kernel
theorem dX11_close_12 : decode cX11_close 12 = .ok (.iload_n 3, 1) := by decide +kernel
theorem dX11_close_13 : decode cX11_close 13 = .ok (.iload_n 2, 1) := by decide +kernel
theorem dX11_close_14 : decode cX11_close 14 = .ok (.if_icmp .ge 57, 3) := by decide +kernel
theorem dX11_close_17 : decode cX11_close 17 = .ok (.aload_n 0, 1) := by decide +kernel
theorem dX11_close_18 : decode cX11_close 18 = .ok (.getfield 114, 3) := by decide +kernel
theorem dX11_close_21 : decode cX11_close 21 = .ok (.iconst 3, 1) := by decide +kernel
theorem dX11_close_22 : decode cX11_close 22 = .ok (.aload_n 0, 1) := by decide +kernel
theorem dX11_close_23 : decode cX11_close 23 = .ok (.getfield 238, 3) := by decide +kernel
theorem dX11_close_26 : decode cX11_close 26 = .ok (.imul, 1) := by decide +kernel
theorem dX11_close_27 : decode cX11_close 27 = .ok (.iload_n 3, 1) := by decide +kernel
theorem dX11_close_28 : decode cX11_close 28 = .ok (.iadd, 1) := by decide +kernel
theorem dX11_close_29 : decode cX11_close 29 = .ok (.aload_n 0, 1) := by decide +kernel
theorem dX11_close_30 : decode cX11_close 30 = .ok (.getfield 74, 3) := by decide +kernel
theorem dX11_close_33 : decode cX11_close 33 = .ok (.aload_n 0, 1) := by decide +kernel
theorem dX11_close_34 : decode cX11_close 34 = .ok (.getfield 208, 3) := by decide +kernel
theorem dX11_close_37 : decode cX11_close 37 = .ok (.iload_n 3, 1) := by decide +kernel
theorem dX11_close_38 : decode cX11_close 38 = .ok (.iadd, 1) := by decide +kernel
theorem dX11_close_39 : decode cX11_close 39 = .ok (.iaload, 1) := by decide +kernel
theorem dX11_close_40 : decode cX11_close 40 = .ok (.iastore, 1) := by decide +kernel
theorem dX11_close_41 : decode cX11_close 41 = .ok (.aload_n 0, 1) := by decide +kernel
theorem dX11_close_42 : decode cX11_close 42 = .ok (.getfield 117, 3) := by decide +kernel
theorem dX11_close_45 : decode cX11_close 45 = .ok (.iconst 3, 1) := by decide +kernel
theorem dX11_close_46 : decode cX11_close 46 = .ok (.aload_n 0, 1) := by decide +kernel
theorem dX11_close_47 : decode cX11_close 47 = .ok (.getfield 238, 3) := by decide +kernel
theorem dX11_close_50 : decode cX11_close 50 = .ok (.imul, 1) := by decide +kernel
theorem dX11_close_51 : decode cX11_close 51 = .ok (.iload_n 3, 1) := by decide +kernel
theorem dX11_close_52 : decode cX11_close 52 = .ok (.iadd, 1) := by decide +kernel
theorem dX11_close_53 : decode cX11_close 53 = .ok (.aload_n 0, 1) := by decide +kernel
theorem dX11_close_54 : decode cX11_close 54 = .ok (.getfield 77, 3) := by decide +kernel
theorem dX11_close_57 : decode cX11_close 57 = .ok (.aload_n 0, 1) := by decide +kernel
theorem dX11_close_58 : decode cX11_close 58 = .ok (.getfield 208, 3) := by decide +kernel
theorem dX11_close_61 : decode cX11_close 61 = .ok (.iload_n 3, 1) := by decide +kernel
theorem dX11_close_62 : decode cX11_close 62 = .ok (.iadd, 1) := by decide +kernel
theorem dX11_close_63 : decode cX11_close 63 = .ok (.iaload, 1) := by decide +kernel
theorem dX11_close_64 : decode cX11_close 64 = .ok (.iastore, 1) := by decide +kernel
theorem dX11_close_65 : decode cX11_close 65 = .ok (.iinc 3 1, 3) := by decide +kernel
theorem dX11_close_68 : decode cX11_close 68 = .ok (.goto (-56), 3) := by decide +kernel
theorem dX11_close_71 : decode cX11_close 71 = .ok (.aload_n 0, 1) := by decide +kernel
theorem dX11_close_72 : decode cX11_close 72 = .ok (.getfield 108, 3) := by decide +kernel
theorem dX11_close_75 : decode cX11_close 75 = .ok (.aload_n 0, 1) := by decide +kernel
theorem dX11_close_76 : decode cX11_close 76 = .ok (.getfield 238, 3) := by decide +kernel
theorem dX11_close_79 : decode cX11_close 79 = .ok (.iload_n 1, 1) := by decide +kernel
theorem dX11_close_80 : decode cX11_close 80 = .ok (.iastore, 1) := by decide +kernel
theorem dX11_close_81 : decode cX11_close 81 = .ok (.aload_n 0, 1) := by decide +kernel
theorem dX11_close_82 : decode cX11_close 82 = .ok (.getfield 111, 3) := by decide +kernel
theorem dX11_close_85 : decode cX11_close 85 = .ok (.aload_n 0, 1) := by decide +kernel
theorem dX11_close_86 : decode cX11_close 86 = .ok (.getfield 238, 3) := by decide +kernel
theorem dX11_close_89 : decode cX11_close 89 = .ok (.iload_n 2, 1) := by decide +kernel
theorem dX11_close_90 : decode cX11_close 90 = .ok (.iastore, 1) := by decide +kernel
theorem dX11_close_91 : decode cX11_close 91 = .ok (.aload_n 0, 1) := by decide +kernel
theorem dX11_close_92 : decode cX11_close 92 = .ok (.dup, 1) := by decide +kernel
theorem dX11_close_93 : decode cX11_close 93 = .ok (.getfield 238, 3) := by decide +kernel
theorem dX11_close_96 : decode cX11_close 96 = .ok (.iconst 1, 1) := by decide +kernel
theorem dX11_close_97 : decode cX11_close 97 = .ok (.iadd, 1) := by decide +kernel
theorem dX11_close_98 : decode cX11_close 98 = .ok (.putfield 238, 3) := by decide +kernel
theorem dX11_close_101 : decode cX11_close 101 = .ok (.aload_n 0, 1) := by decide +kernel
theorem dX11_close_102 : decode cX11_close 102 = .ok (.iconst 3, 1) := by decide +kernel
theorem dX11_close_103 : decode cX11_close 103 = .ok (.aload_n 0, 1) := by decide +kernel
theorem dX11_close_104 : decode cX11_close 104 = .ok (.getfield 238, 3) := by decide +kernel
theorem dX11_close_107 : decode cX11_close 107 = .ok (.iconst 1, 1) := by decide +kernel
theorem dX11_close_108 : decode cX11_close 108 = .ok (.isub, 1) := by decide +kernel
theorem dX11_close_109 : decode cX11_close 109 = .ok (.invokevirtual 235, 3) := by decide +kernel
theorem dX11_close_112 : decode cX11_close 112 = .ok (.return_, 1) := by decide +kernel
theorem dX11_apply_0 : decode cX11_apply 0 = .ok (.aload_n 0, 1) := by decide +kernel
theorem dX11_apply_1 : decode cX11_apply 1 = .ok (.getfield 208, 3) := by decide +kernel
theorem dX11_apply_4 : decode cX11_apply 4 = .ok (.iload_n 1, 1) := by decide +kernel
theorem dX11_apply_5 : decode cX11_apply 5 = .ok (.isub, 1) := by decide +kernel
theorem dX11_apply_6 : decode cX11_apply 6 = .ok (.iconst 1, 1) := by decide +kernel
theorem dX11_apply_7 : decode cX11_apply 7 = .ok (.isub, 1) := by decide +kernel
theorem dX11_apply_8 : decode cX11_apply 8 = .ok (.istore_n 2, 1) := by decide +kernel
theorem dX11_apply_9 : decode cX11_apply 9 = .ok (.aload_n 0, 1) := by decide +kernel
theorem dX11_apply_10 : decode cX11_apply 10 = .ok (.getfield 74, 3) := by decide +kernel
theorem dX11_apply_13 : decode cX11_apply 13 = .ok (.iload_n 2, 1) := by decide +kernel
theorem dX11_apply_14 : decode cX11_apply 14 = .ok (.iaload, 1) := by decide +kernel
theorem dX11_apply_15 : decode cX11_apply 15 = .ok (.iconst 3, 1) := by decide +kernel
theorem dX11_apply_16 : decode cX11_apply 16 = .ok (.if_icmp .eq 9, 3) := by decide +kernel
theorem dX11_apply_19 : decode cX11_apply 19 = .ok (.aload_n 0, 1) := by decide +kernel
theorem dX11_apply_20 : decode cX11_apply 20 = .ok (.iconst 1, 1) := by decide +kernel
theorem dX11_apply_21 : decode cX11_apply 21 = .ok (.putfield 214, 3) := by decide +kernel
theorem dX11_apply_24 : decode cX11_apply 24 = .ok (.return_, 1) := by decide +kernel
theorem dX11_apply_25 : decode cX11_apply 25 = .ok (.aload_n 0, 1) := by decide +kernel
theorem dX11_apply_26 : decode cX11_apply 26 = .ok (.getfield 77, 3) := by decide +kernel
theorem dX11_apply_29 : decode cX11_apply 29 = .ok (.iload_n 2, 1) := by decide +kernel
theorem dX11_apply_30 : decode cX11_apply 30 = .ok (.iaload, 1) := by decide +kernel
theorem dX11_apply_31 : decode cX11_apply 31 = .ok (.istore_n 3, 1) := by decide +kernel
theorem dX11_apply_32 : decode cX11_apply 32 = .ok (.aload_n 0, 1) := by decide +kernel
theorem dX11_apply_33 : decode cX11_apply 33 = .ok (.getfield 111, 3) := by decide +kernel
theorem dX11_apply_36 : decode cX11_apply 36 = .ok (.iload_n 3, 1) := by decide +kernel
theorem dX11_apply_37 : decode cX11_apply 37 = .ok (.iaload, 1) := by decide +kernel
theorem dX11_apply_38 : decode cX11_apply 38 = .ok (.istore 4, 2) := by decide +kernel
theorem dX11_apply_40 : decode cX11_apply 40 = .ok (.iload 4, 2) := by decide +kernel
theorem dX11_apply_42 : decode cX11_apply 42 = .ok (.iload_n 1, 1) := by decide +kernel
theorem dX11_apply_43 : decode cX11_apply 43 = .ok (.iadd, 1) := by decide +kernel
theorem dX11_apply_44 : decode cX11_apply 44 = .ok (.aload_n 0, 1) := by decide +kernel
theorem dX11_apply_45 : decode cX11_apply 45 = .ok (.getfield 7, 3) := by decide +kernel
theorem dX11_apply_48 : decode cX11_apply 48 = .ok (.aload_n 0, 1) := by decide +kernel
theorem dX11_apply_49 : decode cX11_apply 49 = .ok (.getfield 108, 3) := by decide +kernel
theorem dX11_apply_52 : decode cX11_apply 52 = .ok (.iload_n 3, 1) := by decide +kernel
theorem dX11_apply_53 : decode cX11_apply 53 = .ok (.iaload, 1) := by decide +kernel
theorem dX11_apply_54 : decode cX11_apply 54 = .ok (.iaload, 1) := by decide +kernel
theorem dX11_apply_55 : decode cX11_apply 55 = .ok (.if_icmp .eq 9, 3) := by decide +kernel
theorem dX11_apply_58 : decode cX11_apply 58 = .ok (.aload_n 0, 1) := by decide +kernel
theorem dX11_apply_59 : decode cX11_apply 59 = .ok (.iconst 2, 1) := by decide +kernel
theorem dX11_apply_60 : decode cX11_apply 60 = .ok (.putfield 214, 3) := by decide +kernel
theorem dX11_apply_63 : decode cX11_apply 63 = .ok (.return_, 1) := by decide +kernel
theorem dX11_apply_64 : decode cX11_apply 64 = .ok (.aload_n 0, 1) := by decide +kernel
theorem dX11_apply_65 : decode cX11_apply 65 = .ok (.iload_n 1, 1) := by decide +kernel
theorem dX11_apply_66 : decode cX11_apply 66 = .ok (.iload 4, 2) := by decide +kernel
theorem dX11_apply_68 : decode cX11_apply 68 = .ok (.invokevirtual 241, 3) := by decide +kernel
theorem dX11_apply_71 : decode cX11_apply 71 = .ok (.aload_n 0, 1) := by decide +kernel
theorem dX11_apply_72 : decode cX11_apply 72 = .ok (.dup, 1) := by decide +kernel
theorem dX11_apply_73 : decode cX11_apply 73 = .ok (.getfield 208, 3) := by decide +kernel
theorem dX11_apply_76 : decode cX11_apply 76 = .ok (.iconst 1, 1) := by decide +kernel
theorem dX11_apply_77 : decode cX11_apply 77 = .ok (.isub, 1) := by decide +kernel
theorem dX11_apply_78 : decode cX11_apply 78 = .ok (.putfield 208, 3) := by decide +kernel
theorem dX11_apply_81 : decode cX11_apply 81 = .ok (.iconst 0, 1) := by decide +kernel
theorem dX11_apply_82 : decode cX11_apply 82 = .ok (.istore 5, 2) := by decide +kernel
theorem dX11_apply_84 : decode cX11_apply 84 = .ok (.iload 5, 2) := by decide +kernel
theorem dX11_apply_86 : decode cX11_apply 86 = .ok (.iload 4, 2) := by decide +kernel
theorem dX11_apply_88 : decode cX11_apply 88 = .ok (.if_icmp .ge 45, 3) := by decide +kernel
theorem dX11_apply_91 : decode cX11_apply 91 = .ok (.aload_n 0, 1) := by decide +kernel
theorem dX11_apply_92 : decode cX11_apply 92 = .ok (.getfield 95, 3) := by decide +kernel
theorem dX11_apply_95 : decode cX11_apply 95 = .ok (.iload 5, 2) := by decide +kernel
theorem dX11_apply_97 : decode cX11_apply 97 = .ok (.aload_n 0, 1) := by decide +kernel
theorem dX11_apply_98 : decode cX11_apply 98 = .ok (.getfield 114, 3) := by decide +kernel
theorem dX11_apply_101 : decode cX11_apply 101 = .ok (.iconst 3, 1) := by decide +kernel
theorem dX11_apply_102 : decode cX11_apply 102 = .ok (.iload_n 3, 1) := by decide +kernel
theorem dX11_apply_103 : decode cX11_apply 103 = .ok (.imul, 1) := by decide +kernel
theorem dX11_apply_104 : decode cX11_apply 104 = .ok (.iload 5, 2) := by decide +kernel
theorem dX11_apply_106 : decode cX11_apply 106 = .ok (.iadd, 1) := by decide +kernel
theorem dX11_apply_107 : decode cX11_apply 107 = .ok (.iaload, 1) := by decide +kernel
theorem dX11_apply_108 : decode cX11_apply 108 = .ok (.iastore, 1) := by decide +kernel
theorem dX11_apply_109 : decode cX11_apply 109 = .ok (.aload_n 0, 1) := by decide +kernel
theorem dX11_apply_110 : decode cX11_apply 110 = .ok (.getfield 98, 3) := by decide +kernel
theorem dX11_apply_113 : decode cX11_apply 113 = .ok (.iload 5, 2) := by decide +kernel
theorem dX11_apply_115 : decode cX11_apply 115 = .ok (.aload_n 0, 1) := by decide +kernel
theorem dX11_apply_116 : decode cX11_apply 116 = .ok (.getfield 117, 3) := by decide +kernel
theorem dX11_apply_119 : decode cX11_apply 119 = .ok (.iconst 3, 1) := by decide +kernel
theorem dX11_apply_120 : decode cX11_apply 120 = .ok (.iload_n 3, 1) := by decide +kernel
theorem dX11_apply_121 : decode cX11_apply 121 = .ok (.imul, 1) := by decide +kernel
theorem dX11_apply_122 : decode cX11_apply 122 = .ok (.iload 5, 2) := by decide +kernel
theorem dX11_apply_124 : decode cX11_apply 124 = .ok (.iadd, 1) := by decide +kernel
theorem dX11_apply_125 : decode cX11_apply 125 = .ok (.iaload, 1) := by decide +kernel
theorem dX11_apply_126 : decode cX11_apply 126 = .ok (.iastore, 1) := by decide +kernel
theorem dX11_apply_127 : decode cX11_apply 127 = .ok (.iinc 5 1, 3) := by decide +kernel
theorem dX11_apply_130 : decode cX11_apply 130 = .ok (.goto (-46), 3) := by decide +kernel
theorem dX11_apply_133 : decode cX11_apply 133 = .ok (.aload_n 0, 1) := by decide +kernel
theorem dX11_apply_134 : decode cX11_apply 134 = .ok (.aload_n 0, 1) := by decide +kernel
theorem dX11_apply_135 : decode cX11_apply 135 = .ok (.getfield 108, 3) := by decide +kernel
theorem dX11_apply_138 : decode cX11_apply 138 = .ok (.iload_n 3, 1) := by decide +kernel
theorem dX11_apply_139 : decode cX11_apply 139 = .ok (.iaload, 1) := by decide +kernel
theorem dX11_apply_140 : decode cX11_apply 140 = .ok (.iload 4, 2) := by decide +kernel
theorem dX11_apply_142 : decode cX11_apply 142 = .ok (.iload_n 1, 1) := by decide +kernel
theorem dX11_apply_143 : decode cX11_apply 143 = .ok (.iadd, 1) := by decide +kernel
theorem dX11_apply_144 : decode cX11_apply 144 = .ok (.invokevirtual 244, 3) := by decide +kernel
theorem dX11_apply_147 : decode cX11_apply 147 = .ok (.return_, 1) := by decide +kernel
theorem dX11_reckon_0 : decode cX11_reckon 0 = .ok (.aload_n 0, 1) := by decide +kernel
theorem dX11_reckon_1 : decode cX11_reckon 1 = .ok (.dup, 1) := by decide +kernel
theorem dX11_reckon_2 : decode cX11_reckon 2 = .ok (.getfield 208, 3) := by decide +kernel
theorem dX11_reckon_5 : decode cX11_reckon 5 = .ok (.iconst 2, 1) := by decide +kernel
theorem dX11_reckon_6 : decode cX11_reckon 6 = .ok (.isub, 1) := by decide +kernel
theorem dX11_reckon_7 : decode cX11_reckon 7 = .ok (.putfield 208, 3) := by decide +kernel
theorem dX11_reckon_10 : decode cX11_reckon 10 = .ok (.aload_n 0, 1) := by decide +kernel
theorem dX11_reckon_11 : decode cX11_reckon 11 = .ok (.getfield 74, 3) := by decide +kernel
theorem dX11_reckon_14 : decode cX11_reckon 14 = .ok (.aload_n 0, 1) := by decide +kernel
theorem dX11_reckon_15 : decode cX11_reckon 15 = .ok (.getfield 208, 3) := by decide +kernel
theorem dX11_reckon_18 : decode cX11_reckon 18 = .ok (.iaload, 1) := by decide +kernel
theorem dX11_reckon_19 : decode cX11_reckon 19 = .ok (.iconst 1, 1) := by decide +kernel
theorem dX11_reckon_20 : decode cX11_reckon 20 = .ok (.if_icmp .ne 18, 3) := by decide +kernel
theorem dX11_reckon_23 : decode cX11_reckon 23 = .ok (.aload_n 0, 1) := by decide +kernel
theorem dX11_reckon_24 : decode cX11_reckon 24 = .ok (.getfield 74, 3) := by decide +kernel
theorem dX11_reckon_27 : decode cX11_reckon 27 = .ok (.aload_n 0, 1) := by decide +kernel
theorem dX11_reckon_28 : decode cX11_reckon 28 = .ok (.getfield 208, 3) := by decide +kernel
theorem dX11_reckon_31 : decode cX11_reckon 31 = .ok (.iconst 1, 1) := by decide +kernel
theorem dX11_reckon_32 : decode cX11_reckon 32 = .ok (.iadd, 1) := by decide +kernel
theorem dX11_reckon_33 : decode cX11_reckon 33 = .ok (.iaload, 1) := by decide +kernel
theorem dX11_reckon_34 : decode cX11_reckon 34 = .ok (.iconst 1, 1) := by decide +kernel
theorem dX11_reckon_35 : decode cX11_reckon 35 = .ok (.if_icmp .eq 9, 3) := by decide +kernel
theorem dX11_reckon_38 : decode cX11_reckon 38 = .ok (.aload_n 0, 1) := by decide +kernel
theorem dX11_reckon_39 : decode cX11_reckon 39 = .ok (.iconst 1, 1) := by decide +kernel
theorem dX11_reckon_40 : decode cX11_reckon 40 = .ok (.putfield 214, 3) := by decide +kernel
theorem dX11_reckon_43 : decode cX11_reckon 43 = .ok (.return_, 1) := by decide +kernel
theorem dX11_reckon_44 : decode cX11_reckon 44 = .ok (.aload_n 0, 1) := by decide +kernel
theorem dX11_reckon_45 : decode cX11_reckon 45 = .ok (.getfield 77, 3) := by decide +kernel
theorem dX11_reckon_48 : decode cX11_reckon 48 = .ok (.aload_n 0, 1) := by decide +kernel
theorem dX11_reckon_49 : decode cX11_reckon 49 = .ok (.getfield 208, 3) := by decide +kernel
theorem dX11_reckon_52 : decode cX11_reckon 52 = .ok (.iaload, 1) := by decide +kernel
theorem dX11_reckon_53 : decode cX11_reckon 53 = .ok (.istore_n 2, 1) := by decide +kernel
theorem dX11_reckon_54 : decode cX11_reckon 54 = .ok (.aload_n 0, 1) := by decide +kernel
theorem dX11_reckon_55 : decode cX11_reckon 55 = .ok (.getfield 77, 3) := by decide +kernel
theorem dX11_reckon_58 : decode cX11_reckon 58 = .ok (.aload_n 0, 1) := by decide +kernel
theorem dX11_reckon_59 : decode cX11_reckon 59 = .ok (.getfield 208, 3) := by decide +kernel
theorem dX11_reckon_62 : decode cX11_reckon 62 = .ok (.iconst 1, 1) := by decide +kernel
theorem dX11_reckon_63 : decode cX11_reckon 63 = .ok (.iadd, 1) := by decide +kernel
theorem dX11_reckon_64 : decode cX11_reckon 64 = .ok (.iaload, 1) := by decide +kernel
theorem dX11_reckon_65 : decode cX11_reckon 65 = .ok (.istore_n 3, 1) := by decide +kernel
theorem dX11_reckon_66 : decode cX11_reckon 66 = .ok (.aload_n 0, 1) := by decide +kernel
theorem dX11_reckon_67 : decode cX11_reckon 67 = .ok (.iconst 1, 1) := by decide +kernel
theorem dX11_reckon_68 : decode cX11_reckon 68 = .ok (.iload_n 1, 1) := by decide +kernel
theorem dX11_reckon_69 : decode cX11_reckon 69 = .ok (.iconst 3, 1) := by decide +kernel
theorem dX11_reckon_70 : decode cX11_reckon 70 = .ok (.if_icmp .ne 9, 3) := by decide +kernel
theorem dX11_reckon_73 : decode cX11_reckon 73 = .ok (.iload_n 2, 1) := by decide +kernel
theorem dX11_reckon_74 : decode cX11_reckon 74 = .ok (.iload_n 3, 1) := by decide +kernel
theorem dX11_reckon_75 : decode cX11_reckon 75 = .ok (.iadd, 1) := by decide +kernel
theorem dX11_reckon_76 : decode cX11_reckon 76 = .ok (.goto 17, 3) := by decide +kernel
theorem dX11_reckon_79 : decode cX11_reckon 79 = .ok (.iload_n 1, 1) := by decide +kernel
theorem dX11_reckon_80 : decode cX11_reckon 80 = .ok (.iconst 4, 1) := by decide +kernel
theorem dX11_reckon_81 : decode cX11_reckon 81 = .ok (.if_icmp .ne 9, 3) := by decide +kernel
theorem dX11_reckon_84 : decode cX11_reckon 84 = .ok (.iload_n 2, 1) := by decide +kernel
theorem dX11_reckon_85 : decode cX11_reckon 85 = .ok (.iload_n 3, 1) := by decide +kernel
theorem dX11_reckon_86 : decode cX11_reckon 86 = .ok (.isub, 1) := by decide +kernel
theorem dX11_reckon_87 : decode cX11_reckon 87 = .ok (.goto 6, 3) := by decide +kernel
theorem dX11_reckon_90 : decode cX11_reckon 90 = .ok (.iload_n 2, 1) := by decide +kernel
theorem dX11_reckon_91 : decode cX11_reckon 91 = .ok (.iload_n 3, 1) := by decide +kernel
theorem dX11_reckon_92 : decode cX11_reckon 92 = .ok (.imul, 1) := by decide +kernel
theorem dX11_reckon_93 : decode cX11_reckon 93 = .ok (.invokevirtual 235, 3) := by decide +kernel
theorem dX11_reckon_96 : decode cX11_reckon 96 = .ok (.return_, 1) := by decide +kernel
theorem dX11_leave_0 : decode cX11_leave 0 = .ok (.aload_n 0, 1) := by decide +kernel
theorem dX11_leave_1 : decode cX11_leave 1 = .ok (.dup, 1) := by decide +kernel
theorem dX11_leave_2 : decode cX11_leave 2 = .ok (.getfield 208, 3) := by decide +kernel
theorem dX11_leave_5 : decode cX11_leave 5 = .ok (.iconst 1, 1) := by decide +kernel
theorem dX11_leave_6 : decode cX11_leave 6 = .ok (.isub, 1) := by decide +kernel
theorem dX11_leave_7 : decode cX11_leave 7 = .ok (.putfield 208, 3) := by decide +kernel
theorem dX11_leave_10 : decode cX11_leave 10 = .ok (.aload_n 0, 1) := by decide +kernel
theorem dX11_leave_11 : decode cX11_leave 11 = .ok (.getfield 74, 3) := by decide +kernel
theorem dX11_leave_14 : decode cX11_leave 14 = .ok (.aload_n 0, 1) := by decide +kernel
theorem dX11_leave_15 : decode cX11_leave 15 = .ok (.getfield 208, 3) := by decide +kernel
theorem dX11_leave_18 : decode cX11_leave 18 = .ok (.iaload, 1) := by decide +kernel
theorem dX11_leave_19 : decode cX11_leave 19 = .ok (.istore_n 1, 1) := by decide +kernel
theorem dX11_leave_20 : decode cX11_leave 20 = .ok (.aload_n 0, 1) := by decide +kernel
theorem dX11_leave_21 : decode cX11_leave 21 = .ok (.getfield 77, 3) := by decide +kernel
theorem dX11_leave_24 : decode cX11_leave 24 = .ok (.aload_n 0, 1) := by decide +kernel
theorem dX11_leave_25 : decode cX11_leave 25 = .ok (.getfield 208, 3) := by decide +kernel
theorem dX11_leave_28 : decode cX11_leave 28 = .ok (.iaload, 1) := by decide +kernel
theorem dX11_leave_29 : decode cX11_leave 29 = .ok (.istore_n 2, 1) := by decide +kernel
theorem dX11_leave_30 : decode cX11_leave 30 = .ok (.aload_n 0, 1) := by decide +kernel
theorem dX11_leave_31 : decode cX11_leave 31 = .ok (.aload_n 0, 1) := by decide +kernel
theorem dX11_leave_32 : decode cX11_leave 32 = .ok (.getfield 86, 3) := by decide +kernel
theorem dX11_leave_35 : decode cX11_leave 35 = .ok (.aload_n 0, 1) := by decide +kernel
theorem dX11_leave_36 : decode cX11_leave 36 = .ok (.getfield 211, 3) := by decide +kernel
theorem dX11_leave_39 : decode cX11_leave 39 = .ok (.iaload, 1) := by decide +kernel
theorem dX11_leave_40 : decode cX11_leave 40 = .ok (.putfield 208, 3) := by decide +kernel
theorem dX11_leave_43 : decode cX11_leave 43 = .ok (.aload_n 0, 1) := by decide +kernel
theorem dX11_leave_44 : decode cX11_leave 44 = .ok (.dup, 1) := by decide +kernel
theorem dX11_leave_45 : decode cX11_leave 45 = .ok (.getfield 211, 3) := by decide +kernel
theorem dX11_leave_48 : decode cX11_leave 48 = .ok (.iconst 1, 1) := by decide +kernel
theorem dX11_leave_49 : decode cX11_leave 49 = .ok (.isub, 1) := by decide +kernel
theorem dX11_leave_50 : decode cX11_leave 50 = .ok (.putfield 211, 3) := by decide +kernel
theorem dX11_leave_53 : decode cX11_leave 53 = .ok (.aload_n 0, 1) := by decide +kernel
theorem dX11_leave_54 : decode cX11_leave 54 = .ok (.getfield 211, 3) := by decide +kernel
theorem dX11_leave_57 : decode cX11_leave 57 = .ok (.ifCond .ne 16, 3) := by decide +kernel
theorem dX11_leave_60 : decode cX11_leave 60 = .ok (.aload_n 0, 1) := by decide +kernel
theorem dX11_leave_61 : decode cX11_leave 61 = .ok (.iload_n 1, 1) := by decide +kernel
theorem dX11_leave_62 : decode cX11_leave 62 = .ok (.putfield 247, 3) := by decide +kernel
theorem dX11_leave_65 : decode cX11_leave 65 = .ok (.aload_n 0, 1) := by decide +kernel
theorem dX11_leave_66 : decode cX11_leave 66 = .ok (.iload_n 2, 1) := by decide +kernel
theorem dX11_leave_67 : decode cX11_leave 67 = .ok (.putfield 250, 3) := by decide +kernel
theorem dX11_leave_70 : decode cX11_leave 70 = .ok (.goto 9, 3) := by decide +kernel
theorem dX11_leave_73 : decode cX11_leave 73 = .ok (.aload_n 0, 1) := by decide +kernel
theorem dX11_leave_74 : decode cX11_leave 74 = .ok (.iload_n 1, 1) := by decide +kernel
theorem dX11_leave_75 : decode cX11_leave 75 = .ok (.iload_n 2, 1) := by decide +kernel
theorem dX11_leave_76 : decode cX11_leave 76 = .ok (.invokevirtual 235, 3) := by decide +kernel
theorem dX11_leave_79 : decode cX11_leave 79 = .ok (.return_, 1) := by decide +kernel
theorem dX11_step_0 : decode cX11_step 0 = .ok (.bipush 40, 2) := by decide +kernel
theorem dX11_step_2 : decode cX11_step 2 = .ok (.aload_n 0, 1) := by decide +kernel
theorem dX11_step_3 : decode cX11_step 3 = .ok (.getfield 80, 3) := by decide +kernel
theorem dX11_step_6 : decode cX11_step 6 = .ok (.aload_n 0, 1) := by decide +kernel
theorem dX11_step_7 : decode cX11_step 7 = .ok (.getfield 211, 3) := by decide +kernel
theorem dX11_step_10 : decode cX11_step 10 = .ok (.iaload, 1) := by decide +kernel
theorem dX11_step_11 : decode cX11_step 11 = .ok (.imul, 1) := by decide +kernel
theorem dX11_step_12 : decode cX11_step 12 = .ok (.aload_n 0, 1) := by decide +kernel
theorem dX11_step_13 : decode cX11_step 13 = .ok (.getfield 83, 3) := by decide +kernel
theorem dX11_step_16 : decode cX11_step 16 = .ok (.aload_n 0, 1) := by decide +kernel
theorem dX11_step_17 : decode cX11_step 17 = .ok (.getfield 211, 3) := by decide +kernel
theorem dX11_step_20 : decode cX11_step 20 = .ok (.iaload, 1) := by decide +kernel
theorem dX11_step_21 : decode cX11_step 21 = .ok (.iadd, 1) := by decide +kernel
theorem dX11_step_22 : decode cX11_step 22 = .ok (.istore_n 1, 1) := by decide +kernel
theorem dX11_step_23 : decode cX11_step 23 = .ok (.aload_n 0, 1) := by decide +kernel
theorem dX11_step_24 : decode cX11_step 24 = .ok (.getfield 19, 3) := by decide +kernel
theorem dX11_step_27 : decode cX11_step 27 = .ok (.iload_n 1, 1) := by decide +kernel
theorem dX11_step_28 : decode cX11_step 28 = .ok (.iaload, 1) := by decide +kernel
theorem dX11_step_29 : decode cX11_step 29 = .ok (.istore_n 2, 1) := by decide +kernel
theorem dX11_step_30 : decode cX11_step 30 = .ok (.aload_n 0, 1) := by decide +kernel
theorem dX11_step_31 : decode cX11_step 31 = .ok (.getfield 83, 3) := by decide +kernel
theorem dX11_step_34 : decode cX11_step 34 = .ok (.aload_n 0, 1) := by decide +kernel
theorem dX11_step_35 : decode cX11_step 35 = .ok (.getfield 211, 3) := by decide +kernel
theorem dX11_step_38 : decode cX11_step 38 = .ok (.dup2, 1) := by decide +kernel
theorem dX11_step_39 : decode cX11_step 39 = .ok (.iaload, 1) := by decide +kernel
theorem dX11_step_40 : decode cX11_step 40 = .ok (.iconst 1, 1) := by decide +kernel
theorem dX11_step_41 : decode cX11_step 41 = .ok (.iadd, 1) := by decide +kernel
theorem dX11_step_42 : decode cX11_step 42 = .ok (.iastore, 1) := by decide +kernel
theorem dX11_step_43 : decode cX11_step 43 = .ok (.aload_n 0, 1) := by decide +kernel
theorem dX11_step_44 : decode cX11_step 44 = .ok (.getfield 16, 3) := by decide +kernel
theorem dX11_step_47 : decode cX11_step 47 = .ok (.iload_n 1, 1) := by decide +kernel
theorem dX11_step_48 : decode cX11_step 48 = .ok (.iaload, 1) := by decide +kernel
theorem dX11_step_49 : decode cX11_step 49 = .ok (.tableswitch 383 0 14 #[75, 84, 119, 178, 178, 178, 191, 220, 233, 246, 322, 347, 354, 361, 375], 75) := by decide +kernel
theorem dX11_step_124 : decode cX11_step 124 = .ok (.aload_n 0, 1) := by decide +kernel
theorem dX11_step_125 : decode cX11_step 125 = .ok (.iconst 1, 1) := by decide +kernel
theorem dX11_step_126 : decode cX11_step 126 = .ok (.iload_n 2, 1) := by decide +kernel
theorem dX11_step_127 : decode cX11_step 127 = .ok (.invokevirtual 235, 3) := by decide +kernel
theorem dX11_step_130 : decode cX11_step 130 = .ok (.goto 307, 3) := by decide +kernel
theorem dX11_step_133 : decode cX11_step 133 = .ok (.aload_n 0, 1) := by decide +kernel
theorem dX11_step_134 : decode cX11_step 134 = .ok (.aload_n 0, 1) := by decide +kernel
theorem dX11_step_135 : decode cX11_step 135 = .ok (.getfield 89, 3) := by decide +kernel
theorem dX11_step_138 : decode cX11_step 138 = .ok (.bipush 8, 2) := by decide +kernel
theorem dX11_step_140 : decode cX11_step 140 = .ok (.aload_n 0, 1) := by decide +kernel
theorem dX11_step_141 : decode cX11_step 141 = .ok (.getfield 211, 3) := by decide +kernel
theorem dX11_step_144 : decode cX11_step 144 = .ok (.imul, 1) := by decide +kernel
theorem dX11_step_145 : decode cX11_step 145 = .ok (.iload_n 2, 1) := by decide +kernel
theorem dX11_step_146 : decode cX11_step 146 = .ok (.iadd, 1) := by decide +kernel
theorem dX11_step_147 : decode cX11_step 147 = .ok (.iaload, 1) := by decide +kernel
theorem dX11_step_148 : decode cX11_step 148 = .ok (.aload_n 0, 1) := by decide +kernel
theorem dX11_step_149 : decode cX11_step 149 = .ok (.getfield 92, 3) := by decide +kernel
theorem dX11_step_152 : decode cX11_step 152 = .ok (.bipush 8, 2) := by decide +kernel
theorem dX11_step_154 : decode cX11_step 154 = .ok (.aload_n 0, 1) := by decide +kernel
theorem dX11_step_155 : decode cX11_step 155 = .ok (.getfield 211, 3) := by decide +kernel
theorem dX11_step_158 : decode cX11_step 158 = .ok (.imul, 1) := by decide +kernel
theorem dX11_step_159 : decode cX11_step 159 = .ok (.iload_n 2, 1) := by decide +kernel
theorem dX11_step_160 : decode cX11_step 160 = .ok (.iadd, 1) := by decide +kernel
theorem dX11_step_161 : decode cX11_step 161 = .ok (.iaload, 1) := by decide +kernel
theorem dX11_step_162 : decode cX11_step 162 = .ok (.invokevirtual 235, 3) := by decide +kernel
theorem dX11_step_165 : decode cX11_step 165 = .ok (.goto 272, 3) := by decide +kernel
theorem dX11_step_168 : decode cX11_step 168 = .ok (.aload_n 0, 1) := by decide +kernel
theorem dX11_step_169 : decode cX11_step 169 = .ok (.dup, 1) := by decide +kernel
theorem dX11_step_170 : decode cX11_step 170 = .ok (.getfield 208, 3) := by decide +kernel
theorem dX11_step_173 : decode cX11_step 173 = .ok (.iconst 1, 1) := by decide +kernel
theorem dX11_step_174 : decode cX11_step 174 = .ok (.isub, 1) := by decide +kernel
theorem dX11_step_175 : decode cX11_step 175 = .ok (.putfield 208, 3) := by decide +kernel
theorem dX11_step_178 : decode cX11_step 178 = .ok (.aload_n 0, 1) := by decide +kernel
theorem dX11_step_179 : decode cX11_step 179 = .ok (.getfield 89, 3) := by decide +kernel
theorem dX11_step_182 : decode cX11_step 182 = .ok (.bipush 8, 2) := by decide +kernel
theorem dX11_step_184 : decode cX11_step 184 = .ok (.aload_n 0, 1) := by decide +kernel
theorem dX11_step_185 : decode cX11_step 185 = .ok (.getfield 211, 3) := by decide +kernel
theorem dX11_step_188 : decode cX11_step 188 = .ok (.imul, 1) := by decide +kernel
theorem dX11_step_189 : decode cX11_step 189 = .ok (.iload_n 2, 1) := by decide +kernel
theorem dX11_step_190 : decode cX11_step 190 = .ok (.iadd, 1) := by decide +kernel
theorem dX11_step_191 : decode cX11_step 191 = .ok (.aload_n 0, 1) := by decide +kernel
theorem dX11_step_192 : decode cX11_step 192 = .ok (.getfield 74, 3) := by decide +kernel
theorem dX11_step_195 : decode cX11_step 195 = .ok (.aload_n 0, 1) := by decide +kernel
theorem dX11_step_196 : decode cX11_step 196 = .ok (.getfield 208, 3) := by decide +kernel
theorem dX11_step_199 : decode cX11_step 199 = .ok (.iaload, 1) := by decide +kernel
theorem dX11_step_200 : decode cX11_step 200 = .ok (.iastore, 1) := by decide +kernel
theorem dX11_step_201 : decode cX11_step 201 = .ok (.aload_n 0, 1) := by decide +kernel
theorem dX11_step_202 : decode cX11_step 202 = .ok (.getfield 92, 3) := by decide +kernel
theorem dX11_step_205 : decode cX11_step 205 = .ok (.bipush 8, 2) := by decide +kernel
theorem dX11_step_207 : decode cX11_step 207 = .ok (.aload_n 0, 1) := by decide +kernel
theorem dX11_step_208 : decode cX11_step 208 = .ok (.getfield 211, 3) := by decide +kernel
theorem dX11_step_211 : decode cX11_step 211 = .ok (.imul, 1) := by decide +kernel
theorem dX11_step_212 : decode cX11_step 212 = .ok (.iload_n 2, 1) := by decide +kernel
theorem dX11_step_213 : decode cX11_step 213 = .ok (.iadd, 1) := by decide +kernel
theorem dX11_step_214 : decode cX11_step 214 = .ok (.aload_n 0, 1) := by decide +kernel
theorem dX11_step_215 : decode cX11_step 215 = .ok (.getfield 77, 3) := by decide +kernel
theorem dX11_step_218 : decode cX11_step 218 = .ok (.aload_n 0, 1) := by decide +kernel
theorem dX11_step_219 : decode cX11_step 219 = .ok (.getfield 208, 3) := by decide +kernel
theorem dX11_step_222 : decode cX11_step 222 = .ok (.iaload, 1) := by decide +kernel
theorem dX11_step_223 : decode cX11_step 223 = .ok (.iastore, 1) := by decide +kernel
theorem dX11_step_224 : decode cX11_step 224 = .ok (.goto 213, 3) := by decide +kernel
theorem dX11_step_227 : decode cX11_step 227 = .ok (.aload_n 0, 1) := by decide +kernel
theorem dX11_step_228 : decode cX11_step 228 = .ok (.aload_n 0, 1) := by decide +kernel
theorem dX11_step_229 : decode cX11_step 229 = .ok (.getfield 16, 3) := by decide +kernel
theorem dX11_step_232 : decode cX11_step 232 = .ok (.iload_n 1, 1) := by decide +kernel
theorem dX11_step_233 : decode cX11_step 233 = .ok (.iaload, 1) := by decide +kernel
theorem dX11_step_234 : decode cX11_step 234 = .ok (.invokevirtual 253, 3) := by decide +kernel
theorem dX11_step_237 : decode cX11_step 237 = .ok (.goto 200, 3) := by decide +kernel
theorem dX11_step_240 : decode cX11_step 240 = .ok (.aload_n 0, 1) := by decide +kernel
theorem dX11_step_241 : decode cX11_step 241 = .ok (.aload_n 0, 1) := by decide +kernel
theorem dX11_step_242 : decode cX11_step 242 = .ok (.getfield 74, 3) := by decide +kernel
theorem dX11_step_245 : decode cX11_step 245 = .ok (.aload_n 0, 1) := by decide +kernel
theorem dX11_step_246 : decode cX11_step 246 = .ok (.getfield 208, 3) := by decide +kernel
theorem dX11_step_249 : decode cX11_step 249 = .ok (.iconst 1, 1) := by decide +kernel
theorem dX11_step_250 : decode cX11_step 250 = .ok (.isub, 1) := by decide +kernel
theorem dX11_step_251 : decode cX11_step 251 = .ok (.iaload, 1) := by decide +kernel
theorem dX11_step_252 : decode cX11_step 252 = .ok (.aload_n 0, 1) := by decide +kernel
theorem dX11_step_253 : decode cX11_step 253 = .ok (.getfield 77, 3) := by decide +kernel
theorem dX11_step_256 : decode cX11_step 256 = .ok (.aload_n 0, 1) := by decide +kernel
theorem dX11_step_257 : decode cX11_step 257 = .ok (.getfield 208, 3) := by decide +kernel
theorem dX11_step_260 : decode cX11_step 260 = .ok (.iconst 1, 1) := by decide +kernel
theorem dX11_step_261 : decode cX11_step 261 = .ok (.isub, 1) := by decide +kernel
theorem dX11_step_262 : decode cX11_step 262 = .ok (.iaload, 1) := by decide +kernel
theorem dX11_step_263 : decode cX11_step 263 = .ok (.invokevirtual 235, 3) := by decide +kernel
theorem dX11_step_266 : decode cX11_step 266 = .ok (.goto 171, 3) := by decide +kernel
theorem dX11_step_269 : decode cX11_step 269 = .ok (.aload_n 0, 1) := by decide +kernel
theorem dX11_step_270 : decode cX11_step 270 = .ok (.dup, 1) := by decide +kernel
theorem dX11_step_271 : decode cX11_step 271 = .ok (.getfield 208, 3) := by decide +kernel
theorem dX11_step_274 : decode cX11_step 274 = .ok (.iconst 1, 1) := by decide +kernel
theorem dX11_step_275 : decode cX11_step 275 = .ok (.isub, 1) := by decide +kernel
theorem dX11_step_276 : decode cX11_step 276 = .ok (.putfield 208, 3) := by decide +kernel
theorem dX11_step_279 : decode cX11_step 279 = .ok (.goto 158, 3) := by decide +kernel
theorem dX11_step_282 : decode cX11_step 282 = .ok (.aload_n 0, 1) := by decide +kernel
theorem dX11_step_283 : decode cX11_step 283 = .ok (.getfield 83, 3) := by decide +kernel
theorem dX11_step_286 : decode cX11_step 286 = .ok (.aload_n 0, 1) := by decide +kernel
theorem dX11_step_287 : decode cX11_step 287 = .ok (.getfield 211, 3) := by decide +kernel
theorem dX11_step_290 : decode cX11_step 290 = .ok (.iload_n 2, 1) := by decide +kernel
theorem dX11_step_291 : decode cX11_step 291 = .ok (.iastore, 1) := by decide +kernel
theorem dX11_step_292 : decode cX11_step 292 = .ok (.goto 145, 3) := by decide +kernel
theorem dX11_step_295 : decode cX11_step 295 = .ok (.aload_n 0, 1) := by decide +kernel
theorem dX11_step_296 : decode cX11_step 296 = .ok (.dup, 1) := by decide +kernel
theorem dX11_step_297 : decode cX11_step 297 = .ok (.getfield 208, 3) := by decide +kernel
theorem dX11_step_300 : decode cX11_step 300 = .ok (.iconst 1, 1) := by decide +kernel
theorem dX11_step_301 : decode cX11_step 301 = .ok (.isub, 1) := by decide +kernel
theorem dX11_step_302 : decode cX11_step 302 = .ok (.putfield 208, 3) := by decide +kernel
theorem dX11_step_305 : decode cX11_step 305 = .ok (.aload_n 0, 1) := by decide +kernel
theorem dX11_step_306 : decode cX11_step 306 = .ok (.aload_n 0, 1) := by decide +kernel
theorem dX11_step_307 : decode cX11_step 307 = .ok (.getfield 74, 3) := by decide +kernel
theorem dX11_step_310 : decode cX11_step 310 = .ok (.aload_n 0, 1) := by decide +kernel
theorem dX11_step_311 : decode cX11_step 311 = .ok (.getfield 208, 3) := by decide +kernel
theorem dX11_step_314 : decode cX11_step 314 = .ok (.iaload, 1) := by decide +kernel
theorem dX11_step_315 : decode cX11_step 315 = .ok (.iconst 1, 1) := by decide +kernel
theorem dX11_step_316 : decode cX11_step 316 = .ok (.if_icmp .ne 7, 3) := by decide +kernel
theorem dX11_step_319 : decode cX11_step 319 = .ok (.iconst 0, 1) := by decide +kernel
theorem dX11_step_320 : decode cX11_step 320 = .ok (.goto 4, 3) := by decide +kernel
theorem dX11_step_323 : decode cX11_step 323 = .ok (.iconst 1, 1) := by decide +kernel
theorem dX11_step_324 : decode cX11_step 324 = .ok (.putfield 214, 3) := by decide +kernel
theorem dX11_step_327 : decode cX11_step 327 = .ok (.aload_n 0, 1) := by decide +kernel
theorem dX11_step_328 : decode cX11_step 328 = .ok (.getfield 83, 3) := by decide +kernel
theorem dX11_step_331 : decode cX11_step 331 = .ok (.aload_n 0, 1) := by decide +kernel
theorem dX11_step_332 : decode cX11_step 332 = .ok (.getfield 211, 3) := by decide +kernel
theorem dX11_step_335 : decode cX11_step 335 = .ok (.aload_n 0, 1) := by decide +kernel
theorem dX11_step_336 : decode cX11_step 336 = .ok (.getfield 77, 3) := by decide +kernel
theorem dX11_step_339 : decode cX11_step 339 = .ok (.aload_n 0, 1) := by decide +kernel
theorem dX11_step_340 : decode cX11_step 340 = .ok (.getfield 208, 3) := by decide +kernel
theorem dX11_step_343 : decode cX11_step 343 = .ok (.iaload, 1) := by decide +kernel
theorem dX11_step_344 : decode cX11_step 344 = .ok (.ifCond .ne 14, 3) := by decide +kernel
theorem dX11_step_347 : decode cX11_step 347 = .ok (.aload_n 0, 1) := by decide +kernel
theorem dX11_step_348 : decode cX11_step 348 = .ok (.getfield 214, 3) := by decide +kernel
theorem dX11_step_351 : decode cX11_step 351 = .ok (.ifCond .ne 7, 3) := by decide +kernel
theorem dX11_step_354 : decode cX11_step 354 = .ok (.iload_n 2, 1) := by decide +kernel
theorem dX11_step_355 : decode cX11_step 355 = .ok (.goto 12, 3) := by decide +kernel
theorem dX11_step_358 : decode cX11_step 358 = .ok (.aload_n 0, 1) := by decide +kernel
theorem dX11_step_359 : decode cX11_step 359 = .ok (.getfield 83, 3) := by decide +kernel
theorem dX11_step_362 : decode cX11_step 362 = .ok (.aload_n 0, 1) := by decide +kernel
theorem dX11_step_363 : decode cX11_step 363 = .ok (.getfield 211, 3) := by decide +kernel
theorem dX11_step_366 : decode cX11_step 366 = .ok (.iaload, 1) := by decide +kernel
theorem dX11_step_367 : decode cX11_step 367 = .ok (.iastore, 1) := by decide +kernel
theorem dX11_step_368 : decode cX11_step 368 = .ok (.goto 69, 3) := by decide +kernel
theorem dX11_step_371 : decode cX11_step 371 = .ok (.aload_n 0, 1) := by decide +kernel
theorem dX11_step_372 : decode cX11_step 372 = .ok (.aload_n 0, 1) := by decide +kernel
theorem dX11_step_373 : decode cX11_step 373 = .ok (.getfield 7, 3) := by decide +kernel
theorem dX11_step_376 : decode cX11_step 376 = .ok (.iload_n 2, 1) := by decide +kernel
theorem dX11_step_377 : decode cX11_step 377 = .ok (.iaload, 1) := by decide +kernel
theorem dX11_step_378 : decode cX11_step 378 = .ok (.iconst 0, 1) := by decide +kernel
theorem dX11_step_379 : decode cX11_step 379 = .ok (.invokevirtual 241, 3) := by decide +kernel
theorem dX11_step_382 : decode cX11_step 382 = .ok (.aload_n 0, 1) := by decide +kernel
theorem dX11_step_383 : decode cX11_step 383 = .ok (.iload_n 2, 1) := by decide +kernel
theorem dX11_step_384 : decode cX11_step 384 = .ok (.aload_n 0, 1) := by decide +kernel
theorem dX11_step_385 : decode cX11_step 385 = .ok (.getfield 7, 3) := by decide +kernel
theorem dX11_step_388 : decode cX11_step 388 = .ok (.iload_n 2, 1) := by decide +kernel
theorem dX11_step_389 : decode cX11_step 389 = .ok (.iaload, 1) := by decide +kernel
theorem dX11_step_390 : decode cX11_step 390 = .ok (.invokevirtual 244, 3) := by decide +kernel
theorem dX11_step_393 : decode cX11_step 393 = .ok (.goto 44, 3) := by decide +kernel
theorem dX11_step_396 : decode cX11_step 396 = .ok (.aload_n 0, 1) := by decide +kernel
theorem dX11_step_397 : decode cX11_step 397 = .ok (.invokevirtual 256, 3) := by decide +kernel
theorem dX11_step_400 : decode cX11_step 400 = .ok (.goto 37, 3) := by decide +kernel
theorem dX11_step_403 : decode cX11_step 403 = .ok (.aload_n 0, 1) := by decide +kernel
theorem dX11_step_404 : decode cX11_step 404 = .ok (.invokevirtual 259, 3) := by decide +kernel
theorem dX11_step_407 : decode cX11_step 407 = .ok (.goto 30, 3) := by decide +kernel
theorem dX11_step_410 : decode cX11_step 410 = .ok (.aload_n 0, 1) := by decide +kernel
theorem dX11_step_411 : decode cX11_step 411 = .ok (.iload_n 2, 1) := by decide +kernel
theorem dX11_step_412 : decode cX11_step 412 = .ok (.aload_n 0, 1) := by decide +kernel
theorem dX11_step_413 : decode cX11_step 413 = .ok (.getfield 22, 3) := by decide +kernel
theorem dX11_step_416 : decode cX11_step 416 = .ok (.iload_n 1, 1) := by decide +kernel
theorem dX11_step_417 : decode cX11_step 417 = .ok (.iaload, 1) := by decide +kernel
theorem dX11_step_418 : decode cX11_step 418 = .ok (.invokevirtual 262, 3) := by decide +kernel
theorem dX11_step_421 : decode cX11_step 421 = .ok (.goto 16, 3) := by decide +kernel
theorem dX11_step_424 : decode cX11_step 424 = .ok (.aload_n 0, 1) := by decide +kernel
theorem dX11_step_425 : decode cX11_step 425 = .ok (.iload_n 2, 1) := by decide +kernel
theorem dX11_step_426 : decode cX11_step 426 = .ok (.invokevirtual 265, 3) := by decide +kernel
theorem dX11_step_429 : decode cX11_step 429 = .ok (.goto 8, 3) := by decide +kernel
theorem dX11_step_432 : decode cX11_step 432 = .ok (.aload_n 0, 1) := by decide +kernel
theorem dX11_step_433 : decode cX11_step 433 = .ok (.iload_n 2, 1) := by decide +kernel
theorem dX11_step_434 : decode cX11_step 434 = .ok (.invokevirtual 268, 3) := by decide +kernel
theorem dX11_step_437 : decode cX11_step 437 = .ok (.return_, 1) := by decide +kernel
theorem dX11_run_0 : decode cX11_run 0 = .ok (.aload_n 0, 1) := by decide +kernel
theorem dX11_run_1 : decode cX11_run 1 = .ok (.aload_n 0, 1) := by decide +kernel
theorem dX11_run_2 : decode cX11_run 2 = .ok (.iload_n 1, 1) := by decide +kernel
theorem dX11_run_3 : decode cX11_run 3 = .ok (.invokevirtual 138, 3) := by decide +kernel
theorem dX11_run_6 : decode cX11_run 6 = .ok (.aload_n 0, 1) := by decide +kernel
theorem dX11_run_7 : decode cX11_run 7 = .ok (.getfield 134, 3) := by decide +kernel
theorem dX11_run_10 : decode cX11_run 10 = .ok (.invokevirtual 130, 3) := by decide +kernel
theorem dX11_run_13 : decode cX11_run 13 = .ok (.ifCond .ne 5, 3) := by decide +kernel
theorem dX11_run_16 : decode cX11_run 16 = .ok (.iconst 0, 1) := by decide +kernel
theorem dX11_run_17 : decode cX11_run 17 = .ok (.ireturn, 1) := by decide +kernel
theorem dX11_run_18 : decode cX11_run 18 = .ok (.aload_n 0, 1) := by decide +kernel
theorem dX11_run_19 : decode cX11_run 19 = .ok (.iconst 0, 1) := by decide +kernel
theorem dX11_run_20 : decode cX11_run 20 = .ok (.putfield 271, 3) := by decide +kernel
theorem dX11_run_23 : decode cX11_run 23 = .ok (.aload_n 0, 1) := by decide +kernel
theorem dX11_run_24 : decode cX11_run 24 = .ok (.iconst 0, 1) := by decide +kernel
theorem dX11_run_25 : decode cX11_run 25 = .ok (.putfield 214, 3) := by decide +kernel
theorem dX11_run_28 : decode cX11_run 28 = .ok (.aload_n 0, 1) := by decide +kernel
theorem dX11_run_29 : decode cX11_run 29 = .ok (.iconst 0, 1) := by decide +kernel
theorem dX11_run_30 : decode cX11_run 30 = .ok (.putfield 247, 3) := by decide +kernel
theorem dX11_run_33 : decode cX11_run 33 = .ok (.aload_n 0, 1) := by decide +kernel
theorem dX11_run_34 : decode cX11_run 34 = .ok (.iconst 0, 1) := by decide +kernel
theorem dX11_run_35 : decode cX11_run 35 = .ok (.putfield 250, 3) := by decide +kernel
theorem dX11_run_38 : decode cX11_run 38 = .ok (.aload_n 0, 1) := by decide +kernel
theorem dX11_run_39 : decode cX11_run 39 = .ok (.iconst 0, 1) := by decide +kernel
theorem dX11_run_40 : decode cX11_run 40 = .ok (.putfield 229, 3) := by decide +kernel
theorem dX11_run_43 : decode cX11_run 43 = .ok (.aload_n 0, 1) := by decide +kernel
theorem dX11_run_44 : decode cX11_run 44 = .ok (.iconst 0, 1) := by decide +kernel
theorem dX11_run_45 : decode cX11_run 45 = .ok (.putfield 208, 3) := by decide +kernel
theorem dX11_run_48 : decode cX11_run 48 = .ok (.aload_n 0, 1) := by decide +kernel
theorem dX11_run_49 : decode cX11_run 49 = .ok (.iconst 0, 1) := by decide +kernel
theorem dX11_run_50 : decode cX11_run 50 = .ok (.putfield 211, 3) := by decide +kernel
theorem dX11_run_53 : decode cX11_run 53 = .ok (.aload_n 0, 1) := by decide +kernel
theorem dX11_run_54 : decode cX11_run 54 = .ok (.iconst 0, 1) := by decide +kernel
theorem dX11_run_55 : decode cX11_run 55 = .ok (.putfield 232, 3) := by decide +kernel
theorem dX11_run_58 : decode cX11_run 58 = .ok (.aload_n 0, 1) := by decide +kernel
theorem dX11_run_59 : decode cX11_run 59 = .ok (.iconst 0, 1) := by decide +kernel
theorem dX11_run_60 : decode cX11_run 60 = .ok (.putfield 238, 3) := by decide +kernel
theorem dX11_run_63 : decode cX11_run 63 = .ok (.iconst 0, 1) := by decide +kernel
theorem dX11_run_64 : decode cX11_run 64 = .ok (.istore 6, 2) := by decide +kernel
theorem dX11_run_66 : decode cX11_run 66 = .ok (.iload 6, 2) := by decide +kernel
theorem dX11_run_68 : decode cX11_run 68 = .ok (.iconst 3, 1) := by decide +kernel
theorem dX11_run_69 : decode cX11_run 69 = .ok (.if_icmp .ge 45, 3) := by decide +kernel
theorem dX11_run_72 : decode cX11_run 72 = .ok (.aload_n 0, 1) := by decide +kernel
theorem dX11_run_73 : decode cX11_run 73 = .ok (.getfield 95, 3) := by decide +kernel
theorem dX11_run_76 : decode cX11_run 76 = .ok (.iload 6, 2) := by decide +kernel
theorem dX11_run_78 : decode cX11_run 78 = .ok (.iconst 1, 1) := by decide +kernel
theorem dX11_run_79 : decode cX11_run 79 = .ok (.iastore, 1) := by decide +kernel
theorem dX11_run_80 : decode cX11_run 80 = .ok (.aload_n 0, 1) := by decide +kernel
theorem dX11_run_81 : decode cX11_run 81 = .ok (.getfield 98, 3) := by decide +kernel
theorem dX11_run_84 : decode cX11_run 84 = .ok (.iload 6, 2) := by decide +kernel
theorem dX11_run_86 : decode cX11_run 86 = .ok (.iload 6, 2) := by decide +kernel
theorem dX11_run_88 : decode cX11_run 88 = .ok (.ifCond .ne 7, 3) := by decide +kernel
theorem dX11_run_91 : decode cX11_run 91 = .ok (.iload_n 2, 1) := by decide +kernel
theorem dX11_run_92 : decode cX11_run 92 = .ok (.goto 15, 3) := by decide +kernel
theorem dX11_run_95 : decode cX11_run 95 = .ok (.iload 6, 2) := by decide +kernel
theorem dX11_run_97 : decode cX11_run 97 = .ok (.iconst 1, 1) := by decide +kernel
theorem dX11_run_98 : decode cX11_run 98 = .ok (.if_icmp .ne 7, 3) := by decide +kernel
theorem dX11_run_101 : decode cX11_run 101 = .ok (.iload_n 3, 1) := by decide +kernel
theorem dX11_run_102 : decode cX11_run 102 = .ok (.goto 5, 3) := by decide +kernel
theorem dX11_run_105 : decode cX11_run 105 = .ok (.iload 4, 2) := by decide +kernel
theorem dX11_run_107 : decode cX11_run 107 = .ok (.iastore, 1) := by decide +kernel
theorem dX11_run_108 : decode cX11_run 108 = .ok (.iinc 6 1, 3) := by decide +kernel
theorem dX11_run_111 : decode cX11_run 111 = .ok (.goto (-45), 3) := by decide +kernel
theorem dX11_run_114 : decode cX11_run 114 = .ok (.aload_n 0, 1) := by decide +kernel
theorem dX11_run_115 : decode cX11_run 115 = .ok (.iload_n 1, 1) := by decide +kernel
theorem dX11_run_116 : decode cX11_run 116 = .ok (.aload_n 0, 1) := by decide +kernel
theorem dX11_run_117 : decode cX11_run 117 = .ok (.getfield 7, 3) := by decide +kernel
theorem dX11_run_120 : decode cX11_run 120 = .ok (.iload_n 1, 1) := by decide +kernel
theorem dX11_run_121 : decode cX11_run 121 = .ok (.iaload, 1) := by decide +kernel
theorem dX11_run_122 : decode cX11_run 122 = .ok (.invokevirtual 244, 3) := by decide +kernel
theorem dX11_run_125 : decode cX11_run 125 = .ok (.aload_n 0, 1) := by decide +kernel
theorem dX11_run_126 : decode cX11_run 126 = .ok (.getfield 211, 3) := by decide +kernel
theorem dX11_run_129 : decode cX11_run 129 = .ok (.ifCond .le 45, 3) := by decide +kernel
theorem dX11_run_132 : decode cX11_run 132 = .ok (.aload_n 0, 1) := by decide +kernel
theorem dX11_run_133 : decode cX11_run 133 = .ok (.getfield 214, 3) := by decide +kernel
theorem dX11_run_136 : decode cX11_run 136 = .ok (.ifCond .ne 38, 3) := by decide +kernel
theorem dX11_run_139 : decode cX11_run 139 = .ok (.aload_n 0, 1) := by decide +kernel
theorem dX11_run_140 : decode cX11_run 140 = .ok (.getfield 271, 3) := by decide +kernel
theorem dX11_run_143 : decode cX11_run 143 = .ok (.sipush 400, 3) := by decide +kernel
theorem dX11_run_146 : decode cX11_run 146 = .ok (.if_icmp .ne 11, 3) := by decide +kernel
theorem dX11_run_149 : decode cX11_run 149 = .ok (.aload_n 0, 1) := by decide +kernel
theorem dX11_run_150 : decode cX11_run 150 = .ok (.iconst 4, 1) := by decide +kernel
theorem dX11_run_151 : decode cX11_run 151 = .ok (.putfield 214, 3) := by decide +kernel
theorem dX11_run_154 : decode cX11_run 154 = .ok (.goto (-29), 3) := by decide +kernel
theorem dX11_run_157 : decode cX11_run 157 = .ok (.aload_n 0, 1) := by decide +kernel
theorem dX11_run_158 : decode cX11_run 158 = .ok (.dup, 1) := by decide +kernel
theorem dX11_run_159 : decode cX11_run 159 = .ok (.getfield 271, 3) := by decide +kernel
theorem dX11_run_162 : decode cX11_run 162 = .ok (.iconst 1, 1) := by decide +kernel
theorem dX11_run_163 : decode cX11_run 163 = .ok (.iadd, 1) := by decide +kernel
theorem dX11_run_164 : decode cX11_run 164 = .ok (.putfield 271, 3) := by decide +kernel
theorem dX11_run_167 : decode cX11_run 167 = .ok (.aload_n 0, 1) := by decide +kernel
theorem dX11_run_168 : decode cX11_run 168 = .ok (.invokevirtual 274, 3) := by decide +kernel
theorem dX11_run_171 : decode cX11_run 171 = .ok (.goto (-46), 3) := by decide +kernel
theorem dX11_run_174 : decode cX11_run 174 = .ok (.aload_n 0, 1) := by decide +kernel
theorem dX11_run_175 : decode cX11_run 175 = .ok (.getfield 214, 3) := by decide +kernel
theorem dX11_run_178 : decode cX11_run 178 = .ok (.ireturn, 1) := by decide +kernel
theorem dX11_told_0 : decode cX11_told 0 = .ok (.aload_n 0, 1) := by decide +kernel
theorem dX11_told_1 : decode cX11_told 1 = .ok (.iload_n 1, 1) := by decide +kernel
theorem dX11_told_2 : decode cX11_told 2 = .ok (.ifCond .lt 12, 3) := by decide +kernel
theorem dX11_told_5 : decode cX11_told 5 = .ok (.iload_n 1, 1) := by decide +kernel
theorem dX11_told_6 : decode cX11_told 6 = .ok (.iconst 3, 1) := by decide +kernel
theorem dX11_told_7 : decode cX11_told 7 = .ok (.if_icmp .gt 7, 3) := by decide +kernel
theorem dX11_told_10 : decode cX11_told 10 = .ok (.iconst 1, 1) := by decide +kernel
theorem dX11_told_11 : decode cX11_told 11 = .ok (.goto 4, 3) := by decide +kernel
theorem dX11_told_14 : decode cX11_told 14 = .ok (.iconst 0, 1) := by decide +kernel
theorem dX11_told_15 : decode cX11_told 15 = .ok (.iconst 1, 1) := by decide +kernel
theorem dX11_told_16 : decode cX11_told 16 = .ok (.invokevirtual 130, 3) := by decide +kernel
theorem dX11_told_19 : decode cX11_told 19 = .ok (.ifCond .ne 5, 3) := by decide +kernel
theorem dX11_told_22 : decode cX11_told 22 = .ok (.iconst 0, 1) := by decide +kernel
theorem dX11_told_23 : decode cX11_told 23 = .ok (.ireturn, 1) := by decide +kernel
theorem dX11_told_24 : decode cX11_told 24 = .ok (.iload_n 1, 1) := by decide +kernel
theorem dX11_told_25 : decode cX11_told 25 = .ok (.ifCond .ne 10, 3) := by decide +kernel
theorem dX11_told_28 : decode cX11_told 28 = .ok (.aload_n 0, 1) := by decide +kernel
theorem dX11_told_29 : decode cX11_told 29 = .ok (.getfield 229, 3) := by decide +kernel
theorem dX11_told_32 : decode cX11_told 32 = .ok (.goto 43, 3) := by decide +kernel
theorem dX11_told_35 : decode cX11_told 35 = .ok (.iload_n 1, 1) := by decide +kernel
theorem dX11_told_36 : decode cX11_told 36 = .ok (.iconst 1, 1) := by decide +kernel
theorem dX11_told_37 : decode cX11_told 37 = .ok (.if_icmp .ne 10, 3) := by decide +kernel
theorem dX11_told_40 : decode cX11_told 40 = .ok (.aload_n 0, 1) := by decide +kernel
theorem dX11_told_41 : decode cX11_told 41 = .ok (.getfield 271, 3) := by decide +kernel
theorem dX11_told_44 : decode cX11_told 44 = .ok (.goto 31, 3) := by decide +kernel
theorem dX11_told_47 : decode cX11_told 47 = .ok (.iload_n 1, 1) := by decide +kernel
theorem dX11_told_48 : decode cX11_told 48 = .ok (.iconst 3, 1) := by decide +kernel
theorem dX11_told_49 : decode cX11_told 49 = .ok (.if_icmp .ne 10, 3) := by decide +kernel
theorem dX11_told_52 : decode cX11_told 52 = .ok (.aload_n 0, 1) := by decide +kernel
theorem dX11_told_53 : decode cX11_told 53 = .ok (.getfield 247, 3) := by decide +kernel
theorem dX11_told_56 : decode cX11_told 56 = .ok (.goto 19, 3) := by decide +kernel
theorem dX11_told_59 : decode cX11_told 59 = .ok (.aload_n 0, 1) := by decide +kernel
theorem dX11_told_60 : decode cX11_told 60 = .ok (.getfield 247, 3) := by decide +kernel
theorem dX11_told_63 : decode cX11_told 63 = .ok (.iconst 1, 1) := by decide +kernel
theorem dX11_told_64 : decode cX11_told 64 = .ok (.if_icmp .ne 10, 3) := by decide +kernel
theorem dX11_told_67 : decode cX11_told 67 = .ok (.aload_n 0, 1) := by decide +kernel
theorem dX11_told_68 : decode cX11_told 68 = .ok (.getfield 250, 3) := by decide +kernel
theorem dX11_told_71 : decode cX11_told 71 = .ok (.goto 4, 3) := by decide +kernel
theorem dX11_told_74 : decode cX11_told 74 = .ok (.iconst 0, 1) := by decide +kernel
theorem dX11_told_75 : decode cX11_told 75 = .ok (.ireturn, 1) := by decide +kernel
theorem dX11_said_0 : decode cX11_said 0 = .ok (.aload_n 0, 1) := by decide +kernel
theorem dX11_said_1 : decode cX11_said 1 = .ok (.iload_n 1, 1) := by decide +kernel
theorem dX11_said_2 : decode cX11_said 2 = .ok (.ifCond .lt 15, 3) := by decide +kernel
theorem dX11_said_5 : decode cX11_said 5 = .ok (.iload_n 1, 1) := by decide +kernel
theorem dX11_said_6 : decode cX11_said 6 = .ok (.aload_n 0, 1) := by decide +kernel
theorem dX11_said_7 : decode cX11_said 7 = .ok (.getfield 229, 3) := by decide +kernel
theorem dX11_said_10 : decode cX11_said 10 = .ok (.if_icmp .ge 7, 3) := by decide +kernel
theorem dX11_said_13 : decode cX11_said 13 = .ok (.iconst 1, 1) := by decide +kernel
theorem dX11_said_14 : decode cX11_said 14 = .ok (.goto 4, 3) := by decide +kernel
theorem dX11_said_17 : decode cX11_said 17 = .ok (.iconst 0, 1) := by decide +kernel
theorem dX11_said_18 : decode cX11_said 18 = .ok (.iconst 1, 1) := by decide +kernel
theorem dX11_said_19 : decode cX11_said 19 = .ok (.invokevirtual 130, 3) := by decide +kernel
theorem dX11_said_22 : decode cX11_said 22 = .ok (.ifCond .eq 12, 3) := by decide +kernel
theorem dX11_said_25 : decode cX11_said 25 = .ok (.aload_n 0, 1) := by decide +kernel
theorem dX11_said_26 : decode cX11_said 26 = .ok (.getfield 71, 3) := by decide +kernel
theorem dX11_said_29 : decode cX11_said 29 = .ok (.iload_n 1, 1) := by decide +kernel
theorem dX11_said_30 : decode cX11_said 30 = .ok (.iaload, 1) := by decide +kernel
theorem dX11_said_31 : decode cX11_said 31 = .ok (.goto 4, 3) := by decide +kernel
theorem dX11_said_34 : decode cX11_said 34 = .ok (.iconst 0, 1) := by decide +kernel
theorem dX11_said_35 : decode cX11_said 35 = .ok (.ireturn, 1) := by decide +kernel
