theorem dX11_readLetters_162 : decode cX11_readLetters 162 = .ok (.if_icmp .gt 15, 3) := by decide +kernel
theorem dX11_readLetters_165 : decode cX11_readLetters 165 = .ok (.aload_n 0, 1) := by decide +kernel
theorem dX11_readLetters_166 : decode cX11_readLetters 166 = .ok (.getfield 105, 3) := by decide +kernel
theorem dX11_readLetters_169 : decode cX11_readLetters 169 = .ok (.iload 7, 2) := by decide +kernel
theorem dX11_readLetters_171 : decode cX11_readLetters 171 = .ok (.iconst 1, 1) := by decide +kernel
theorem dX11_readLetters_172 : decode cX11_readLetters 172 = .ok (.isub, 1) := by decide +kernel
theorem dX11_readLetters_173 : decode cX11_readLetters 173 = .ok (.iaload, 1) := by decide +kernel
theorem dX11_readLetters_174 : decode cX11_readLetters 174 = .ok (.goto 16, 3) := by decide +kernel
theorem dX11_readLetters_177 : decode cX11_readLetters 177 = .ok (.sipush 1000, 3) := by decide +kernel
theorem dX11_readLetters_180 : decode cX11_readLetters 180 = .ok (.iload 7, 2) := by decide +kernel
theorem dX11_readLetters_182 : decode cX11_readLetters 182 = .ok (.iadd, 1) := by decide +kernel
theorem dX11_readLetters_183 : decode cX11_readLetters 183 = .ok (.aload_n 0, 1) := by decide +kernel
theorem dX11_readLetters_184 : decode cX11_readLetters 184 = .ok (.getfield 407, 3) := by decide +kernel
theorem dX11_readLetters_187 : decode cX11_readLetters 187 = .ok (.isub, 1) := by decide +kernel
theorem dX11_readLetters_188 : decode cX11_readLetters 188 = .ok (.iconst 1, 1) := by decide +kernel
theorem dX11_readLetters_189 : decode cX11_readLetters 189 = .ok (.isub, 1) := by decide +kernel
theorem dX11_readLetters_190 : decode cX11_readLetters 190 = .ok (.iastore, 1) := by decide +kernel
theorem dX11_readLetters_191 : decode cX11_readLetters 191 = .ok (.aload_n 0, 1) := by decide +kernel
theorem dX11_readLetters_192 : decode cX11_readLetters 192 = .ok (.dup, 1) := by decide +kernel
theorem dX11_readLetters_193 : decode cX11_readLetters 193 = .ok (.getfield 401, 3) := by decide +kernel
theorem dX11_readLetters_196 : decode cX11_readLetters 196 = .ok (.iconst 1, 1) := by decide +kernel
theorem dX11_readLetters_197 : decode cX11_readLetters 197 = .ok (.iadd, 1) := by decide +kernel
theorem dX11_readLetters_198 : decode cX11_readLetters 198 = .ok (.putfield 401, 3) := by decide +kernel
theorem dX11_readLetters_201 : decode cX11_readLetters 201 = .ok (.iconst 0, 1) := by decide +kernel
theorem dX11_readLetters_202 : decode cX11_readLetters 202 = .ok (.istore_n 2, 1) := by decide +kernel
theorem dX11_readLetters_203 : decode cX11_readLetters 203 = .ok (.iconst 0, 1) := by decide +kernel
theorem dX11_readLetters_204 : decode cX11_readLetters 204 = .ok (.istore_n 3, 1) := by decide +kernel
theorem dX11_readLetters_205 : decode cX11_readLetters 205 = .ok (.iconst 1, 1) := by decide +kernel
theorem dX11_readLetters_206 : decode cX11_readLetters 206 = .ok (.istore 4, 2) := by decide +kernel
theorem dX11_readLetters_208 : decode cX11_readLetters 208 = .ok (.goto 89, 3) := by decide +kernel
theorem dX11_readLetters_211 : decode cX11_readLetters 211 = .ok (.iload 6, 2) := by decide +kernel
theorem dX11_readLetters_213 : decode cX11_readLetters 213 = .ok (.bipush 90, 2) := by decide +kernel
theorem dX11_readLetters_215 : decode cX11_readLetters 215 = .ok (.if_icmp .ne 73, 3) := by decide +kernel
theorem dX11_readLetters_218 : decode cX11_readLetters 218 = .ok (.iload 4, 2) := by decide +kernel
theorem dX11_readLetters_220 : decode cX11_readLetters 220 = .ok (.ifCond .eq 68, 3) := by decide +kernel
theorem dX11_readLetters_223 : decode cX11_readLetters 223 = .ok (.aload_n 0, 1) := by decide +kernel
theorem dX11_readLetters_224 : decode cX11_readLetters 224 = .ok (.getfield 404, 3) := by decide +kernel
theorem dX11_readLetters_227 : decode cX11_readLetters 227 = .ok (.sipush 200, 3) := by decide +kernel
theorem dX11_readLetters_230 : decode cX11_readLetters 230 = .ok (.if_icmp .ne 12, 3) := by decide +kernel
theorem dX11_readLetters_233 : decode cX11_readLetters 233 = .ok (.aload_n 0, 1) := by decide +kernel
theorem dX11_readLetters_234 : decode cX11_readLetters 234 = .ok (.bipush (-10), 2) := by decide +kernel
theorem dX11_readLetters_236 : decode cX11_readLetters 236 = .ok (.iload 5, 2) := by decide +kernel
theorem dX11_readLetters_238 : decode cX11_readLetters 238 = .ok (.invokevirtual 410, 3) := by decide +kernel
theorem dX11_readLetters_241 : decode cX11_readLetters 241 = .ok (.ireturn, 1) := by decide +kernel
theorem dX11_readLetters_242 : decode cX11_readLetters 242 = .ok (.aload_n 0, 1) := by decide +kernel
theorem dX11_readLetters_243 : decode cX11_readLetters 243 = .ok (.getfield 114, 3) := by decide +kernel
theorem dX11_readLetters_246 : decode cX11_readLetters 246 = .ok (.aload_n 0, 1) := by decide +kernel
theorem dX11_readLetters_247 : decode cX11_readLetters 247 = .ok (.getfield 404, 3) := by decide +kernel
theorem dX11_readLetters_250 : decode cX11_readLetters 250 = .ok (.aload_n 0, 1) := by decide +kernel
theorem dX11_readLetters_251 : decode cX11_readLetters 251 = .ok (.getfield 401, 3) := by decide +kernel
theorem dX11_readLetters_254 : decode cX11_readLetters 254 = .ok (.iconst 1, 1) := by decide +kernel
theorem dX11_readLetters_255 : decode cX11_readLetters 255 = .ok (.isub, 1) := by decide +kernel
theorem dX11_readLetters_256 : decode cX11_readLetters 256 = .ok (.iastore, 1) := by decide +kernel
theorem dX11_readLetters_257 : decode cX11_readLetters 257 = .ok (.aload_n 0, 1) := by decide +kernel
theorem dX11_readLetters_258 : decode cX11_readLetters 258 = .ok (.getfield 117, 3) := by decide +kernel
theorem dX11_readLetters_261 : decode cX11_readLetters 261 = .ok (.aload_n 0, 1) := by decide +kernel
theorem dX11_readLetters_262 : decode cX11_readLetters 262 = .ok (.getfield 401, 3) := by decide +kernel
theorem dX11_readLetters_265 : decode cX11_readLetters 265 = .ok (.iconst 1, 1) := by decide +kernel
theorem dX11_readLetters_266 : decode cX11_readLetters 266 = .ok (.isub, 1) := by decide +kernel
theorem dX11_readLetters_267 : decode cX11_readLetters 267 = .ok (.aload_n 0, 1) := by decide +kernel
theorem dX11_readLetters_268 : decode cX11_readLetters 268 = .ok (.getfield 404, 3) := by decide +kernel
theorem dX11_readLetters_271 : decode cX11_readLetters 271 = .ok (.iastore, 1) := by decide +kernel
theorem dX11_readLetters_272 : decode cX11_readLetters 272 = .ok (.aload_n 0, 1) := by decide +kernel
theorem dX11_readLetters_273 : decode cX11_readLetters 273 = .ok (.dup, 1) := by decide +kernel
theorem dX11_readLetters_274 : decode cX11_readLetters 274 = .ok (.getfield 404, 3) := by decide +kernel
theorem dX11_readLetters_277 : decode cX11_readLetters 277 = .ok (.iconst 1, 1) := by decide +kernel
theorem dX11_readLetters_278 : decode cX11_readLetters 278 = .ok (.iadd, 1) := by decide +kernel
theorem dX11_readLetters_279 : decode cX11_readLetters 279 = .ok (.putfield 404, 3) := by decide +kernel
theorem dX11_readLetters_282 : decode cX11_readLetters 282 = .ok (.iconst 0, 1) := by decide +kernel
theorem dX11_readLetters_283 : decode cX11_readLetters 283 = .ok (.istore 4, 2) := by decide +kernel
theorem dX11_readLetters_285 : decode cX11_readLetters 285 = .ok (.goto 12, 3) := by decide +kernel
theorem dX11_readLetters_288 : decode cX11_readLetters 288 = .ok (.aload_n 0, 1) := by decide +kernel
theorem dX11_readLetters_289 : decode cX11_readLetters 289 = .ok (.bipush (-3), 2) := by decide +kernel
theorem dX11_readLetters_291 : decode cX11_readLetters 291 = .ok (.iload 5, 2) := by decide +kernel
theorem dX11_readLetters_293 : decode cX11_readLetters 293 = .ok (.invokevirtual 410, 3) := by decide +kernel
theorem dX11_readLetters_296 : decode cX11_readLetters 296 = .ok (.ireturn, 1) := by decide +kernel
theorem dX11_readLetters_297 : decode cX11_readLetters 297 = .ok (.iinc 5 1, 3) := by decide +kernel
theorem dX11_readLetters_300 : decode cX11_readLetters 300 = .ok (.goto (-285), 3) := by decide +kernel
theorem dX11_readLetters_303 : decode cX11_readLetters 303 = .ok (.iload_n 3, 1) := by decide +kernel
theorem dX11_readLetters_304 : decode cX11_readLetters 304 = .ok (.ifCond .ne 10, 3) := by decide +kernel
theorem dX11_readLetters_307 : decode cX11_readLetters 307 = .ok (.aload_n 0, 1) := by decide +kernel
theorem dX11_readLetters_308 : decode cX11_readLetters 308 = .ok (.getfield 383, 3) := by decide +kernel
theorem dX11_readLetters_311 : decode cX11_readLetters 311 = .ok (.ifCond .gt 16, 3) := by decide +kernel
theorem dX11_readLetters_314 : decode cX11_readLetters 314 = .ok (.aload_n 0, 1) := by decide +kernel
theorem dX11_readLetters_315 : decode cX11_readLetters 315 = .ok (.bipush (-3), 2) := by decide +kernel
theorem dX11_readLetters_317 : decode cX11_readLetters 317 = .ok (.aload_n 0, 1) := by decide +kernel
theorem dX11_readLetters_318 : decode cX11_readLetters 318 = .ok (.getfield 383, 3) := by decide +kernel
theorem dX11_readLetters_321 : decode cX11_readLetters 321 = .ok (.invokevirtual 410, 3) := by decide +kernel
theorem dX11_readLetters_324 : decode cX11_readLetters 324 = .ok (.ifCond .eq 7, 3) := by decide +kernel
theorem dX11_readLetters_327 : decode cX11_readLetters 327 = .ok (.iconst 1, 1) := by decide +kernel
theorem dX11_readLetters_328 : decode cX11_readLetters 328 = .ok (.goto 4, 3) := by decide +kernel
theorem dX11_readLetters_331 : decode cX11_readLetters 331 = .ok (.iconst 0, 1) := by decide +kernel
theorem dX11_readLetters_332 : decode cX11_readLetters 332 = .ok (.ireturn, 1) := by decide +kernel
theorem dX11_thing_0 : decode cX11_thing 0 = .ok (.sipush 200, 3) := by decide +kernel
theorem dX11_thing_3 : decode cX11_thing 3 = .ok (.iload_n 1, 1) := by decide +kernel
theorem dX11_thing_4 : decode cX11_thing 4 = .ok (.imul, 1) := by decide +kernel
theorem dX11_thing_5 : decode cX11_thing 5 = .ok (.ireturn, 1) := by decide +kernel
theorem dX11_endThing_0 : decode cX11_endThing 0 = .ok (.aload_n 0, 1) := by decide +kernel
theorem dX11_endThing_1 : decode cX11_endThing 1 = .ok (.getfield 126, 3) := by decide +kernel
theorem dX11_endThing_4 : decode cX11_endThing 4 = .ok (.aload_n 0, 1) := by decide +kernel
theorem dX11_endThing_5 : decode cX11_endThing 5 = .ok (.getfield 426, 3) := by decide +kernel
theorem dX11_endThing_8 : decode cX11_endThing 8 = .ok (.iload_n 2, 1) := by decide +kernel
theorem dX11_endThing_9 : decode cX11_endThing 9 = .ok (.iastore, 1) := by decide +kernel
theorem dX11_endThing_10 : decode cX11_endThing 10 = .ok (.aload_n 0, 1) := by decide +kernel
theorem dX11_endThing_11 : decode cX11_endThing 11 = .ok (.getfield 151, 3) := by decide +kernel
theorem dX11_endThing_14 : decode cX11_endThing 14 = .ok (.iload_n 1, 1) := by decide +kernel
theorem dX11_endThing_15 : decode cX11_endThing 15 = .ok (.iload_n 2, 1) := by decide +kernel
theorem dX11_endThing_16 : decode cX11_endThing 16 = .ok (.iastore, 1) := by decide +kernel
theorem dX11_endThing_17 : decode cX11_endThing 17 = .ok (.aload_n 0, 1) := by decide +kernel
theorem dX11_endThing_18 : decode cX11_endThing 18 = .ok (.getfield 117, 3) := by decide +kernel
theorem dX11_endThing_21 : decode cX11_endThing 21 = .ok (.iload_n 1, 1) := by decide +kernel
theorem dX11_endThing_22 : decode cX11_endThing 22 = .ok (.iaload, 1) := by decide +kernel
theorem dX11_endThing_23 : decode cX11_endThing 23 = .ok (.ifCond .lt 74, 3) := by decide +kernel
theorem dX11_endThing_26 : decode cX11_endThing 26 = .ok (.aload_n 0, 1) := by decide +kernel
theorem dX11_endThing_27 : decode cX11_endThing 27 = .ok (.getfield 117, 3) := by decide +kernel
theorem dX11_endThing_30 : decode cX11_endThing 30 = .ok (.iload_n 1, 1) := by decide +kernel
theorem dX11_endThing_31 : decode cX11_endThing 31 = .ok (.iaload, 1) := by decide +kernel
theorem dX11_endThing_32 : decode cX11_endThing 32 = .ok (.istore_n 3, 1) := by decide +kernel
theorem dX11_endThing_33 : decode cX11_endThing 33 = .ok (.aload_n 0, 1) := by decide +kernel
theorem dX11_endThing_34 : decode cX11_endThing 34 = .ok (.getfield 133, 3) := by decide +kernel
theorem dX11_endThing_37 : decode cX11_endThing 37 = .ok (.iload_n 3, 1) := by decide +kernel
theorem dX11_endThing_38 : decode cX11_endThing 38 = .ok (.aload_n 0, 1) := by decide +kernel
theorem dX11_endThing_39 : decode cX11_endThing 39 = .ok (.getfield 123, 3) := by decide +kernel
theorem dX11_endThing_42 : decode cX11_endThing 42 = .ok (.aload_n 0, 1) := by decide +kernel
theorem dX11_endThing_43 : decode cX11_endThing 43 = .ok (.getfield 426, 3) := by decide +kernel
theorem dX11_endThing_46 : decode cX11_endThing 46 = .ok (.iaload, 1) := by decide +kernel
theorem dX11_endThing_47 : decode cX11_endThing 47 = .ok (.iastore, 1) := by decide +kernel
theorem dX11_endThing_48 : decode cX11_endThing 48 = .ok (.iconst 0, 1) := by decide +kernel
theorem dX11_endThing_49 : decode cX11_endThing 49 = .ok (.istore 4, 2) := by decide +kernel
theorem dX11_endThing_51 : decode cX11_endThing 51 = .ok (.iload 4, 2) := by decide +kernel
theorem dX11_endThing_53 : decode cX11_endThing 53 = .ok (.aload_n 0, 1) := by decide +kernel
theorem dX11_endThing_54 : decode cX11_endThing 54 = .ok (.getfield 133, 3) := by decide +kernel
theorem dX11_endThing_57 : decode cX11_endThing 57 = .ok (.iload_n 3, 1) := by decide +kernel
theorem dX11_endThing_58 : decode cX11_endThing 58 = .ok (.iaload, 1) := by decide +kernel
theorem dX11_endThing_59 : decode cX11_endThing 59 = .ok (.if_icmp .ge 38, 3) := by decide +kernel
theorem dX11_endThing_62 : decode cX11_endThing 62 = .ok (.aload_n 0, 1) := by decide +kernel
theorem dX11_endThing_63 : decode cX11_endThing 63 = .ok (.getfield 130, 3) := by decide +kernel
theorem dX11_endThing_66 : decode cX11_endThing 66 = .ok (.sipush 200, 3) := by decide +kernel
theorem dX11_endThing_69 : decode cX11_endThing 69 = .ok (.iload_n 3, 1) := by decide +kernel
theorem dX11_endThing_70 : decode cX11_endThing 70 = .ok (.imul, 1) := by decide +kernel
theorem dX11_endThing_71 : decode cX11_endThing 71 = .ok (.iload 4, 2) := by decide +kernel
theorem dX11_endThing_73 : decode cX11_endThing 73 = .ok (.iadd, 1) := by decide +kernel
theorem dX11_endThing_74 : decode cX11_endThing 74 = .ok (.aload_n 0, 1) := by decide +kernel
theorem dX11_endThing_75 : decode cX11_endThing 75 = .ok (.getfield 120, 3) := by decide +kernel
theorem dX11_endThing_78 : decode cX11_endThing 78 = .ok (.aload_n 0, 1) := by decide +kernel
theorem dX11_endThing_79 : decode cX11_endThing 79 = .ok (.aload_n 0, 1) := by decide +kernel
theorem dX11_endThing_80 : decode cX11_endThing 80 = .ok (.getfield 426, 3) := by decide +kernel
theorem dX11_endThing_83 : decode cX11_endThing 83 = .ok (.invokevirtual 429, 3) := by decide +kernel
theorem dX11_endThing_86 : decode cX11_endThing 86 = .ok (.iload 4, 2) := by decide +kernel
theorem dX11_endThing_88 : decode cX11_endThing 88 = .ok (.iadd, 1) := by decide +kernel
theorem dX11_endThing_89 : decode cX11_endThing 89 = .ok (.iaload, 1) := by decide +kernel
theorem dX11_endThing_90 : decode cX11_endThing 90 = .ok (.iastore, 1) := by decide +kernel
theorem dX11_endThing_91 : decode cX11_endThing 91 = .ok (.iinc 4 1, 3) := by decide +kernel
theorem dX11_endThing_94 : decode cX11_endThing 94 = .ok (.goto (-43), 3) := by decide +kernel
theorem dX11_endThing_97 : decode cX11_endThing 97 = .ok (.aload_n 0, 1) := by decide +kernel
theorem dX11_endThing_98 : decode cX11_endThing 98 = .ok (.dup, 1) := by decide +kernel
theorem dX11_endThing_99 : decode cX11_endThing 99 = .ok (.getfield 426, 3) := by decide +kernel
theorem dX11_endThing_102 : decode cX11_endThing 102 = .ok (.iconst 1, 1) := by decide +kernel
theorem dX11_endThing_103 : decode cX11_endThing 103 = .ok (.iadd, 1) := by decide +kernel
theorem dX11_endThing_104 : decode cX11_endThing 104 = .ok (.putfield 426, 3) := by decide +kernel
theorem dX11_endThing_107 : decode cX11_endThing 107 = .ok (.return_, 1) := by decide +kernel
theorem dX11_pushHypothesis_0 : decode cX11_pushHypothesis 0 = .ok (.aload_n 0, 1) := by decide +kernel
theorem dX11_pushHypothesis_1 : decode cX11_pushHypothesis 1 = .ok (.getfield 426, 3) := by decide +kernel
theorem dX11_pushHypothesis_4 : decode cX11_pushHypothesis 4 = .ok (.bipush 100, 2) := by decide +kernel
theorem dX11_pushHypothesis_6 : decode cX11_pushHypothesis 6 = .ok (.if_icmp .ne 11, 3) := by decide +kernel
theorem dX11_pushHypothesis_9 : decode cX11_pushHypothesis 9 = .ok (.aload_n 0, 1) := by decide +kernel
theorem dX11_pushHypothesis_10 : decode cX11_pushHypothesis 10 = .ok (.bipush (-10), 2) := by decide +kernel
theorem dX11_pushHypothesis_12 : decode cX11_pushHypothesis 12 = .ok (.iload_n 1, 1) := by decide +kernel
theorem dX11_pushHypothesis_13 : decode cX11_pushHypothesis 13 = .ok (.invokevirtual 410, 3) := by decide +kernel
theorem dX11_pushHypothesis_16 : decode cX11_pushHypothesis 16 = .ok (.ireturn, 1) := by decide +kernel
theorem dX11_pushHypothesis_17 : decode cX11_pushHypothesis 17 = .ok (.aload_n 0, 1) := by decide +kernel
theorem dX11_pushHypothesis_18 : decode cX11_pushHypothesis 18 = .ok (.getfield 123, 3) := by decide +kernel
theorem dX11_pushHypothesis_21 : decode cX11_pushHypothesis 21 = .ok (.aload_n 0, 1) := by decide +kernel
theorem dX11_pushHypothesis_22 : decode cX11_pushHypothesis 22 = .ok (.getfield 426, 3) := by decide +kernel
theorem dX11_pushHypothesis_25 : decode cX11_pushHypothesis 25 = .ok (.aload_n 0, 1) := by decide +kernel
theorem dX11_pushHypothesis_26 : decode cX11_pushHypothesis 26 = .ok (.getfield 44, 3) := by decide +kernel
theorem dX11_pushHypothesis_29 : decode cX11_pushHypothesis 29 = .ok (.aload_n 0, 1) := by decide +kernel
theorem dX11_pushHypothesis_30 : decode cX11_pushHypothesis 30 = .ok (.iload_n 2, 1) := by decide +kernel
theorem dX11_pushHypothesis_31 : decode cX11_pushHypothesis 31 = .ok (.invokevirtual 344, 3) := by decide +kernel
theorem dX11_pushHypothesis_34 : decode cX11_pushHypothesis 34 = .ok (.iaload, 1) := by decide +kernel
theorem dX11_pushHypothesis_35 : decode cX11_pushHypothesis 35 = .ok (.iastore, 1) := by decide +kernel
theorem dX11_pushHypothesis_36 : decode cX11_pushHypothesis 36 = .ok (.iconst 0, 1) := by decide +kernel
theorem dX11_pushHypothesis_37 : decode cX11_pushHypothesis 37 = .ok (.istore_n 3, 1) := by decide +kernel
theorem dX11_pushHypothesis_38 : decode cX11_pushHypothesis 38 = .ok (.iload_n 3, 1) := by decide +kernel
theorem dX11_pushHypothesis_39 : decode cX11_pushHypothesis 39 = .ok (.aload_n 0, 1) := by decide +kernel
theorem dX11_pushHypothesis_40 : decode cX11_pushHypothesis 40 = .ok (.getfield 44, 3) := by decide +kernel
theorem dX11_pushHypothesis_43 : decode cX11_pushHypothesis 43 = .ok (.aload_n 0, 1) := by decide +kernel
theorem dX11_pushHypothesis_44 : decode cX11_pushHypothesis 44 = .ok (.iload_n 2, 1) := by decide +kernel
theorem dX11_pushHypothesis_45 : decode cX11_pushHypothesis 45 = .ok (.invokevirtual 344, 3) := by decide +kernel
theorem dX11_pushHypothesis_48 : decode cX11_pushHypothesis 48 = .ok (.iaload, 1) := by decide +kernel
theorem dX11_pushHypothesis_49 : decode cX11_pushHypothesis 49 = .ok (.if_icmp .ge 50, 3) := by decide +kernel
theorem dX11_pushHypothesis_52 : decode cX11_pushHypothesis 52 = .ok (.aload_n 0, 1) := by decide +kernel
theorem dX11_pushHypothesis_53 : decode cX11_pushHypothesis 53 = .ok (.getfield 120, 3) := by decide +kernel
theorem dX11_pushHypothesis_56 : decode cX11_pushHypothesis 56 = .ok (.aload_n 0, 1) := by decide +kernel
theorem dX11_pushHypothesis_57 : decode cX11_pushHypothesis 57 = .ok (.aload_n 0, 1) := by decide +kernel
theorem dX11_pushHypothesis_58 : decode cX11_pushHypothesis 58 = .ok (.getfield 426, 3) := by decide +kernel
theorem dX11_pushHypothesis_61 : decode cX11_pushHypothesis 61 = .ok (.invokevirtual 429, 3) := by decide +kernel
theorem dX11_pushHypothesis_64 : decode cX11_pushHypothesis 64 = .ok (.iload_n 3, 1) := by decide +kernel
theorem dX11_pushHypothesis_65 : decode cX11_pushHypothesis 65 = .ok (.iadd, 1) := by decide +kernel
theorem dX11_pushHypothesis_66 : decode cX11_pushHypothesis 66 = .ok (.aload_n 0, 1) := by decide +kernel
theorem dX11_pushHypothesis_67 : decode cX11_pushHypothesis 67 = .ok (.getfield 56, 3) := by decide +kernel
theorem dX11_pushHypothesis_70 : decode cX11_pushHypothesis 70 = .ok (.sipush 4096, 3) := by decide +kernel
theorem dX11_pushHypothesis_73 : decode cX11_pushHypothesis 73 = .ok (.aload_n 0, 1) := by decide +kernel
theorem dX11_pushHypothesis_74 : decode cX11_pushHypothesis 74 = .ok (.getfield 226, 3) := by decide +kernel
theorem dX11_pushHypothesis_77 : decode cX11_pushHypothesis 77 = .ok (.imul, 1) := by decide +kernel
theorem dX11_pushHypothesis_78 : decode cX11_pushHypothesis 78 = .ok (.aload_n 0, 1) := by decide +kernel
theorem dX11_pushHypothesis_79 : decode cX11_pushHypothesis 79 = .ok (.getfield 41, 3) := by decide +kernel
theorem dX11_pushHypothesis_82 : decode cX11_pushHypothesis 82 = .ok (.aload_n 0, 1) := by decide +kernel
theorem dX11_pushHypothesis_83 : decode cX11_pushHypothesis 83 = .ok (.iload_n 2, 1) := by decide +kernel
theorem dX11_pushHypothesis_84 : decode cX11_pushHypothesis 84 = .ok (.invokevirtual 344, 3) := by decide +kernel
theorem dX11_pushHypothesis_87 : decode cX11_pushHypothesis 87 = .ok (.iaload, 1) := by decide +kernel
theorem dX11_pushHypothesis_88 : decode cX11_pushHypothesis 88 = .ok (.iadd, 1) := by decide +kernel
theorem dX11_pushHypothesis_89 : decode cX11_pushHypothesis 89 = .ok (.iload_n 3, 1) := by decide +kernel
theorem dX11_pushHypothesis_90 : decode cX11_pushHypothesis 90 = .ok (.iadd, 1) := by decide +kernel
theorem dX11_pushHypothesis_91 : decode cX11_pushHypothesis 91 = .ok (.iaload, 1) := by decide +kernel
theorem dX11_pushHypothesis_92 : decode cX11_pushHypothesis 92 = .ok (.iastore, 1) := by decide +kernel
theorem dX11_pushHypothesis_93 : decode cX11_pushHypothesis 93 = .ok (.iinc 3 1, 3) := by decide +kernel
theorem dX11_pushHypothesis_96 : decode cX11_pushHypothesis 96 = .ok (.goto (-58), 3) := by decide +kernel
theorem dX11_pushHypothesis_99 : decode cX11_pushHypothesis 99 = .ok (.aload_n 0, 1) := by decide +kernel
theorem dX11_pushHypothesis_100 : decode cX11_pushHypothesis 100 = .ok (.getfield 145, 3) := by decide +kernel
theorem dX11_pushHypothesis_103 : decode cX11_pushHypothesis 103 = .ok (.iload_n 1, 1) := by decide +kernel
theorem dX11_pushHypothesis_104 : decode cX11_pushHypothesis 104 = .ok (.aload_n 0, 1) := by decide +kernel
theorem dX11_pushHypothesis_105 : decode cX11_pushHypothesis 105 = .ok (.getfield 432, 3) := by decide +kernel
theorem dX11_pushHypothesis_108 : decode cX11_pushHypothesis 108 = .ok (.iastore, 1) := by decide +kernel
theorem dX11_pushHypothesis_109 : decode cX11_pushHypothesis 109 = .ok (.aload_n 0, 1) := by decide +kernel
theorem dX11_pushHypothesis_110 : decode cX11_pushHypothesis 110 = .ok (.getfield 148, 3) := by decide +kernel
theorem dX11_pushHypothesis_113 : decode cX11_pushHypothesis 113 = .ok (.iload_n 1, 1) := by decide +kernel
theorem dX11_pushHypothesis_114 : decode cX11_pushHypothesis 114 = .ok (.iconst 0, 1) := by decide +kernel
theorem dX11_pushHypothesis_115 : decode cX11_pushHypothesis 115 = .ok (.iastore, 1) := by decide +kernel
theorem dX11_pushHypothesis_116 : decode cX11_pushHypothesis 116 = .ok (.aload_n 0, 1) := by decide +kernel
theorem dX11_pushHypothesis_117 : decode cX11_pushHypothesis 117 = .ok (.iload_n 1, 1) := by decide +kernel
theorem dX11_pushHypothesis_118 : decode cX11_pushHypothesis 118 = .ok (.iload_n 1, 1) := by decide +kernel
theorem dX11_pushHypothesis_119 : decode cX11_pushHypothesis 119 = .ok (.invokevirtual 435, 3) := by decide +kernel
theorem dX11_pushHypothesis_122 : decode cX11_pushHypothesis 122 = .ok (.iconst 1, 1) := by decide +kernel
theorem dX11_pushHypothesis_123 : decode cX11_pushHypothesis 123 = .ok (.ireturn, 1) := by decide +kernel
theorem dX11_pushMarked_0 : decode cX11_pushMarked 0 = .ok (.aload_n 0, 1) := by decide +kernel
theorem dX11_pushMarked_1 : decode cX11_pushMarked 1 = .ok (.getfield 426, 3) := by decide +kernel
theorem dX11_pushMarked_4 : decode cX11_pushMarked 4 = .ok (.bipush 100, 2) := by decide +kernel
theorem dX11_pushMarked_6 : decode cX11_pushMarked 6 = .ok (.if_icmp .ne 11, 3) := by decide +kernel
theorem dX11_pushMarked_9 : decode cX11_pushMarked 9 = .ok (.aload_n 0, 1) := by decide +kernel
theorem dX11_pushMarked_10 : decode cX11_pushMarked 10 = .ok (.bipush (-10), 2) := by decide +kernel
theorem dX11_pushMarked_12 : decode cX11_pushMarked 12 = .ok (.iload_n 1, 1) := by decide +kernel
theorem dX11_pushMarked_13 : decode cX11_pushMarked 13 = .ok (.invokevirtual 410, 3) := by decide +kernel
theorem dX11_pushMarked_16 : decode cX11_pushMarked 16 = .ok (.ireturn, 1) := by decide +kernel
theorem dX11_pushMarked_17 : decode cX11_pushMarked 17 = .ok (.aload_n 0, 1) := by decide +kernel
theorem dX11_pushMarked_18 : decode cX11_pushMarked 18 = .ok (.getfield 123, 3) := by decide +kernel
theorem dX11_pushMarked_21 : decode cX11_pushMarked 21 = .ok (.aload_n 0, 1) := by decide +kernel
theorem dX11_pushMarked_22 : decode cX11_pushMarked 22 = .ok (.getfield 426, 3) := by decide +kernel
theorem dX11_pushMarked_25 : decode cX11_pushMarked 25 = .ok (.aload_n 0, 1) := by decide +kernel
theorem dX11_pushMarked_26 : decode cX11_pushMarked 26 = .ok (.getfield 133, 3) := by decide +kernel
theorem dX11_pushMarked_29 : decode cX11_pushMarked 29 = .ok (.iload_n 2, 1) := by decide +kernel
theorem dX11_pushMarked_30 : decode cX11_pushMarked 30 = .ok (.iaload, 1) := by decide +kernel
theorem dX11_pushMarked_31 : decode cX11_pushMarked 31 = .ok (.iastore, 1) := by decide +kernel
theorem dX11_pushMarked_32 : decode cX11_pushMarked 32 = .ok (.iconst 0, 1) := by decide +kernel
theorem dX11_pushMarked_33 : decode cX11_pushMarked 33 = .ok (.istore_n 3, 1) := by decide +kernel
theorem dX11_pushMarked_34 : decode cX11_pushMarked 34 = .ok (.iload_n 3, 1) := by decide +kernel
theorem dX11_pushMarked_35 : decode cX11_pushMarked 35 = .ok (.aload_n 0, 1) := by decide +kernel
theorem dX11_pushMarked_36 : decode cX11_pushMarked 36 = .ok (.getfield 133, 3) := by decide +kernel
theorem dX11_pushMarked_39 : decode cX11_pushMarked 39 = .ok (.iload_n 2, 1) := by decide +kernel
theorem dX11_pushMarked_40 : decode cX11_pushMarked 40 = .ok (.iaload, 1) := by decide +kernel
theorem dX11_pushMarked_41 : decode cX11_pushMarked 41 = .ok (.if_icmp .ge 36, 3) := by decide +kernel
theorem dX11_pushMarked_44 : decode cX11_pushMarked 44 = .ok (.aload_n 0, 1) := by decide +kernel
theorem dX11_pushMarked_45 : decode cX11_pushMarked 45 = .ok (.getfield 120, 3) := by decide +kernel
theorem dX11_pushMarked_48 : decode cX11_pushMarked 48 = .ok (.aload_n 0, 1) := by decide +kernel
theorem dX11_pushMarked_49 : decode cX11_pushMarked 49 = .ok (.aload_n 0, 1) := by decide +kernel
theorem dX11_pushMarked_50 : decode cX11_pushMarked 50 = .ok (.getfield 426, 3) := by decide +kernel
theorem dX11_pushMarked_53 : decode cX11_pushMarked 53 = .ok (.invokevirtual 429, 3) := by decide +kernel
theorem dX11_pushMarked_56 : decode cX11_pushMarked 56 = .ok (.iload_n 3, 1) := by decide +kernel
theorem dX11_pushMarked_57 : decode cX11_pushMarked 57 = .ok (.iadd, 1) := by decide +kernel
theorem dX11_pushMarked_58 : decode cX11_pushMarked 58 = .ok (.aload_n 0, 1) := by decide +kernel
theorem dX11_pushMarked_59 : decode cX11_pushMarked 59 = .ok (.getfield 130, 3) := by decide +kernel
theorem dX11_pushMarked_62 : decode cX11_pushMarked 62 = .ok (.sipush 200, 3) := by decide +kernel
theorem dX11_pushMarked_65 : decode cX11_pushMarked 65 = .ok (.iload_n 2, 1) := by decide +kernel
theorem dX11_pushMarked_66 : decode cX11_pushMarked 66 = .ok (.imul, 1) := by decide +kernel
theorem dX11_pushMarked_67 : decode cX11_pushMarked 67 = .ok (.iload_n 3, 1) := by decide +kernel
theorem dX11_pushMarked_68 : decode cX11_pushMarked 68 = .ok (.iadd, 1) := by decide +kernel
theorem dX11_pushMarked_69 : decode cX11_pushMarked 69 = .ok (.iaload, 1) := by decide +kernel
theorem dX11_pushMarked_70 : decode cX11_pushMarked 70 = .ok (.iastore, 1) := by decide +kernel
theorem dX11_pushMarked_71 : decode cX11_pushMarked 71 = .ok (.iinc 3 1, 3) := by decide +kernel
theorem dX11_pushMarked_74 : decode cX11_pushMarked 74 = .ok (.goto (-40), 3) := by decide +kernel
theorem dX11_pushMarked_77 : decode cX11_pushMarked 77 = .ok (.aload_n 0, 1) := by decide +kernel
theorem dX11_pushMarked_78 : decode cX11_pushMarked 78 = .ok (.getfield 145, 3) := by decide +kernel
theorem dX11_pushMarked_81 : decode cX11_pushMarked 81 = .ok (.iload_n 1, 1) := by decide +kernel
theorem dX11_pushMarked_82 : decode cX11_pushMarked 82 = .ok (.aload_n 0, 1) := by decide +kernel
theorem dX11_pushMarked_83 : decode cX11_pushMarked 83 = .ok (.getfield 432, 3) := by decide +kernel
theorem dX11_pushMarked_86 : decode cX11_pushMarked 86 = .ok (.iastore, 1) := by decide +kernel
theorem dX11_pushMarked_87 : decode cX11_pushMarked 87 = .ok (.aload_n 0, 1) := by decide +kernel
theorem dX11_pushMarked_88 : decode cX11_pushMarked 88 = .ok (.getfield 148, 3) := by decide +kernel
theorem dX11_pushMarked_91 : decode cX11_pushMarked 91 = .ok (.iload_n 1, 1) := by decide +kernel
theorem dX11_pushMarked_92 : decode cX11_pushMarked 92 = .ok (.iconst 0, 1) := by decide +kernel
theorem dX11_pushMarked_93 : decode cX11_pushMarked 93 = .ok (.iastore, 1) := by decide +kernel
theorem dX11_pushMarked_94 : decode cX11_pushMarked 94 = .ok (.aload_n 0, 1) := by decide +kernel
theorem dX11_pushMarked_95 : decode cX11_pushMarked 95 = .ok (.iload_n 1, 1) := by decide +kernel
theorem dX11_pushMarked_96 : decode cX11_pushMarked 96 = .ok (.aload_n 0, 1) := by decide +kernel
theorem dX11_pushMarked_97 : decode cX11_pushMarked 97 = .ok (.getfield 151, 3) := by decide +kernel
theorem dX11_pushMarked_100 : decode cX11_pushMarked 100 = .ok (.aload_n 0, 1) := by decide +kernel
theorem dX11_pushMarked_101 : decode cX11_pushMarked 101 = .ok (.getfield 114, 3) := by decide +kernel
theorem dX11_pushMarked_104 : decode cX11_pushMarked 104 = .ok (.iload_n 2, 1) := by decide +kernel
theorem dX11_pushMarked_105 : decode cX11_pushMarked 105 = .ok (.iaload, 1) := by decide +kernel
theorem dX11_pushMarked_106 : decode cX11_pushMarked 106 = .ok (.iaload, 1) := by decide +kernel
theorem dX11_pushMarked_107 : decode cX11_pushMarked 107 = .ok (.invokevirtual 435, 3) := by decide +kernel
theorem dX11_pushMarked_110 : decode cX11_pushMarked 110 = .ok (.iconst 1, 1) := by decide +kernel
theorem dX11_pushMarked_111 : decode cX11_pushMarked 111 = .ok (.ireturn, 1) := by decide +kernel
theorem dX11_substitute_0 : decode cX11_substitute 0 = .ok (.iconst 0, 1) := by decide +kernel
theorem dX11_substitute_1 : decode cX11_substitute 1 = .ok (.istore_n 2, 1) := by decide +kernel
theorem dX11_substitute_2 : decode cX11_substitute 2 = .ok (.iconst 0, 1) := by decide +kernel
theorem dX11_substitute_3 : decode cX11_substitute 3 = .ok (.istore_n 3, 1) := by decide +kernel
theorem dX11_substitute_4 : decode cX11_substitute 4 = .ok (.iload_n 3, 1) := by decide +kernel
theorem dX11_substitute_5 : decode cX11_substitute 5 = .ok (.aload_n 0, 1) := by decide +kernel
theorem dX11_substitute_6 : decode cX11_substitute 6 = .ok (.getfield 44, 3) := by decide +kernel
theorem dX11_substitute_9 : decode cX11_substitute 9 = .ok (.aload_n 0, 1) := by decide +kernel
theorem dX11_substitute_10 : decode cX11_substitute 10 = .ok (.iload_n 1, 1) := by decide +kernel
theorem dX11_substitute_11 : decode cX11_substitute 11 = .ok (.invokevirtual 344, 3) := by decide +kernel
theorem dX11_substitute_14 : decode cX11_substitute 14 = .ok (.iaload, 1) := by decide +kernel
theorem dX11_substitute_15 : decode cX11_substitute 15 = .ok (.if_icmp .ge 150, 3) := by decide +kernel
theorem dX11_substitute_18 : decode cX11_substitute 18 = .ok (.aload_n 0, 1) := by decide +kernel
theorem dX11_substitute_19 : decode cX11_substitute 19 = .ok (.getfield 56, 3) := by decide +kernel
theorem dX11_substitute_22 : decode cX11_substitute 22 = .ok (.sipush 4096, 3) := by decide +kernel
theorem dX11_substitute_25 : decode cX11_substitute 25 = .ok (.aload_n 0, 1) := by decide +kernel
theorem dX11_substitute_26 : decode cX11_substitute 26 = .ok (.getfield 226, 3) := by decide +kernel
theorem dX11_substitute_29 : decode cX11_substitute 29 = .ok (.imul, 1) := by decide +kernel
theorem dX11_substitute_30 : decode cX11_substitute 30 = .ok (.aload_n 0, 1) := by decide +kernel
theorem dX11_substitute_31 : decode cX11_substitute 31 = .ok (.getfield 41, 3) := by decide +kernel
theorem dX11_substitute_34 : decode cX11_substitute 34 = .ok (.aload_n 0, 1) := by decide +kernel
theorem dX11_substitute_35 : decode cX11_substitute 35 = .ok (.iload_n 1, 1) := by decide +kernel
theorem dX11_substitute_36 : decode cX11_substitute 36 = .ok (.invokevirtual 344, 3) := by decide +kernel
theorem dX11_substitute_39 : decode cX11_substitute 39 = .ok (.iaload, 1) := by decide +kernel
theorem dX11_substitute_40 : decode cX11_substitute 40 = .ok (.iadd, 1) := by decide +kernel
theorem dX11_substitute_41 : decode cX11_substitute 41 = .ok (.iload_n 3, 1) := by decide +kernel
theorem dX11_substitute_42 : decode cX11_substitute 42 = .ok (.iadd, 1) := by decide +kernel
theorem dX11_substitute_43 : decode cX11_substitute 43 = .ok (.iaload, 1) := by decide +kernel
theorem dX11_substitute_44 : decode cX11_substitute 44 = .ok (.istore 4, 2) := by decide +kernel
theorem dX11_substitute_46 : decode cX11_substitute 46 = .ok (.aload_n 0, 1) := by decide +kernel
theorem dX11_substitute_47 : decode cX11_substitute 47 = .ok (.getfield 22, 3) := by decide +kernel
theorem dX11_substitute_50 : decode cX11_substitute 50 = .ok (.sipush 300, 3) := by decide +kernel
theorem dX11_substitute_53 : decode cX11_substitute 53 = .ok (.aload_n 0, 1) := by decide +kernel
theorem dX11_substitute_54 : decode cX11_substitute 54 = .ok (.getfield 226, 3) := by decide +kernel
theorem dX11_substitute_57 : decode cX11_substitute 57 = .ok (.imul, 1) := by decide +kernel
theorem dX11_substitute_58 : decode cX11_substitute 58 = .ok (.iload 4, 2) := by decide +kernel
theorem dX11_substitute_60 : decode cX11_substitute 60 = .ok (.iadd, 1) := by decide +kernel
theorem dX11_substitute_61 : decode cX11_substitute 61 = .ok (.baload, 1) := by decide +kernel
theorem dX11_substitute_62 : decode cX11_substitute 62 = .ok (.istore 5, 2) := by decide +kernel
theorem dX11_substitute_64 : decode cX11_substitute 64 = .ok (.iload 5, 2) := by decide +kernel
theorem dX11_substitute_66 : decode cX11_substitute 66 = .ok (.ifCond .eq 20, 3) := by decide +kernel
theorem dX11_substitute_69 : decode cX11_substitute 69 = .ok (.aload_n 0, 1) := by decide +kernel
theorem dX11_substitute_70 : decode cX11_substitute 70 = .ok (.getfield 123, 3) := by decide +kernel
theorem dX11_substitute_73 : decode cX11_substitute 73 = .ok (.aload_n 0, 1) := by decide +kernel
theorem dX11_substitute_74 : decode cX11_substitute 74 = .ok (.getfield 139, 3) := by decide +kernel
theorem dX11_substitute_77 : decode cX11_substitute 77 = .ok (.iload 4, 2) := by decide +kernel
theorem dX11_substitute_79 : decode cX11_substitute 79 = .ok (.iaload, 1) := by decide +kernel
theorem dX11_substitute_80 : decode cX11_substitute 80 = .ok (.iaload, 1) := by decide +kernel
theorem dX11_substitute_81 : decode cX11_substitute 81 = .ok (.iconst 1, 1) := by decide +kernel
theorem dX11_substitute_82 : decode cX11_substitute 82 = .ok (.isub, 1) := by decide +kernel
theorem dX11_substitute_83 : decode cX11_substitute 83 = .ok (.goto 4, 3) := by decide +kernel
theorem dX11_substitute_86 : decode cX11_substitute 86 = .ok (.iconst 1, 1) := by decide +kernel
theorem dX11_substitute_87 : decode cX11_substitute 87 = .ok (.istore 6, 2) := by decide +kernel
theorem dX11_substitute_89 : decode cX11_substitute 89 = .ok (.iload_n 2, 1) := by decide +kernel
theorem dX11_substitute_90 : decode cX11_substitute 90 = .ok (.iload 6, 2) := by decide +kernel
theorem dX11_substitute_92 : decode cX11_substitute 92 = .ok (.iadd, 1) := by decide +kernel
theorem dX11_substitute_93 : decode cX11_substitute 93 = .ok (.sipush 200, 3) := by decide +kernel
theorem dX11_substitute_96 : decode cX11_substitute 96 = .ok (.if_icmp .le 7, 3) := by decide +kernel
theorem dX11_substitute_99 : decode cX11_substitute 99 = .ok (.sipush 201, 3) := by decide +kernel
theorem dX11_substitute_102 : decode cX11_substitute 102 = .ok (.ireturn, 1) := by decide +kernel
theorem dX11_substitute_103 : decode cX11_substitute 103 = .ok (.iconst 0, 1) := by decide +kernel
theorem dX11_substitute_104 : decode cX11_substitute 104 = .ok (.istore 7, 2) := by decide +kernel
theorem dX11_substitute_106 : decode cX11_substitute 106 = .ok (.iload 7, 2) := by decide +kernel
theorem dX11_substitute_108 : decode cX11_substitute 108 = .ok (.iload 6, 2) := by decide +kernel
theorem dX11_substitute_110 : decode cX11_substitute 110 = .ok (.if_icmp .ge 49, 3) := by decide +kernel
theorem dX11_substitute_113 : decode cX11_substitute 113 = .ok (.aload_n 0, 1) := by decide +kernel
theorem dX11_substitute_114 : decode cX11_substitute 114 = .ok (.getfield 136, 3) := by decide +kernel
theorem dX11_substitute_117 : decode cX11_substitute 117 = .ok (.iload_n 2, 1) := by decide +kernel
theorem dX11_substitute_118 : decode cX11_substitute 118 = .ok (.iload 5, 2) := by decide +kernel
theorem dX11_substitute_120 : decode cX11_substitute 120 = .ok (.ifCond .eq 27, 3) := by decide +kernel
theorem dX11_substitute_123 : decode cX11_substitute 123 = .ok (.aload_n 0, 1) := by decide +kernel
theorem dX11_substitute_124 : decode cX11_substitute 124 = .ok (.getfield 120, 3) := by decide +kernel
theorem dX11_substitute_127 : decode cX11_substitute 127 = .ok (.aload_n 0, 1) := by decide +kernel
theorem dX11_substitute_128 : decode cX11_substitute 128 = .ok (.aload_n 0, 1) := by decide +kernel
theorem dX11_substitute_129 : decode cX11_substitute 129 = .ok (.getfield 139, 3) := by decide +kernel
theorem dX11_substitute_132 : decode cX11_substitute 132 = .ok (.iload 4, 2) := by decide +kernel
theorem dX11_substitute_134 : decode cX11_substitute 134 = .ok (.iaload, 1) := by decide +kernel
theorem dX11_substitute_135 : decode cX11_substitute 135 = .ok (.invokevirtual 429, 3) := by decide +kernel
theorem dX11_substitute_138 : decode cX11_substitute 138 = .ok (.iconst 1, 1) := by decide +kernel
theorem dX11_substitute_139 : decode cX11_substitute 139 = .ok (.iadd, 1) := by decide +kernel
theorem dX11_substitute_140 : decode cX11_substitute 140 = .ok (.iload 7, 2) := by decide +kernel
theorem dX11_substitute_142 : decode cX11_substitute 142 = .ok (.iadd, 1) := by decide +kernel
theorem dX11_substitute_143 : decode cX11_substitute 143 = .ok (.iaload, 1) := by decide +kernel
theorem dX11_substitute_144 : decode cX11_substitute 144 = .ok (.goto 5, 3) := by decide +kernel
theorem dX11_substitute_147 : decode cX11_substitute 147 = .ok (.iload 4, 2) := by decide +kernel
theorem dX11_substitute_149 : decode cX11_substitute 149 = .ok (.iastore, 1) := by decide +kernel
theorem dX11_substitute_150 : decode cX11_substitute 150 = .ok (.iinc 2 1, 3) := by decide +kernel
theorem dX11_substitute_153 : decode cX11_substitute 153 = .ok (.iinc 7 1, 3) := by decide +kernel
theorem dX11_substitute_156 : decode cX11_substitute 156 = .ok (.goto (-50), 3) := by decide +kernel
theorem dX11_substitute_159 : decode cX11_substitute 159 = .ok (.iinc 3 1, 3) := by decide +kernel
theorem dX11_substitute_162 : decode cX11_substitute 162 = .ok (.goto (-158), 3) := by decide +kernel
theorem dX11_substitute_165 : decode cX11_substitute 165 = .ok (.iload_n 2, 1) := by decide +kernel
theorem dX11_substitute_166 : decode cX11_substitute 166 = .ok (.ireturn, 1) := by decide +kernel
theorem dX11_meets_0 : decode cX11_meets 0 = .ok (.aload_n 0, 1) := by decide +kernel
theorem dX11_meets_1 : decode cX11_meets 1 = .ok (.getfield 29, 3) := by decide +kernel
theorem dX11_meets_4 : decode cX11_meets 4 = .ok (.aload_n 0, 1) := by decide +kernel
theorem dX11_meets_5 : decode cX11_meets 5 = .ok (.iload_n 2, 1) := by decide +kernel
theorem dX11_meets_6 : decode cX11_meets 6 = .ok (.invokevirtual 344, 3) := by decide +kernel
theorem dX11_meets_9 : decode cX11_meets 9 = .ok (.iaload, 1) := by decide +kernel
theorem dX11_meets_10 : decode cX11_meets 10 = .ok (.ifCond .ne 82, 3) := by decide +kernel
theorem dX11_meets_13 : decode cX11_meets 13 = .ok (.aload_n 0, 1) := by decide +kernel
theorem dX11_meets_14 : decode cX11_meets 14 = .ok (.getfield 120, 3) := by decide +kernel
theorem dX11_meets_17 : decode cX11_meets 17 = .ok (.aload_n 0, 1) := by decide +kernel
theorem dX11_meets_18 : decode cX11_meets 18 = .ok (.iload_n 3, 1) := by decide +kernel
theorem dX11_meets_19 : decode cX11_meets 19 = .ok (.invokevirtual 429, 3) := by decide +kernel
theorem dX11_meets_22 : decode cX11_meets 22 = .ok (.iaload, 1) := by decide +kernel
theorem dX11_meets_23 : decode cX11_meets 23 = .ok (.aload_n 0, 1) := by decide +kernel
theorem dX11_meets_24 : decode cX11_meets 24 = .ok (.getfield 56, 3) := by decide +kernel
theorem dX11_meets_27 : decode cX11_meets 27 = .ok (.sipush 4096, 3) := by decide +kernel
theorem dX11_meets_30 : decode cX11_meets 30 = .ok (.aload_n 0, 1) := by decide +kernel
theorem dX11_meets_31 : decode cX11_meets 31 = .ok (.getfield 226, 3) := by decide +kernel
theorem dX11_meets_34 : decode cX11_meets 34 = .ok (.imul, 1) := by decide +kernel
theorem dX11_meets_35 : decode cX11_meets 35 = .ok (.aload_n 0, 1) := by decide +kernel
theorem dX11_meets_36 : decode cX11_meets 36 = .ok (.getfield 41, 3) := by decide +kernel
theorem dX11_meets_39 : decode cX11_meets 39 = .ok (.aload_n 0, 1) := by decide +kernel
theorem dX11_meets_40 : decode cX11_meets 40 = .ok (.iload_n 2, 1) := by decide +kernel
theorem dX11_meets_41 : decode cX11_meets 41 = .ok (.invokevirtual 344, 3) := by decide +kernel
theorem dX11_meets_44 : decode cX11_meets 44 = .ok (.iaload, 1) := by decide +kernel
theorem dX11_meets_45 : decode cX11_meets 45 = .ok (.iadd, 1) := by decide +kernel
theorem dX11_meets_46 : decode cX11_meets 46 = .ok (.iaload, 1) := by decide +kernel
theorem dX11_meets_47 : decode cX11_meets 47 = .ok (.if_icmp .eq 11, 3) := by decide +kernel
theorem dX11_meets_50 : decode cX11_meets 50 = .ok (.aload_n 0, 1) := by decide +kernel
theorem dX11_meets_51 : decode cX11_meets 51 = .ok (.bipush (-5), 2) := by decide +kernel
theorem dX11_meets_53 : decode cX11_meets 53 = .ok (.iload_n 1, 1) := by decide +kernel
theorem dX11_meets_54 : decode cX11_meets 54 = .ok (.invokevirtual 410, 3) := by decide +kernel
theorem dX11_meets_57 : decode cX11_meets 57 = .ok (.ireturn, 1) := by decide +kernel
theorem dX11_meets_58 : decode cX11_meets 58 = .ok (.aload_n 0, 1) := by decide +kernel
theorem dX11_meets_59 : decode cX11_meets 59 = .ok (.getfield 139, 3) := by decide +kernel
theorem dX11_meets_62 : decode cX11_meets 62 = .ok (.aload_n 0, 1) := by decide +kernel
theorem dX11_meets_63 : decode cX11_meets 63 = .ok (.getfield 56, 3) := by decide +kernel
theorem dX11_meets_66 : decode cX11_meets 66 = .ok (.sipush 4096, 3) := by decide +kernel
theorem dX11_meets_69 : decode cX11_meets 69 = .ok (.aload_n 0, 1) := by decide +kernel
theorem dX11_meets_70 : decode cX11_meets 70 = .ok (.getfield 226, 3) := by decide +kernel
theorem dX11_meets_73 : decode cX11_meets 73 = .ok (.imul, 1) := by decide +kernel
theorem dX11_meets_74 : decode cX11_meets 74 = .ok (.aload_n 0, 1) := by decide +kernel
theorem dX11_meets_75 : decode cX11_meets 75 = .ok (.getfield 41, 3) := by decide +kernel
theorem dX11_meets_78 : decode cX11_meets 78 = .ok (.aload_n 0, 1) := by decide +kernel
theorem dX11_meets_79 : decode cX11_meets 79 = .ok (.iload_n 2, 1) := by decide +kernel
theorem dX11_meets_80 : decode cX11_meets 80 = .ok (.invokevirtual 344, 3) := by decide +kernel
theorem dX11_meets_83 : decode cX11_meets 83 = .ok (.iaload, 1) := by decide +kernel
theorem dX11_meets_84 : decode cX11_meets 84 = .ok (.iadd, 1) := by decide +kernel
theorem dX11_meets_85 : decode cX11_meets 85 = .ok (.iconst 1, 1) := by decide +kernel
theorem dX11_meets_86 : decode cX11_meets 86 = .ok (.iadd, 1) := by decide +kernel
theorem dX11_meets_87 : decode cX11_meets 87 = .ok (.iaload, 1) := by decide +kernel
theorem dX11_meets_88 : decode cX11_meets 88 = .ok (.iload_n 3, 1) := by decide +kernel
theorem dX11_meets_89 : decode cX11_meets 89 = .ok (.iastore, 1) := by decide +kernel
theorem dX11_meets_90 : decode cX11_meets 90 = .ok (.iconst 1, 1) := by decide +kernel
theorem dX11_meets_91 : decode cX11_meets 91 = .ok (.ireturn, 1) := by decide +kernel
theorem dX11_meets_92 : decode cX11_meets 92 = .ok (.aload_n 0, 1) := by decide +kernel
theorem dX11_meets_93 : decode cX11_meets 93 = .ok (.iload_n 2, 1) := by decide +kernel
theorem dX11_meets_94 : decode cX11_meets 94 = .ok (.invokevirtual 438, 3) := by decide +kernel
theorem dX11_meets_97 : decode cX11_meets 97 = .ok (.istore 4, 2) := by decide +kernel
theorem dX11_meets_99 : decode cX11_meets 99 = .ok (.iload 4, 2) := by decide +kernel
theorem dX11_meets_101 : decode cX11_meets 101 = .ok (.aload_n 0, 1) := by decide +kernel
theorem dX11_meets_102 : decode cX11_meets 102 = .ok (.getfield 123, 3) := by decide +kernel
theorem dX11_meets_105 : decode cX11_meets 105 = .ok (.iload_n 3, 1) := by decide +kernel
theorem dX11_meets_106 : decode cX11_meets 106 = .ok (.iaload, 1) := by decide +kernel
theorem dX11_meets_107 : decode cX11_meets 107 = .ok (.if_icmp .ne 7, 3) := by decide +kernel
theorem dX11_meets_110 : decode cX11_meets 110 = .ok (.iconst 1, 1) := by decide +kernel
theorem dX11_meets_111 : decode cX11_meets 111 = .ok (.goto 4, 3) := by decide +kernel
theorem dX11_meets_114 : decode cX11_meets 114 = .ok (.iconst 0, 1) := by decide +kernel
theorem dX11_meets_115 : decode cX11_meets 115 = .ok (.istore 5, 2) := by decide +kernel
theorem dX11_meets_117 : decode cX11_meets 117 = .ok (.iconst 0, 1) := by decide +kernel
theorem dX11_meets_118 : decode cX11_meets 118 = .ok (.istore 6, 2) := by decide +kernel
theorem dX11_meets_120 : decode cX11_meets 120 = .ok (.iload 6, 2) := by decide +kernel
theorem dX11_meets_122 : decode cX11_meets 122 = .ok (.iload 4, 2) := by decide +kernel
theorem dX11_meets_124 : decode cX11_meets 124 = .ok (.if_icmp .ge 44, 3) := by decide +kernel
theorem dX11_meets_127 : decode cX11_meets 127 = .ok (.iload 5, 2) := by decide +kernel
theorem dX11_meets_129 : decode cX11_meets 129 = .ok (.ifCond .eq 39, 3) := by decide +kernel
theorem dX11_meets_132 : decode cX11_meets 132 = .ok (.aload_n 0, 1) := by decide +kernel
theorem dX11_meets_133 : decode cX11_meets 133 = .ok (.getfield 136, 3) := by decide +kernel
theorem dX11_meets_136 : decode cX11_meets 136 = .ok (.iload 6, 2) := by decide +kernel
theorem dX11_meets_138 : decode cX11_meets 138 = .ok (.iaload, 1) := by decide +kernel
theorem dX11_meets_139 : decode cX11_meets 139 = .ok (.aload_n 0, 1) := by decide +kernel
theorem dX11_meets_140 : decode cX11_meets 140 = .ok (.getfield 120, 3) := by decide +kernel
theorem dX11_meets_143 : decode cX11_meets 143 = .ok (.aload_n 0, 1) := by decide +kernel
theorem dX11_meets_144 : decode cX11_meets 144 = .ok (.iload_n 3, 1) := by decide +kernel
theorem dX11_meets_145 : decode cX11_meets 145 = .ok (.invokevirtual 429, 3) := by decide +kernel
theorem dX11_meets_148 : decode cX11_meets 148 = .ok (.iload 6, 2) := by decide +kernel
theorem dX11_meets_150 : decode cX11_meets 150 = .ok (.iadd, 1) := by decide +kernel
theorem dX11_meets_151 : decode cX11_meets 151 = .ok (.iaload, 1) := by decide +kernel
theorem dX11_meets_152 : decode cX11_meets 152 = .ok (.if_icmp .ne 7, 3) := by decide +kernel
theorem dX11_meets_155 : decode cX11_meets 155 = .ok (.iconst 1, 1) := by decide +kernel
theorem dX11_meets_156 : decode cX11_meets 156 = .ok (.goto 4, 3) := by decide +kernel
theorem dX11_meets_159 : decode cX11_meets 159 = .ok (.iconst 0, 1) := by decide +kernel
theorem dX11_meets_160 : decode cX11_meets 160 = .ok (.istore 5, 2) := by decide +kernel
theorem dX11_meets_162 : decode cX11_meets 162 = .ok (.iinc 6 1, 3) := by decide +kernel
theorem dX11_meets_165 : decode cX11_meets 165 = .ok (.goto (-45), 3) := by decide +kernel
theorem dX11_meets_168 : decode cX11_meets 168 = .ok (.iload 5, 2) := by decide +kernel
theorem dX11_meets_170 : decode cX11_meets 170 = .ok (.ifCond .ne 13, 3) := by decide +kernel
theorem dX11_meets_173 : decode cX11_meets 173 = .ok (.aload_n 0, 1) := by decide +kernel
theorem dX11_meets_174 : decode cX11_meets 174 = .ok (.bipush (-6), 2) := by decide +kernel
theorem dX11_meets_176 : decode cX11_meets 176 = .ok (.iload_n 1, 1) := by decide +kernel
theorem dX11_meets_177 : decode cX11_meets 177 = .ok (.invokevirtual 410, 3) := by decide +kernel
theorem dX11_meets_180 : decode cX11_meets 180 = .ok (.ifCond .eq 7, 3) := by decide +kernel
theorem dX11_meets_183 : decode cX11_meets 183 = .ok (.iconst 1, 1) := by decide +kernel
theorem dX11_meets_184 : decode cX11_meets 184 = .ok (.goto 4, 3) := by decide +kernel
theorem dX11_meets_187 : decode cX11_meets 187 = .ok (.iconst 0, 1) := by decide +kernel
theorem dX11_meets_188 : decode cX11_meets 188 = .ok (.ireturn, 1) := by decide +kernel
theorem dX11_keepApart_0 : decode cX11_keepApart 0 = .ok (.aload_n 0, 1) := by decide +kernel
theorem dX11_keepApart_1 : decode cX11_keepApart 1 = .ok (.getfield 139, 3) := by decide +kernel
theorem dX11_keepApart_4 : decode cX11_keepApart 4 = .ok (.iload_n 2, 1) := by decide +kernel
theorem dX11_keepApart_5 : decode cX11_keepApart 5 = .ok (.iaload, 1) := by decide +kernel
theorem dX11_keepApart_6 : decode cX11_keepApart 6 = .ok (.istore 4, 2) := by decide +kernel
theorem dX11_keepApart_8 : decode cX11_keepApart 8 = .ok (.aload_n 0, 1) := by decide +kernel
theorem dX11_keepApart_9 : decode cX11_keepApart 9 = .ok (.getfield 139, 3) := by decide +kernel
theorem dX11_keepApart_12 : decode cX11_keepApart 12 = .ok (.iload_n 3, 1) := by decide +kernel
theorem dX11_keepApart_13 : decode cX11_keepApart 13 = .ok (.iaload, 1) := by decide +kernel
theorem dX11_keepApart_14 : decode cX11_keepApart 14 = .ok (.istore 5, 2) := by decide +kernel
theorem dX11_keepApart_16 : decode cX11_keepApart 16 = .ok (.iconst 1, 1) := by decide +kernel
theorem dX11_keepApart_17 : decode cX11_keepApart 17 = .ok (.istore 6, 2) := by decide +kernel
theorem dX11_keepApart_19 : decode cX11_keepApart 19 = .ok (.iconst 1, 1) := by decide +kernel
theorem dX11_keepApart_20 : decode cX11_keepApart 20 = .ok (.istore 7, 2) := by decide +kernel
theorem dX11_keepApart_22 : decode cX11_keepApart 22 = .ok (.iload 7, 2) := by decide +kernel
theorem dX11_keepApart_24 : decode cX11_keepApart 24 = .ok (.aload_n 0, 1) := by decide +kernel
theorem dX11_keepApart_25 : decode cX11_keepApart 25 = .ok (.getfield 123, 3) := by decide +kernel
theorem dX11_keepApart_28 : decode cX11_keepApart 28 = .ok (.iload 4, 2) := by decide +kernel
theorem dX11_keepApart_30 : decode cX11_keepApart 30 = .ok (.iaload, 1) := by decide +kernel
theorem dX11_keepApart_31 : decode cX11_keepApart 31 = .ok (.if_icmp .ge 136, 3) := by decide +kernel
theorem dX11_keepApart_34 : decode cX11_keepApart 34 = .ok (.iload 6, 2) := by decide +kernel
theorem dX11_keepApart_36 : decode cX11_keepApart 36 = .ok (.ifCond .eq 131, 3) := by decide +kernel
theorem dX11_keepApart_39 : decode cX11_keepApart 39 = .ok (.aload_n 0, 1) := by decide +kernel
theorem dX11_keepApart_40 : decode cX11_keepApart 40 = .ok (.getfield 120, 3) := by decide +kernel
theorem dX11_keepApart_43 : decode cX11_keepApart 43 = .ok (.aload_n 0, 1) := by decide +kernel
theorem dX11_keepApart_44 : decode cX11_keepApart 44 = .ok (.iload 4, 2) := by decide +kernel
theorem dX11_keepApart_46 : decode cX11_keepApart 46 = .ok (.invokevirtual 429, 3) := by decide +kernel
theorem dX11_keepApart_49 : decode cX11_keepApart 49 = .ok (.iload 7, 2) := by decide +kernel
theorem dX11_keepApart_51 : decode cX11_keepApart 51 = .ok (.iadd, 1) := by decide +kernel
theorem dX11_keepApart_52 : decode cX11_keepApart 52 = .ok (.iaload, 1) := by decide +kernel
theorem dX11_keepApart_53 : decode cX11_keepApart 53 = .ok (.istore 8, 2) := by decide +kernel
theorem dX11_keepApart_55 : decode cX11_keepApart 55 = .ok (.iconst 1, 1) := by decide +kernel
theorem dX11_keepApart_56 : decode cX11_keepApart 56 = .ok (.istore 9, 2) := by decide +kernel
theorem dX11_keepApart_58 : decode cX11_keepApart 58 = .ok (.iload 9, 2) := by decide +kernel
theorem dX11_keepApart_60 : decode cX11_keepApart 60 = .ok (.aload_n 0, 1) := by decide +kernel
theorem dX11_keepApart_61 : decode cX11_keepApart 61 = .ok (.getfield 123, 3) := by decide +kernel
theorem dX11_keepApart_64 : decode cX11_keepApart 64 = .ok (.iload 5, 2) := by decide +kernel
theorem dX11_keepApart_66 : decode cX11_keepApart 66 = .ok (.iaload, 1) := by decide +kernel
theorem dX11_keepApart_67 : decode cX11_keepApart 67 = .ok (.if_icmp .ge 94, 3) := by decide +kernel
theorem dX11_keepApart_70 : decode cX11_keepApart 70 = .ok (.iload 6, 2) := by decide +kernel
theorem dX11_keepApart_72 : decode cX11_keepApart 72 = .ok (.ifCond .eq 89, 3) := by decide +kernel
theorem dX11_keepApart_75 : decode cX11_keepApart 75 = .ok (.aload_n 0, 1) := by decide +kernel
theorem dX11_keepApart_76 : decode cX11_keepApart 76 = .ok (.getfield 22, 3) := by decide +kernel
theorem dX11_keepApart_79 : decode cX11_keepApart 79 = .ok (.sipush 300, 3) := by decide +kernel
theorem dX11_keepApart_82 : decode cX11_keepApart 82 = .ok (.aload_n 0, 1) := by decide +kernel
theorem dX11_keepApart_83 : decode cX11_keepApart 83 = .ok (.getfield 226, 3) := by decide +kernel
theorem dX11_keepApart_86 : decode cX11_keepApart 86 = .ok (.imul, 1) := by decide +kernel
theorem dX11_keepApart_87 : decode cX11_keepApart 87 = .ok (.iload 8, 2) := by decide +kernel
theorem dX11_keepApart_89 : decode cX11_keepApart 89 = .ok (.iadd, 1) := by decide +kernel
theorem dX11_keepApart_90 : decode cX11_keepApart 90 = .ok (.baload, 1) := by decide +kernel
theorem dX11_keepApart_91 : decode cX11_keepApart 91 = .ok (.ifCond .eq 70, 3) := by decide +kernel
theorem dX11_keepApart_94 : decode cX11_keepApart 94 = .ok (.aload_n 0, 1) := by decide +kernel
theorem dX11_keepApart_95 : decode cX11_keepApart 95 = .ok (.getfield 120, 3) := by decide +kernel
theorem dX11_keepApart_98 : decode cX11_keepApart 98 = .ok (.aload_n 0, 1) := by decide +kernel
theorem dX11_keepApart_99 : decode cX11_keepApart 99 = .ok (.iload 5, 2) := by decide +kernel
theorem dX11_keepApart_101 : decode cX11_keepApart 101 = .ok (.invokevirtual 429, 3) := by decide +kernel
theorem dX11_keepApart_104 : decode cX11_keepApart 104 = .ok (.iload 9, 2) := by decide +kernel
theorem dX11_keepApart_106 : decode cX11_keepApart 106 = .ok (.iadd, 1) := by decide +kernel
theorem dX11_keepApart_107 : decode cX11_keepApart 107 = .ok (.iaload, 1) := by decide +kernel
theorem dX11_keepApart_108 : decode cX11_keepApart 108 = .ok (.istore 10, 2) := by decide +kernel
theorem dX11_keepApart_110 : decode cX11_keepApart 110 = .ok (.aload_n 0, 1) := by decide +kernel
theorem dX11_keepApart_111 : decode cX11_keepApart 111 = .ok (.getfield 22, 3) := by decide +kernel
theorem dX11_keepApart_114 : decode cX11_keepApart 114 = .ok (.sipush 300, 3) := by decide +kernel
theorem dX11_keepApart_117 : decode cX11_keepApart 117 = .ok (.aload_n 0, 1) := by decide +kernel
theorem dX11_keepApart_118 : decode cX11_keepApart 118 = .ok (.getfield 226, 3) := by decide +kernel
theorem dX11_keepApart_121 : decode cX11_keepApart 121 = .ok (.imul, 1) := by decide +kernel
theorem dX11_keepApart_122 : decode cX11_keepApart 122 = .ok (.iload 10, 2) := by decide +kernel
theorem dX11_keepApart_124 : decode cX11_keepApart 124 = .ok (.iadd, 1) := by decide +kernel
theorem dX11_keepApart_125 : decode cX11_keepApart 125 = .ok (.baload, 1) := by decide +kernel
theorem dX11_keepApart_126 : decode cX11_keepApart 126 = .ok (.ifCond .eq 22, 3) := by decide +kernel
theorem dX11_keepApart_129 : decode cX11_keepApart 129 = .ok (.iload 8, 2) := by decide +kernel
theorem dX11_keepApart_131 : decode cX11_keepApart 131 = .ok (.iload 10, 2) := by decide +kernel
theorem dX11_keepApart_133 : decode cX11_keepApart 133 = .ok (.if_icmp .eq 19, 3) := by decide +kernel
theorem dX11_keepApart_136 : decode cX11_keepApart 136 = .ok (.aload_n 0, 1) := by decide +kernel
theorem dX11_keepApart_137 : decode cX11_keepApart 137 = .ok (.iload_n 1, 1) := by decide +kernel
theorem dX11_keepApart_138 : decode cX11_keepApart 138 = .ok (.iload 8, 2) := by decide +kernel
theorem dX11_keepApart_140 : decode cX11_keepApart 140 = .ok (.iload 10, 2) := by decide +kernel
theorem dX11_keepApart_142 : decode cX11_keepApart 142 = .ok (.invokevirtual 360, 3) := by decide +kernel
theorem dX11_keepApart_145 : decode cX11_keepApart 145 = .ok (.ifCond .eq 7, 3) := by decide +kernel
theorem dX11_keepApart_148 : decode cX11_keepApart 148 = .ok (.iconst 1, 1) := by decide +kernel
theorem dX11_keepApart_149 : decode cX11_keepApart 149 = .ok (.goto 4, 3) := by decide +kernel
theorem dX11_keepApart_152 : decode cX11_keepApart 152 = .ok (.iconst 0, 1) := by decide +kernel
theorem dX11_keepApart_153 : decode cX11_keepApart 153 = .ok (.istore 6, 2) := by decide +kernel
theorem dX11_keepApart_155 : decode cX11_keepApart 155 = .ok (.iinc 9 1, 3) := by decide +kernel
theorem dX11_keepApart_158 : decode cX11_keepApart 158 = .ok (.goto (-100), 3) := by decide +kernel
theorem dX11_keepApart_161 : decode cX11_keepApart 161 = .ok (.iinc 7 1, 3) := by decide +kernel
theorem dX11_keepApart_164 : decode cX11_keepApart 164 = .ok (.goto (-142), 3) := by decide +kernel
theorem dX11_keepApart_167 : decode cX11_keepApart 167 = .ok (.iload 6, 2) := by decide +kernel
theorem dX11_keepApart_169 : decode cX11_keepApart 169 = .ok (.ireturn, 1) := by decide +kernel
theorem dX11_pushAssertion_0 : decode cX11_pushAssertion 0 = .ok (.aload_n 0, 1) := by decide +kernel
theorem dX11_pushAssertion_1 : decode cX11_pushAssertion 1 = .ok (.iload_n 3, 1) := by decide +kernel
theorem dX11_pushAssertion_2 : decode cX11_pushAssertion 2 = .ok (.invokevirtual 364, 3) := by decide +kernel
theorem dX11_pushAssertion_5 : decode cX11_pushAssertion 5 = .ok (.istore 4, 2) := by decide +kernel
theorem dX11_pushAssertion_7 : decode cX11_pushAssertion 7 = .ok (.aload_n 0, 1) := by decide +kernel
theorem dX11_pushAssertion_8 : decode cX11_pushAssertion 8 = .ok (.getfield 426, 3) := by decide +kernel
theorem dX11_pushAssertion_11 : decode cX11_pushAssertion 11 = .ok (.iload 4, 2) := by decide +kernel
theorem dX11_pushAssertion_13 : decode cX11_pushAssertion 13 = .ok (.if_icmp .ge 11, 3) := by decide +kernel
theorem dX11_pushAssertion_16 : decode cX11_pushAssertion 16 = .ok (.aload_n 0, 1) := by decide +kernel
theorem dX11_pushAssertion_17 : decode cX11_pushAssertion 17 = .ok (.bipush (-4), 2) := by decide +kernel
theorem dX11_pushAssertion_19 : decode cX11_pushAssertion 19 = .ok (.iload_n 2, 1) := by decide +kernel
theorem dX11_pushAssertion_20 : decode cX11_pushAssertion 20 = .ok (.invokevirtual 410, 3) := by decide +kernel
theorem dX11_pushAssertion_23 : decode cX11_pushAssertion 23 = .ok (.ireturn, 1) := by decide +kernel
theorem dX11_pushAssertion_24 : decode cX11_pushAssertion 24 = .ok (.aload_n 0, 1) := by decide +kernel
theorem dX11_pushAssertion_25 : decode cX11_pushAssertion 25 = .ok (.getfield 426, 3) := by decide +kernel
theorem dX11_pushAssertion_28 : decode cX11_pushAssertion 28 = .ok (.iload 4, 2) := by decide +kernel
theorem dX11_pushAssertion_30 : decode cX11_pushAssertion 30 = .ok (.isub, 1) := by decide +kernel
theorem dX11_pushAssertion_31 : decode cX11_pushAssertion 31 = .ok (.istore 5, 2) := by decide +kernel
theorem dX11_pushAssertion_33 : decode cX11_pushAssertion 33 = .ok (.iload 5, 2) := by decide +kernel
theorem dX11_pushAssertion_35 : decode cX11_pushAssertion 35 = .ok (.istore 6, 2) := by decide +kernel
theorem dX11_pushAssertion_37 : decode cX11_pushAssertion 37 = .ok (.iconst 0, 1) := by decide +kernel
theorem dX11_pushAssertion_38 : decode cX11_pushAssertion 38 = .ok (.istore 7, 2) := by decide +kernel
theorem dX11_pushAssertion_40 : decode cX11_pushAssertion 40 = .ok (.iload 7, 2) := by decide +kernel
theorem dX11_pushAssertion_42 : decode cX11_pushAssertion 42 = .ok (.iload_n 3, 1) := by decide +kernel
theorem dX11_pushAssertion_43 : decode cX11_pushAssertion 43 = .ok (.if_icmp .ge 40, 3) := by decide +kernel
theorem dX11_pushAssertion_46 : decode cX11_pushAssertion 46 = .ok (.aload_n 0, 1) := by decide +kernel
theorem dX11_pushAssertion_47 : decode cX11_pushAssertion 47 = .ok (.aload_n 0, 1) := by decide +kernel
theorem dX11_pushAssertion_48 : decode cX11_pushAssertion 48 = .ok (.getfield 69, 3) := by decide +kernel
theorem dX11_pushAssertion_51 : decode cX11_pushAssertion 51 = .ok (.iload_n 3, 1) := by decide +kernel
theorem dX11_pushAssertion_52 : decode cX11_pushAssertion 52 = .ok (.iload 7, 2) := by decide +kernel
theorem dX11_pushAssertion_54 : decode cX11_pushAssertion 54 = .ok (.invokevirtual 350, 3) := by decide +kernel
theorem dX11_pushAssertion_57 : decode cX11_pushAssertion 57 = .ok (.ifCond .eq 20, 3) := by decide +kernel
theorem dX11_pushAssertion_60 : decode cX11_pushAssertion 60 = .ok (.aload_n 0, 1) := by decide +kernel
theorem dX11_pushAssertion_61 : decode cX11_pushAssertion 61 = .ok (.iload_n 2, 1) := by decide +kernel
theorem dX11_pushAssertion_62 : decode cX11_pushAssertion 62 = .ok (.iload 7, 2) := by decide +kernel
theorem dX11_pushAssertion_64 : decode cX11_pushAssertion 64 = .ok (.iload 6, 2) := by decide +kernel
theorem dX11_pushAssertion_66 : decode cX11_pushAssertion 66 = .ok (.invokevirtual 441, 3) := by decide +kernel
theorem dX11_pushAssertion_69 : decode cX11_pushAssertion 69 = .ok (.ifCond .ne 5, 3) := by decide +kernel
theorem dX11_pushAssertion_72 : decode cX11_pushAssertion 72 = .ok (.iconst 0, 1) := by decide +kernel
theorem dX11_pushAssertion_73 : decode cX11_pushAssertion 73 = .ok (.ireturn, 1) := by decide +kernel
theorem dX11_pushAssertion_74 : decode cX11_pushAssertion 74 = .ok (.iinc 6 1, 3) := by decide +kernel
theorem dX11_pushAssertion_77 : decode cX11_pushAssertion 77 = .ok (.iinc 7 1, 3) := by decide +kernel
theorem dX11_pushAssertion_80 : decode cX11_pushAssertion 80 = .ok (.goto (-40), 3) := by decide +kernel
theorem dX11_pushAssertion_83 : decode cX11_pushAssertion 83 = .ok (.sipush 10240, 3) := by decide +kernel
theorem dX11_pushAssertion_86 : decode cX11_pushAssertion 86 = .ok (.aload_n 0, 1) := by decide +kernel
theorem dX11_pushAssertion_87 : decode cX11_pushAssertion 87 = .ok (.getfield 226, 3) := by decide +kernel
theorem dX11_pushAssertion_90 : decode cX11_pushAssertion 90 = .ok (.imul, 1) := by decide +kernel
theorem dX11_pushAssertion_91 : decode cX11_pushAssertion 91 = .ok (.istore 7, 2) := by decide +kernel
theorem dX11_pushAssertion_93 : decode cX11_pushAssertion 93 = .ok (.iload 7, 2) := by decide +kernel
theorem dX11_pushAssertion_95 : decode cX11_pushAssertion 95 = .ok (.sipush 10240, 3) := by decide +kernel
theorem dX11_pushAssertion_98 : decode cX11_pushAssertion 98 = .ok (.aload_n 0, 1) := by decide +kernel
theorem dX11_pushAssertion_99 : decode cX11_pushAssertion 99 = .ok (.getfield 226, 3) := by decide +kernel
theorem dX11_pushAssertion_102 : decode cX11_pushAssertion 102 = .ok (.imul, 1) := by decide +kernel
theorem dX11_pushAssertion_103 : decode cX11_pushAssertion 103 = .ok (.aload_n 0, 1) := by decide +kernel
theorem dX11_pushAssertion_104 : decode cX11_pushAssertion 104 = .ok (.getfield 84, 3) := by decide +kernel
theorem dX11_pushAssertion_107 : decode cX11_pushAssertion 107 = .ok (.aload_n 0, 1) := by decide +kernel
theorem dX11_pushAssertion_108 : decode cX11_pushAssertion 108 = .ok (.getfield 226, 3) := by decide +kernel
theorem dX11_pushAssertion_111 : decode cX11_pushAssertion 111 = .ok (.iaload, 1) := by decide +kernel
theorem dX11_pushAssertion_112 : decode cX11_pushAssertion 112 = .ok (.iadd, 1) := by decide +kernel
theorem dX11_pushAssertion_113 : decode cX11_pushAssertion 113 = .ok (.if_icmp .ge 91, 3) := by decide +kernel
theorem dX11_pushAssertion_116 : decode cX11_pushAssertion 116 = .ok (.aload_n 0, 1) := by decide +kernel
theorem dX11_pushAssertion_117 : decode cX11_pushAssertion 117 = .ok (.iload 7, 2) := by decide +kernel
theorem dX11_pushAssertion_119 : decode cX11_pushAssertion 119 = .ok (.iload_n 3, 1) := by decide +kernel
theorem dX11_pushAssertion_120 : decode cX11_pushAssertion 120 = .ok (.invokevirtual 354, 3) := by decide +kernel
theorem dX11_pushAssertion_123 : decode cX11_pushAssertion 123 = .ok (.ifCond .eq 37, 3) := by decide +kernel
theorem dX11_pushAssertion_126 : decode cX11_pushAssertion 126 = .ok (.aload_n 0, 1) := by decide +kernel
theorem dX11_pushAssertion_127 : decode cX11_pushAssertion 127 = .ok (.iload_n 3, 1) := by decide +kernel
theorem dX11_pushAssertion_128 : decode cX11_pushAssertion 128 = .ok (.aload_n 0, 1) := by decide +kernel
theorem dX11_pushAssertion_129 : decode cX11_pushAssertion 129 = .ok (.getfield 72, 3) := by decide +kernel
theorem dX11_pushAssertion_132 : decode cX11_pushAssertion 132 = .ok (.iload 7, 2) := by decide +kernel
theorem dX11_pushAssertion_134 : decode cX11_pushAssertion 134 = .ok (.iaload, 1) := by decide +kernel
theorem dX11_pushAssertion_135 : decode cX11_pushAssertion 135 = .ok (.invokevirtual 357, 3) := by decide +kernel
theorem dX11_pushAssertion_138 : decode cX11_pushAssertion 138 = .ok (.ifCond .eq 22, 3) := by decide +kernel
theorem dX11_pushAssertion_141 : decode cX11_pushAssertion 141 = .ok (.aload_n 0, 1) := by decide +kernel
theorem dX11_pushAssertion_142 : decode cX11_pushAssertion 142 = .ok (.iload_n 3, 1) := by decide +kernel
theorem dX11_pushAssertion_143 : decode cX11_pushAssertion 143 = .ok (.aload_n 0, 1) := by decide +kernel
theorem dX11_pushAssertion_144 : decode cX11_pushAssertion 144 = .ok (.getfield 75, 3) := by decide +kernel
theorem dX11_pushAssertion_147 : decode cX11_pushAssertion 147 = .ok (.iload 7, 2) := by decide +kernel
theorem dX11_pushAssertion_149 : decode cX11_pushAssertion 149 = .ok (.iaload, 1) := by decide +kernel
theorem dX11_pushAssertion_150 : decode cX11_pushAssertion 150 = .ok (.invokevirtual 357, 3) := by decide +kernel
theorem dX11_pushAssertion_153 : decode cX11_pushAssertion 153 = .ok (.ifCond .eq 7, 3) := by decide +kernel
theorem dX11_pushAssertion_156 : decode cX11_pushAssertion 156 = .ok (.iconst 1, 1) := by decide +kernel
theorem dX11_pushAssertion_157 : decode cX11_pushAssertion 157 = .ok (.goto 4, 3) := by decide +kernel
theorem dX11_pushAssertion_160 : decode cX11_pushAssertion 160 = .ok (.iconst 0, 1) := by decide +kernel
theorem dX11_pushAssertion_161 : decode cX11_pushAssertion 161 = .ok (.istore 8, 2) := by decide +kernel
theorem dX11_pushAssertion_163 : decode cX11_pushAssertion 163 = .ok (.iload 8, 2) := by decide +kernel
theorem dX11_pushAssertion_165 : decode cX11_pushAssertion 165 = .ok (.ifCond .eq 33, 3) := by decide +kernel
theorem dX11_pushAssertion_168 : decode cX11_pushAssertion 168 = .ok (.aload_n 0, 1) := by decide +kernel
theorem dX11_pushAssertion_169 : decode cX11_pushAssertion 169 = .ok (.iload_n 1, 1) := by decide +kernel
theorem dX11_pushAssertion_170 : decode cX11_pushAssertion 170 = .ok (.aload_n 0, 1) := by decide +kernel
theorem dX11_pushAssertion_171 : decode cX11_pushAssertion 171 = .ok (.getfield 72, 3) := by decide +kernel
theorem dX11_pushAssertion_174 : decode cX11_pushAssertion 174 = .ok (.iload 7, 2) := by decide +kernel
theorem dX11_pushAssertion_176 : decode cX11_pushAssertion 176 = .ok (.iaload, 1) := by decide +kernel
theorem dX11_pushAssertion_177 : decode cX11_pushAssertion 177 = .ok (.aload_n 0, 1) := by decide +kernel
theorem dX11_pushAssertion_178 : decode cX11_pushAssertion 178 = .ok (.getfield 75, 3) := by decide +kernel
theorem dX11_pushAssertion_181 : decode cX11_pushAssertion 181 = .ok (.iload 7, 2) := by decide +kernel
theorem dX11_pushAssertion_183 : decode cX11_pushAssertion 183 = .ok (.iaload, 1) := by decide +kernel
theorem dX11_pushAssertion_184 : decode cX11_pushAssertion 184 = .ok (.invokevirtual 444, 3) := by decide +kernel
theorem dX11_pushAssertion_187 : decode cX11_pushAssertion 187 = .ok (.ifCond .ne 11, 3) := by decide +kernel
theorem dX11_pushAssertion_190 : decode cX11_pushAssertion 190 = .ok (.aload_n 0, 1) := by decide +kernel
theorem dX11_pushAssertion_191 : decode cX11_pushAssertion 191 = .ok (.bipush (-7), 2) := by decide +kernel
theorem dX11_pushAssertion_193 : decode cX11_pushAssertion 193 = .ok (.iload_n 2, 1) := by decide +kernel
theorem dX11_pushAssertion_194 : decode cX11_pushAssertion 194 = .ok (.invokevirtual 410, 3) := by decide +kernel
theorem dX11_pushAssertion_197 : decode cX11_pushAssertion 197 = .ok (.ireturn, 1) := by decide +kernel
theorem dX11_pushAssertion_198 : decode cX11_pushAssertion 198 = .ok (.iinc 7 1, 3) := by decide +kernel
theorem dX11_pushAssertion_201 : decode cX11_pushAssertion 201 = .ok (.goto (-108), 3) := by decide +kernel
theorem dX11_pushAssertion_204 : decode cX11_pushAssertion 204 = .ok (.aload_n 0, 1) := by decide +kernel
theorem dX11_pushAssertion_205 : decode cX11_pushAssertion 205 = .ok (.iload_n 3, 1) := by decide +kernel
theorem dX11_pushAssertion_206 : decode cX11_pushAssertion 206 = .ok (.invokevirtual 438, 3) := by decide +kernel
theorem dX11_pushAssertion_209 : decode cX11_pushAssertion 209 = .ok (.istore 7, 2) := by decide +kernel
theorem dX11_pushAssertion_211 : decode cX11_pushAssertion 211 = .ok (.iload 7, 2) := by decide +kernel
theorem dX11_pushAssertion_213 : decode cX11_pushAssertion 213 = .ok (.sipush 200, 3) := by decide +kernel
theorem dX11_pushAssertion_216 : decode cX11_pushAssertion 216 = .ok (.if_icmp .gt 10, 3) := by decide +kernel
theorem dX11_pushAssertion_219 : decode cX11_pushAssertion 219 = .ok (.iload 5, 2) := by decide +kernel
theorem dX11_pushAssertion_221 : decode cX11_pushAssertion 221 = .ok (.bipush 100, 2) := by decide +kernel
theorem dX11_pushAssertion_223 : decode cX11_pushAssertion 223 = .ok (.if_icmp .ne 11, 3) := by decide +kernel
theorem dX11_pushAssertion_226 : decode cX11_pushAssertion 226 = .ok (.aload_n 0, 1) := by decide +kernel
theorem dX11_pushAssertion_227 : decode cX11_pushAssertion 227 = .ok (.bipush (-10), 2) := by decide +kernel
theorem dX11_pushAssertion_229 : decode cX11_pushAssertion 229 = .ok (.iload_n 2, 1) := by decide +kernel
theorem dX11_pushAssertion_230 : decode cX11_pushAssertion 230 = .ok (.invokevirtual 410, 3) := by decide +kernel
theorem dX11_pushAssertion_233 : decode cX11_pushAssertion 233 = .ok (.ireturn, 1) := by decide +kernel
theorem dX11_pushAssertion_234 : decode cX11_pushAssertion 234 = .ok (.aload_n 0, 1) := by decide +kernel
theorem dX11_pushAssertion_235 : decode cX11_pushAssertion 235 = .ok (.getfield 145, 3) := by decide +kernel
theorem dX11_pushAssertion_238 : decode cX11_pushAssertion 238 = .ok (.iload_n 2, 1) := by decide +kernel
theorem dX11_pushAssertion_239 : decode cX11_pushAssertion 239 = .ok (.aload_n 0, 1) := by decide +kernel
theorem dX11_pushAssertion_240 : decode cX11_pushAssertion 240 = .ok (.getfield 432, 3) := by decide +kernel
theorem dX11_pushAssertion_243 : decode cX11_pushAssertion 243 = .ok (.iastore, 1) := by decide +kernel
theorem dX11_pushAssertion_244 : decode cX11_pushAssertion 244 = .ok (.aload_n 0, 1) := by decide +kernel
theorem dX11_pushAssertion_245 : decode cX11_pushAssertion 245 = .ok (.getfield 148, 3) := by decide +kernel
theorem dX11_pushAssertion_248 : decode cX11_pushAssertion 248 = .ok (.iload_n 2, 1) := by decide +kernel
theorem dX11_pushAssertion_249 : decode cX11_pushAssertion 249 = .ok (.iload 4, 2) := by decide +kernel
theorem dX11_pushAssertion_251 : decode cX11_pushAssertion 251 = .ok (.iastore, 1) := by decide +kernel
theorem dX11_pushAssertion_252 : decode cX11_pushAssertion 252 = .ok (.iconst 0, 1) := by decide +kernel
theorem dX11_pushAssertion_253 : decode cX11_pushAssertion 253 = .ok (.istore 8, 2) := by decide +kernel
theorem dX11_pushAssertion_255 : decode cX11_pushAssertion 255 = .ok (.iload 8, 2) := by decide +kernel
theorem dX11_pushAssertion_257 : decode cX11_pushAssertion 257 = .ok (.iload 4, 2) := by decide +kernel
theorem dX11_pushAssertion_259 : decode cX11_pushAssertion 259 = .ok (.if_icmp .ge 38, 3) := by decide +kernel
theorem dX11_pushAssertion_262 : decode cX11_pushAssertion 262 = .ok (.aload_n 0, 1) := by decide +kernel
theorem dX11_pushAssertion_263 : decode cX11_pushAssertion 263 = .ok (.getfield 142, 3) := by decide +kernel
theorem dX11_pushAssertion_266 : decode cX11_pushAssertion 266 = .ok (.aload_n 0, 1) := by decide +kernel
theorem dX11_pushAssertion_267 : decode cX11_pushAssertion 267 = .ok (.getfield 432, 3) := by decide +kernel
theorem dX11_pushAssertion_270 : decode cX11_pushAssertion 270 = .ok (.aload_n 0, 1) := by decide +kernel
theorem dX11_pushAssertion_271 : decode cX11_pushAssertion 271 = .ok (.getfield 126, 3) := by decide +kernel
theorem dX11_pushAssertion_274 : decode cX11_pushAssertion 274 = .ok (.iload 5, 2) := by decide +kernel
theorem dX11_pushAssertion_276 : decode cX11_pushAssertion 276 = .ok (.iload 8, 2) := by decide +kernel
theorem dX11_pushAssertion_278 : decode cX11_pushAssertion 278 = .ok (.iadd, 1) := by decide +kernel
theorem dX11_pushAssertion_279 : decode cX11_pushAssertion 279 = .ok (.iaload, 1) := by decide +kernel
theorem dX11_pushAssertion_280 : decode cX11_pushAssertion 280 = .ok (.iastore, 1) := by decide +kernel
theorem dX11_pushAssertion_281 : decode cX11_pushAssertion 281 = .ok (.aload_n 0, 1) := by decide +kernel
theorem dX11_pushAssertion_282 : decode cX11_pushAssertion 282 = .ok (.dup, 1) := by decide +kernel
theorem dX11_pushAssertion_283 : decode cX11_pushAssertion 283 = .ok (.getfield 432, 3) := by decide +kernel
theorem dX11_pushAssertion_286 : decode cX11_pushAssertion 286 = .ok (.iconst 1, 1) := by decide +kernel
theorem dX11_pushAssertion_287 : decode cX11_pushAssertion 287 = .ok (.iadd, 1) := by decide +kernel
theorem dX11_pushAssertion_288 : decode cX11_pushAssertion 288 = .ok (.putfield 432, 3) := by decide +kernel
theorem dX11_pushAssertion_291 : decode cX11_pushAssertion 291 = .ok (.iinc 8 1, 3) := by decide +kernel
theorem dX11_pushAssertion_294 : decode cX11_pushAssertion 294 = .ok (.goto (-39), 3) := by decide +kernel
theorem dX11_pushAssertion_297 : decode cX11_pushAssertion 297 = .ok (.aload_n 0, 1) := by decide +kernel
theorem dX11_pushAssertion_298 : decode cX11_pushAssertion 298 = .ok (.iload 5, 2) := by decide +kernel
theorem dX11_pushAssertion_300 : decode cX11_pushAssertion 300 = .ok (.putfield 426, 3) := by decide +kernel
theorem dX11_pushAssertion_303 : decode cX11_pushAssertion 303 = .ok (.aload_n 0, 1) := by decide +kernel
theorem dX11_pushAssertion_304 : decode cX11_pushAssertion 304 = .ok (.getfield 123, 3) := by decide +kernel
theorem dX11_pushAssertion_307 : decode cX11_pushAssertion 307 = .ok (.iload 5, 2) := by decide +kernel
theorem dX11_pushAssertion_309 : decode cX11_pushAssertion 309 = .ok (.iload 7, 2) := by decide +kernel
theorem dX11_pushAssertion_311 : decode cX11_pushAssertion 311 = .ok (.iastore, 1) := by decide +kernel
theorem dX11_pushAssertion_312 : decode cX11_pushAssertion 312 = .ok (.iconst 0, 1) := by decide +kernel
theorem dX11_pushAssertion_313 : decode cX11_pushAssertion 313 = .ok (.istore 8, 2) := by decide +kernel
theorem dX11_pushAssertion_315 : decode cX11_pushAssertion 315 = .ok (.iload 8, 2) := by decide +kernel
theorem dX11_pushAssertion_317 : decode cX11_pushAssertion 317 = .ok (.iload 7, 2) := by decide +kernel
theorem dX11_pushAssertion_319 : decode cX11_pushAssertion 319 = .ok (.if_icmp .ge 30, 3) := by decide +kernel
theorem dX11_pushAssertion_322 : decode cX11_pushAssertion 322 = .ok (.aload_n 0, 1) := by decide +kernel
theorem dX11_pushAssertion_323 : decode cX11_pushAssertion 323 = .ok (.getfield 120, 3) := by decide +kernel
theorem dX11_pushAssertion_326 : decode cX11_pushAssertion 326 = .ok (.aload_n 0, 1) := by decide +kernel
theorem dX11_pushAssertion_327 : decode cX11_pushAssertion 327 = .ok (.iload 5, 2) := by decide +kernel
theorem dX11_pushAssertion_329 : decode cX11_pushAssertion 329 = .ok (.invokevirtual 429, 3) := by decide +kernel
theorem dX11_pushAssertion_332 : decode cX11_pushAssertion 332 = .ok (.iload 8, 2) := by decide +kernel
theorem dX11_pushAssertion_334 : decode cX11_pushAssertion 334 = .ok (.iadd, 1) := by decide +kernel
theorem dX11_pushAssertion_335 : decode cX11_pushAssertion 335 = .ok (.aload_n 0, 1) := by decide +kernel
theorem dX11_pushAssertion_336 : decode cX11_pushAssertion 336 = .ok (.getfield 136, 3) := by decide +kernel
theorem dX11_pushAssertion_339 : decode cX11_pushAssertion 339 = .ok (.iload 8, 2) := by decide +kernel
theorem dX11_pushAssertion_341 : decode cX11_pushAssertion 341 = .ok (.iaload, 1) := by decide +kernel
theorem dX11_pushAssertion_342 : decode cX11_pushAssertion 342 = .ok (.iastore, 1) := by decide +kernel
theorem dX11_pushAssertion_343 : decode cX11_pushAssertion 343 = .ok (.iinc 8 1, 3) := by decide +kernel
theorem dX11_pushAssertion_346 : decode cX11_pushAssertion 346 = .ok (.goto (-31), 3) := by decide +kernel
theorem dX11_pushAssertion_349 : decode cX11_pushAssertion 349 = .ok (.aload_n 0, 1) := by decide +kernel
theorem dX11_pushAssertion_350 : decode cX11_pushAssertion 350 = .ok (.iload_n 2, 1) := by decide +kernel
theorem dX11_pushAssertion_351 : decode cX11_pushAssertion 351 = .ok (.iload_n 2, 1) := by decide +kernel
theorem dX11_pushAssertion_352 : decode cX11_pushAssertion 352 = .ok (.invokevirtual 435, 3) := by decide +kernel
theorem dX11_pushAssertion_355 : decode cX11_pushAssertion 355 = .ok (.iconst 1, 1) := by decide +kernel
theorem dX11_pushAssertion_356 : decode cX11_pushAssertion 356 = .ok (.ireturn, 1) := by decide +kernel
theorem dX11_runSteps_0 : decode cX11_runSteps 0 = .ok (.aload_n 0, 1) := by decide +kernel
theorem dX11_runSteps_1 : decode cX11_runSteps 1 = .ok (.iconst 0, 1) := by decide +kernel
theorem dX11_runSteps_2 : decode cX11_runSteps 2 = .ok (.putfield 426, 3) := by decide +kernel
theorem dX11_runSteps_5 : decode cX11_runSteps 5 = .ok (.aload_n 0, 1) := by decide +kernel
theorem dX11_runSteps_6 : decode cX11_runSteps 6 = .ok (.iconst 0, 1) := by decide +kernel
theorem dX11_runSteps_7 : decode cX11_runSteps 7 = .ok (.putfield 432, 3) := by decide +kernel
theorem dX11_runSteps_10 : decode cX11_runSteps 10 = .ok (.iconst 1, 1) := by decide +kernel
theorem dX11_runSteps_11 : decode cX11_runSteps 11 = .ok (.istore_n 3, 1) := by decide +kernel
theorem dX11_runSteps_12 : decode cX11_runSteps 12 = .ok (.iconst 0, 1) := by decide +kernel
theorem dX11_runSteps_13 : decode cX11_runSteps 13 = .ok (.istore 4, 2) := by decide +kernel
theorem dX11_runSteps_15 : decode cX11_runSteps 15 = .ok (.iload 4, 2) := by decide +kernel
theorem dX11_runSteps_17 : decode cX11_runSteps 17 = .ok (.aload_n 0, 1) := by decide +kernel
theorem dX11_runSteps_18 : decode cX11_runSteps 18 = .ok (.getfield 401, 3) := by decide +kernel
theorem dX11_runSteps_21 : decode cX11_runSteps 21 = .ok (.if_icmp .ge 89, 3) := by decide +kernel
theorem dX11_runSteps_24 : decode cX11_runSteps 24 = .ok (.iload 4, 2) := by decide +kernel
theorem dX11_runSteps_26 : decode cX11_runSteps 26 = .ok (.iload_n 2, 1) := by decide +kernel
theorem dX11_runSteps_27 : decode cX11_runSteps 27 = .ok (.if_icmp .ge 83, 3) := by decide +kernel
theorem dX11_runSteps_30 : decode cX11_runSteps 30 = .ok (.iload_n 3, 1) := by decide +kernel
theorem dX11_runSteps_31 : decode cX11_runSteps 31 = .ok (.ifCond .eq 79, 3) := by decide +kernel
theorem dX11_runSteps_34 : decode cX11_runSteps 34 = .ok (.aload_n 0, 1) := by decide +kernel
theorem dX11_runSteps_35 : decode cX11_runSteps 35 = .ok (.getfield 111, 3) := by decide +kernel
theorem dX11_runSteps_38 : decode cX11_runSteps 38 = .ok (.iload 4, 2) := by decide +kernel
theorem dX11_runSteps_40 : decode cX11_runSteps 40 = .ok (.iaload, 1) := by decide +kernel
theorem dX11_runSteps_41 : decode cX11_runSteps 41 = .ok (.istore 5, 2) := by decide +kernel
theorem dX11_runSteps_43 : decode cX11_runSteps 43 = .ok (.iload 5, 2) := by decide +kernel
theorem dX11_runSteps_45 : decode cX11_runSteps 45 = .ok (.sipush 1000, 3) := by decide +kernel
theorem dX11_runSteps_48 : decode cX11_runSteps 48 = .ok (.if_icmp .lt 19, 3) := by decide +kernel
theorem dX11_runSteps_51 : decode cX11_runSteps 51 = .ok (.aload_n 0, 1) := by decide +kernel
theorem dX11_runSteps_52 : decode cX11_runSteps 52 = .ok (.iload 4, 2) := by decide +kernel
theorem dX11_runSteps_54 : decode cX11_runSteps 54 = .ok (.iload 5, 2) := by decide +kernel
theorem dX11_runSteps_56 : decode cX11_runSteps 56 = .ok (.sipush 1000, 3) := by decide +kernel
theorem dX11_runSteps_59 : decode cX11_runSteps 59 = .ok (.isub, 1) := by decide +kernel
theorem dX11_runSteps_60 : decode cX11_runSteps 60 = .ok (.invokevirtual 447, 3) := by decide +kernel
theorem dX11_runSteps_63 : decode cX11_runSteps 63 = .ok (.istore_n 3, 1) := by decide +kernel
theorem dX11_runSteps_64 : decode cX11_runSteps 64 = .ok (.goto 40, 3) := by decide +kernel
theorem dX11_runSteps_67 : decode cX11_runSteps 67 = .ok (.aload_n 0, 1) := by decide +kernel
theorem dX11_runSteps_68 : decode cX11_runSteps 68 = .ok (.getfield 29, 3) := by decide +kernel
theorem dX11_runSteps_71 : decode cX11_runSteps 71 = .ok (.aload_n 0, 1) := by decide +kernel
theorem dX11_runSteps_72 : decode cX11_runSteps 72 = .ok (.iload 5, 2) := by decide +kernel
theorem dX11_runSteps_74 : decode cX11_runSteps 74 = .ok (.invokevirtual 344, 3) := by decide +kernel
theorem dX11_runSteps_77 : decode cX11_runSteps 77 = .ok (.iaload, 1) := by decide +kernel
theorem dX11_runSteps_78 : decode cX11_runSteps 78 = .ok (.iconst 2, 1) := by decide +kernel
theorem dX11_runSteps_79 : decode cX11_runSteps 79 = .ok (.if_icmp .ge 15, 3) := by decide +kernel
theorem dX11_runSteps_82 : decode cX11_runSteps 82 = .ok (.aload_n 0, 1) := by decide +kernel
theorem dX11_runSteps_83 : decode cX11_runSteps 83 = .ok (.iload 4, 2) := by decide +kernel
theorem dX11_runSteps_85 : decode cX11_runSteps 85 = .ok (.iload 5, 2) := by decide +kernel
theorem dX11_runSteps_87 : decode cX11_runSteps 87 = .ok (.invokevirtual 450, 3) := by decide +kernel
theorem dX11_runSteps_90 : decode cX11_runSteps 90 = .ok (.istore_n 3, 1) := by decide +kernel
theorem dX11_runSteps_91 : decode cX11_runSteps 91 = .ok (.goto 13, 3) := by decide +kernel
theorem dX11_runSteps_94 : decode cX11_runSteps 94 = .ok (.aload_n 0, 1) := by decide +kernel
theorem dX11_runSteps_95 : decode cX11_runSteps 95 = .ok (.iload_n 1, 1) := by decide +kernel
theorem dX11_runSteps_96 : decode cX11_runSteps 96 = .ok (.iload 4, 2) := by decide +kernel
theorem dX11_runSteps_98 : decode cX11_runSteps 98 = .ok (.iload 5, 2) := by decide +kernel
theorem dX11_runSteps_100 : decode cX11_runSteps 100 = .ok (.invokevirtual 453, 3) := by decide +kernel
theorem dX11_runSteps_103 : decode cX11_runSteps 103 = .ok (.istore_n 3, 1) := by decide +kernel
theorem dX11_runSteps_104 : decode cX11_runSteps 104 = .ok (.iinc 4 1, 3) := by decide +kernel
theorem dX11_runSteps_107 : decode cX11_runSteps 107 = .ok (.goto (-92), 3) := by decide +kernel
theorem dX11_runSteps_110 : decode cX11_runSteps 110 = .ok (.iload_n 3, 1) := by decide +kernel
theorem dX11_runSteps_111 : decode cX11_runSteps 111 = .ok (.ireturn, 1) := by decide +kernel
theorem dX11_judge_0 : decode cX11_judge 0 = .ok (.aload_n 0, 1) := by decide +kernel
theorem dX11_judge_1 : decode cX11_judge 1 = .ok (.iconst 0, 1) := by decide +kernel
theorem dX11_judge_2 : decode cX11_judge 2 = .ok (.putfield 398, 3) := by decide +kernel
theorem dX11_judge_5 : decode cX11_judge 5 = .ok (.aload_n 0, 1) := by decide +kernel
theorem dX11_judge_6 : decode cX11_judge 6 = .ok (.iload_n 1, 1) := by decide +kernel
theorem dX11_judge_7 : decode cX11_judge 7 = .ok (.invokevirtual 456, 3) := by decide +kernel
theorem dX11_judge_10 : decode cX11_judge 10 = .ok (.ifCond .eq 5, 3) := by decide +kernel
theorem dX11_judge_13 : decode cX11_judge 13 = .ok (.iconst 1, 1) := by decide +kernel
theorem dX11_judge_14 : decode cX11_judge 14 = .ok (.ireturn, 1) := by decide +kernel
theorem dX11_judge_15 : decode cX11_judge 15 = .ok (.aload_n 0, 1) := by decide +kernel
theorem dX11_judge_16 : decode cX11_judge 16 = .ok (.iload_n 1, 1) := by decide +kernel
theorem dX11_judge_17 : decode cX11_judge 17 = .ok (.invokevirtual 459, 3) := by decide +kernel
theorem dX11_judge_20 : decode cX11_judge 20 = .ok (.ifCond .eq 14, 3) := by decide +kernel
theorem dX11_judge_23 : decode cX11_judge 23 = .ok (.aload_n 0, 1) := by decide +kernel
theorem dX11_judge_24 : decode cX11_judge 24 = .ok (.iload_n 1, 1) := by decide +kernel
theorem dX11_judge_25 : decode cX11_judge 25 = .ok (.sipush 1000, 3) := by decide +kernel
theorem dX11_judge_28 : decode cX11_judge 28 = .ok (.invokevirtual 462, 3) := by decide +kernel
theorem dX11_judge_31 : decode cX11_judge 31 = .ok (.ifCond .ne 8, 3) := by decide +kernel
theorem dX11_judge_34 : decode cX11_judge 34 = .ok (.aload_n 0, 1) := by decide +kernel
theorem dX11_judge_35 : decode cX11_judge 35 = .ok (.getfield 395, 3) := by decide +kernel
theorem dX11_judge_38 : decode cX11_judge 38 = .ok (.ireturn, 1) := by decide +kernel
theorem dX11_judge_39 : decode cX11_judge 39 = .ok (.aload_n 0, 1) := by decide +kernel
theorem dX11_judge_40 : decode cX11_judge 40 = .ok (.aload_n 0, 1) := by decide +kernel
theorem dX11_judge_41 : decode cX11_judge 41 = .ok (.getfield 401, 3) := by decide +kernel
theorem dX11_judge_44 : decode cX11_judge 44 = .ok (.putfield 398, 3) := by decide +kernel
theorem dX11_judge_47 : decode cX11_judge 47 = .ok (.aload_n 0, 1) := by decide +kernel
theorem dX11_judge_48 : decode cX11_judge 48 = .ok (.getfield 426, 3) := by decide +kernel
theorem dX11_judge_51 : decode cX11_judge 51 = .ok (.iconst 1, 1) := by decide +kernel
theorem dX11_judge_52 : decode cX11_judge 52 = .ok (.if_icmp .eq 6, 3) := by decide +kernel
theorem dX11_judge_55 : decode cX11_judge 55 = .ok (.bipush (-8), 2) := by decide +kernel
theorem dX11_judge_57 : decode cX11_judge 57 = .ok (.ireturn, 1) := by decide +kernel
theorem dX11_judge_58 : decode cX11_judge 58 = .ok (.aload_n 0, 1) := by decide +kernel
theorem dX11_judge_59 : decode cX11_judge 59 = .ok (.getfield 123, 3) := by decide +kernel
theorem dX11_judge_62 : decode cX11_judge 62 = .ok (.iconst 0, 1) := by decide +kernel
theorem dX11_judge_63 : decode cX11_judge 63 = .ok (.iaload, 1) := by decide +kernel
theorem dX11_judge_64 : decode cX11_judge 64 = .ok (.aload_n 0, 1) := by decide +kernel
theorem dX11_judge_65 : decode cX11_judge 65 = .ok (.getfield 44, 3) := by decide +kernel
theorem dX11_judge_68 : decode cX11_judge 68 = .ok (.aload_n 0, 1) := by decide +kernel
theorem dX11_judge_69 : decode cX11_judge 69 = .ok (.iload_n 1, 1) := by decide +kernel
theorem dX11_judge_70 : decode cX11_judge 70 = .ok (.invokevirtual 344, 3) := by decide +kernel
theorem dX11_judge_73 : decode cX11_judge 73 = .ok (.iaload, 1) := by decide +kernel
theorem dX11_judge_74 : decode cX11_judge 74 = .ok (.if_icmp .ne 7, 3) := by decide +kernel
theorem dX11_judge_77 : decode cX11_judge 77 = .ok (.iconst 1, 1) := by decide +kernel
theorem dX11_judge_78 : decode cX11_judge 78 = .ok (.goto 4, 3) := by decide +kernel
theorem dX11_judge_81 : decode cX11_judge 81 = .ok (.iconst 0, 1) := by decide +kernel
theorem dX11_judge_82 : decode cX11_judge 82 = .ok (.istore_n 2, 1) := by decide +kernel
theorem dX11_judge_83 : decode cX11_judge 83 = .ok (.iconst 0, 1) := by decide +kernel
theorem dX11_judge_84 : decode cX11_judge 84 = .ok (.istore_n 3, 1) := by decide +kernel
theorem dX11_judge_85 : decode cX11_judge 85 = .ok (.iload_n 3, 1) := by decide +kernel
theorem dX11_judge_86 : decode cX11_judge 86 = .ok (.aload_n 0, 1) := by decide +kernel
theorem dX11_judge_87 : decode cX11_judge 87 = .ok (.getfield 44, 3) := by decide +kernel
theorem dX11_judge_90 : decode cX11_judge 90 = .ok (.aload_n 0, 1) := by decide +kernel
theorem dX11_judge_91 : decode cX11_judge 91 = .ok (.iload_n 1, 1) := by decide +kernel
theorem dX11_judge_92 : decode cX11_judge 92 = .ok (.invokevirtual 344, 3) := by decide +kernel
theorem dX11_judge_95 : decode cX11_judge 95 = .ok (.iaload, 1) := by decide +kernel
theorem dX11_judge_96 : decode cX11_judge 96 = .ok (.if_icmp .ge 54, 3) := by decide +kernel
theorem dX11_judge_99 : decode cX11_judge 99 = .ok (.iload_n 2, 1) := by decide +kernel
theorem dX11_judge_100 : decode cX11_judge 100 = .ok (.ifCond .eq 50, 3) := by decide +kernel
theorem dX11_judge_103 : decode cX11_judge 103 = .ok (.aload_n 0, 1) := by decide +kernel
theorem dX11_judge_104 : decode cX11_judge 104 = .ok (.getfield 120, 3) := by decide +kernel
theorem dX11_judge_107 : decode cX11_judge 107 = .ok (.iload_n 3, 1) := by decide +kernel
theorem dX11_judge_108 : decode cX11_judge 108 = .ok (.iaload, 1) := by decide +kernel
theorem dX11_judge_109 : decode cX11_judge 109 = .ok (.aload_n 0, 1) := by decide +kernel
theorem dX11_judge_110 : decode cX11_judge 110 = .ok (.getfield 56, 3) := by decide +kernel
theorem dX11_judge_113 : decode cX11_judge 113 = .ok (.sipush 4096, 3) := by decide +kernel
theorem dX11_judge_116 : decode cX11_judge 116 = .ok (.aload_n 0, 1) := by decide +kernel
theorem dX11_judge_117 : decode cX11_judge 117 = .ok (.getfield 226, 3) := by decide +kernel
theorem dX11_judge_120 : decode cX11_judge 120 = .ok (.imul, 1) := by decide +kernel
theorem dX11_judge_121 : decode cX11_judge 121 = .ok (.aload_n 0, 1) := by decide +kernel
theorem dX11_judge_122 : decode cX11_judge 122 = .ok (.getfield 41, 3) := by decide +kernel
theorem dX11_judge_125 : decode cX11_judge 125 = .ok (.aload_n 0, 1) := by decide +kernel
theorem dX11_judge_126 : decode cX11_judge 126 = .ok (.iload_n 1, 1) := by decide +kernel
theorem dX11_judge_127 : decode cX11_judge 127 = .ok (.invokevirtual 344, 3) := by decide +kernel
theorem dX11_judge_130 : decode cX11_judge 130 = .ok (.iaload, 1) := by decide +kernel
theorem dX11_judge_131 : decode cX11_judge 131 = .ok (.iadd, 1) := by decide +kernel
theorem dX11_judge_132 : decode cX11_judge 132 = .ok (.iload_n 3, 1) := by decide +kernel
theorem dX11_judge_133 : decode cX11_judge 133 = .ok (.iadd, 1) := by decide +kernel
theorem dX11_judge_134 : decode cX11_judge 134 = .ok (.iaload, 1) := by decide +kernel
theorem dX11_judge_135 : decode cX11_judge 135 = .ok (.if_icmp .ne 7, 3) := by decide +kernel
theorem dX11_judge_138 : decode cX11_judge 138 = .ok (.iconst 1, 1) := by decide +kernel
theorem dX11_judge_139 : decode cX11_judge 139 = .ok (.goto 4, 3) := by decide +kernel
theorem dX11_judge_142 : decode cX11_judge 142 = .ok (.iconst 0, 1) := by decide +kernel
theorem dX11_judge_143 : decode cX11_judge 143 = .ok (.istore_n 2, 1) := by decide +kernel
theorem dX11_judge_144 : decode cX11_judge 144 = .ok (.iinc 3 1, 3) := by decide +kernel
theorem dX11_judge_147 : decode cX11_judge 147 = .ok (.goto (-62), 3) := by decide +kernel
theorem dX11_judge_150 : decode cX11_judge 150 = .ok (.iload_n 2, 1) := by decide +kernel
theorem dX11_judge_151 : decode cX11_judge 151 = .ok (.ifCond .eq 7, 3) := by decide +kernel
theorem dX11_judge_154 : decode cX11_judge 154 = .ok (.iconst 0, 1) := by decide +kernel
theorem dX11_judge_155 : decode cX11_judge 155 = .ok (.goto 5, 3) := by decide +kernel
theorem dX11_judge_158 : decode cX11_judge 158 = .ok (.bipush (-9), 2) := by decide +kernel
theorem dX11_judge_160 : decode cX11_judge 160 = .ok (.ireturn, 1) := by decide +kernel
theorem dX11_check_0 : decode cX11_check 0 = .ok (.aload_n 0, 1) := by decide +kernel
theorem dX11_check_1 : decode cX11_check 1 = .ok (.iconst 0, 1) := by decide +kernel
theorem dX11_check_2 : decode cX11_check 2 = .ok (.putfield 326, 3) := by decide +kernel
theorem dX11_check_5 : decode cX11_check 5 = .ok (.aload_n 0, 1) := by decide +kernel
theorem dX11_check_6 : decode cX11_check 6 = .ok (.iload_n 1, 1) := by decide +kernel
theorem dX11_check_7 : decode cX11_check 7 = .ok (.iconst 3, 1) := by decide +kernel
theorem dX11_check_8 : decode cX11_check 8 = .ok (.invokevirtual 371, 3) := by decide +kernel
theorem dX11_check_11 : decode cX11_check 11 = .ok (.ifCond .ne 5, 3) := by decide +kernel
theorem dX11_check_14 : decode cX11_check 14 = .ok (.iconst (-1), 1) := by decide +kernel
theorem dX11_check_15 : decode cX11_check 15 = .ok (.ireturn, 1) := by decide +kernel
theorem dX11_check_16 : decode cX11_check 16 = .ok (.aload_n 0, 1) := by decide +kernel
theorem dX11_check_17 : decode cX11_check 17 = .ok (.iload_n 1, 1) := by decide +kernel
theorem dX11_check_18 : decode cX11_check 18 = .ok (.invokevirtual 465, 3) := by decide +kernel
theorem dX11_check_21 : decode cX11_check 21 = .ok (.istore_n 2, 1) := by decide +kernel
theorem dX11_check_22 : decode cX11_check 22 = .ok (.aload_n 0, 1) := by decide +kernel
theorem dX11_check_23 : decode cX11_check 23 = .ok (.aload_n 0, 1) := by decide +kernel
theorem dX11_check_24 : decode cX11_check 24 = .ok (.getfield 398, 3) := by decide +kernel
theorem dX11_check_27 : decode cX11_check 27 = .ok (.putfield 326, 3) := by decide +kernel
theorem dX11_check_30 : decode cX11_check 30 = .ok (.iload_n 2, 1) := by decide +kernel
theorem dX11_check_31 : decode cX11_check 31 = .ok (.ifCond .ge 10, 3) := by decide +kernel
theorem dX11_check_34 : decode cX11_check 34 = .ok (.iload_n 2, 1) := by decide +kernel
theorem dX11_check_35 : decode cX11_check 35 = .ok (.bipush 100, 2) := by decide +kernel
theorem dX11_check_37 : decode cX11_check 37 = .ok (.isub, 1) := by decide +kernel
theorem dX11_check_38 : decode cX11_check 38 = .ok (.goto 4, 3) := by decide +kernel
theorem dX11_check_41 : decode cX11_check 41 = .ok (.iload_n 2, 1) := by decide +kernel
theorem dX11_check_42 : decode cX11_check 42 = .ok (.ireturn, 1) := by decide +kernel
theorem dX11_step_0 : decode cX11_step 0 = .ok (.aload_n 0, 1) := by decide +kernel
theorem dX11_step_1 : decode cX11_step 1 = .ok (.getfield 326, 3) := by decide +kernel
theorem dX11_step_4 : decode cX11_step 4 = .ok (.ireturn, 1) := by decide +kernel
theorem dX11_trace_0 : decode cX11_trace 0 = .ok (.aload_n 0, 1) := by decide +kernel
theorem dX11_trace_1 : decode cX11_trace 1 = .ok (.iconst 0, 1) := by decide +kernel
theorem dX11_trace_2 : decode cX11_trace 2 = .ok (.putfield 326, 3) := by decide +kernel
theorem dX11_trace_5 : decode cX11_trace 5 = .ok (.aload_n 0, 1) := by decide +kernel
theorem dX11_trace_6 : decode cX11_trace 6 = .ok (.iconst 0, 1) := by decide +kernel
theorem dX11_trace_7 : decode cX11_trace 7 = .ok (.putfield 329, 3) := by decide +kernel
theorem dX11_trace_10 : decode cX11_trace 10 = .ok (.aload_n 0, 1) := by decide +kernel
theorem dX11_trace_11 : decode cX11_trace 11 = .ok (.iload_n 1, 1) := by decide +kernel
theorem dX11_trace_12 : decode cX11_trace 12 = .ok (.iconst 3, 1) := by decide +kernel
theorem dX11_trace_13 : decode cX11_trace 13 = .ok (.invokevirtual 371, 3) := by decide +kernel
theorem dX11_trace_16 : decode cX11_trace 16 = .ok (.ifCond .eq 7, 3) := by decide +kernel
theorem dX11_trace_19 : decode cX11_trace 19 = .ok (.iload_n 2, 1) := by decide +kernel
theorem dX11_trace_20 : decode cX11_trace 20 = .ok (.ifCond .ge 5, 3) := by decide +kernel
theorem dX11_trace_23 : decode cX11_trace 23 = .ok (.iconst (-1), 1) := by decide +kernel
theorem dX11_trace_24 : decode cX11_trace 24 = .ok (.ireturn, 1) := by decide +kernel
theorem dX11_trace_25 : decode cX11_trace 25 = .ok (.aload_n 0, 1) := by decide +kernel
theorem dX11_trace_26 : decode cX11_trace 26 = .ok (.iload_n 1, 1) := by decide +kernel
theorem dX11_trace_27 : decode cX11_trace 27 = .ok (.invokevirtual 456, 3) := by decide +kernel
theorem dX11_trace_30 : decode cX11_trace 30 = .ok (.ifCond .eq 6, 3) := by decide +kernel
theorem dX11_trace_33 : decode cX11_trace 33 = .ok (.bipush (-9), 2) := by decide +kernel
theorem dX11_trace_35 : decode cX11_trace 35 = .ok (.ireturn, 1) := by decide +kernel
theorem dX11_trace_36 : decode cX11_trace 36 = .ok (.aload_n 0, 1) := by decide +kernel
theorem dX11_trace_37 : decode cX11_trace 37 = .ok (.iload_n 1, 1) := by decide +kernel
theorem dX11_trace_38 : decode cX11_trace 38 = .ok (.invokevirtual 459, 3) := by decide +kernel
theorem dX11_trace_41 : decode cX11_trace 41 = .ok (.ifCond .eq 27, 3) := by decide +kernel
theorem dX11_trace_44 : decode cX11_trace 44 = .ok (.aload_n 0, 1) := by decide +kernel
theorem dX11_trace_45 : decode cX11_trace 45 = .ok (.iload_n 1, 1) := by decide +kernel
theorem dX11_trace_46 : decode cX11_trace 46 = .ok (.iload_n 2, 1) := by decide +kernel
theorem dX11_trace_47 : decode cX11_trace 47 = .ok (.sipush 1000, 3) := by decide +kernel
theorem dX11_trace_50 : decode cX11_trace 50 = .ok (.if_icmp .lt 9, 3) := by decide +kernel
theorem dX11_trace_53 : decode cX11_trace 53 = .ok (.sipush 1000, 3) := by decide +kernel
theorem dX11_trace_56 : decode cX11_trace 56 = .ok (.goto 6, 3) := by decide +kernel
theorem dX11_trace_59 : decode cX11_trace 59 = .ok (.iload_n 2, 1) := by decide +kernel
theorem dX11_trace_60 : decode cX11_trace 60 = .ok (.iconst 1, 1) := by decide +kernel
theorem dX11_trace_61 : decode cX11_trace 61 = .ok (.iadd, 1) := by decide +kernel
theorem dX11_trace_62 : decode cX11_trace 62 = .ok (.invokevirtual 462, 3) := by decide +kernel
theorem dX11_trace_65 : decode cX11_trace 65 = .ok (.ifCond .ne 19, 3) := by decide +kernel
theorem dX11_trace_68 : decode cX11_trace 68 = .ok (.aload_n 0, 1) := by decide +kernel
theorem dX11_trace_69 : decode cX11_trace 69 = .ok (.aload_n 0, 1) := by decide +kernel
theorem dX11_trace_70 : decode cX11_trace 70 = .ok (.getfield 398, 3) := by decide +kernel
theorem dX11_trace_73 : decode cX11_trace 73 = .ok (.putfield 326, 3) := by decide +kernel
theorem dX11_trace_76 : decode cX11_trace 76 = .ok (.aload_n 0, 1) := by decide +kernel
theorem dX11_trace_77 : decode cX11_trace 77 = .ok (.getfield 395, 3) := by decide +kernel
theorem dX11_trace_80 : decode cX11_trace 80 = .ok (.bipush 100, 2) := by decide +kernel
theorem dX11_trace_82 : decode cX11_trace 82 = .ok (.isub, 1) := by decide +kernel
theorem dX11_trace_83 : decode cX11_trace 83 = .ok (.ireturn, 1) := by decide +kernel
theorem dX11_trace_84 : decode cX11_trace 84 = .ok (.aload_n 0, 1) := by decide +kernel
theorem dX11_trace_85 : decode cX11_trace 85 = .ok (.aload_n 0, 1) := by decide +kernel
theorem dX11_trace_86 : decode cX11_trace 86 = .ok (.getfield 401, 3) := by decide +kernel
theorem dX11_trace_89 : decode cX11_trace 89 = .ok (.putfield 326, 3) := by decide +kernel
theorem dX11_trace_92 : decode cX11_trace 92 = .ok (.aload_n 0, 1) := by decide +kernel
theorem dX11_trace_93 : decode cX11_trace 93 = .ok (.aload_n 0, 1) := by decide +kernel
theorem dX11_trace_94 : decode cX11_trace 94 = .ok (.getfield 426, 3) := by decide +kernel
theorem dX11_trace_97 : decode cX11_trace 97 = .ok (.putfield 329, 3) := by decide +kernel
theorem dX11_trace_100 : decode cX11_trace 100 = .ok (.iconst 0, 1) := by decide +kernel
theorem dX11_trace_101 : decode cX11_trace 101 = .ok (.istore_n 3, 1) := by decide +kernel
theorem dX11_trace_102 : decode cX11_trace 102 = .ok (.iload_n 3, 1) := by decide +kernel
theorem dX11_trace_103 : decode cX11_trace 103 = .ok (.aload_n 0, 1) := by decide +kernel
theorem dX11_trace_104 : decode cX11_trace 104 = .ok (.getfield 426, 3) := by decide +kernel
theorem dX11_trace_107 : decode cX11_trace 107 = .ok (.if_icmp .ge 67, 3) := by decide +kernel
theorem dX11_trace_110 : decode cX11_trace 110 = .ok (.aload_n 0, 1) := by decide +kernel
theorem dX11_trace_111 : decode cX11_trace 111 = .ok (.getfield 157, 3) := by decide +kernel
theorem dX11_trace_114 : decode cX11_trace 114 = .ok (.iload_n 3, 1) := by decide +kernel
theorem dX11_trace_115 : decode cX11_trace 115 = .ok (.aload_n 0, 1) := by decide +kernel
theorem dX11_trace_116 : decode cX11_trace 116 = .ok (.getfield 123, 3) := by decide +kernel
theorem dX11_trace_119 : decode cX11_trace 119 = .ok (.iload_n 3, 1) := by decide +kernel
theorem dX11_trace_120 : decode cX11_trace 120 = .ok (.iaload, 1) := by decide +kernel
theorem dX11_trace_121 : decode cX11_trace 121 = .ok (.iastore, 1) := by decide +kernel
theorem dX11_trace_122 : decode cX11_trace 122 = .ok (.iconst 0, 1) := by decide +kernel
theorem dX11_trace_123 : decode cX11_trace 123 = .ok (.istore 4, 2) := by decide +kernel
theorem dX11_trace_125 : decode cX11_trace 125 = .ok (.iload 4, 2) := by decide +kernel
theorem dX11_trace_127 : decode cX11_trace 127 = .ok (.aload_n 0, 1) := by decide +kernel
theorem dX11_trace_128 : decode cX11_trace 128 = .ok (.getfield 123, 3) := by decide +kernel
theorem dX11_trace_131 : decode cX11_trace 131 = .ok (.iload_n 3, 1) := by decide +kernel
theorem dX11_trace_132 : decode cX11_trace 132 = .ok (.iaload, 1) := by decide +kernel
theorem dX11_trace_133 : decode cX11_trace 133 = .ok (.if_icmp .ge 35, 3) := by decide +kernel
theorem dX11_trace_136 : decode cX11_trace 136 = .ok (.aload_n 0, 1) := by decide +kernel
theorem dX11_trace_137 : decode cX11_trace 137 = .ok (.getfield 154, 3) := by decide +kernel
theorem dX11_trace_140 : decode cX11_trace 140 = .ok (.aload_n 0, 1) := by decide +kernel
theorem dX11_trace_141 : decode cX11_trace 141 = .ok (.iload_n 3, 1) := by decide +kernel
theorem dX11_trace_142 : decode cX11_trace 142 = .ok (.invokevirtual 429, 3) := by decide +kernel
theorem dX11_trace_145 : decode cX11_trace 145 = .ok (.iload 4, 2) := by decide +kernel
theorem dX11_trace_147 : decode cX11_trace 147 = .ok (.iadd, 1) := by decide +kernel
theorem dX11_trace_148 : decode cX11_trace 148 = .ok (.aload_n 0, 1) := by decide +kernel
theorem dX11_trace_149 : decode cX11_trace 149 = .ok (.getfield 120, 3) := by decide +kernel
theorem dX11_trace_152 : decode cX11_trace 152 = .ok (.aload_n 0, 1) := by decide +kernel
theorem dX11_trace_153 : decode cX11_trace 153 = .ok (.iload_n 3, 1) := by decide +kernel
theorem dX11_trace_154 : decode cX11_trace 154 = .ok (.invokevirtual 429, 3) := by decide +kernel
theorem dX11_trace_157 : decode cX11_trace 157 = .ok (.iload 4, 2) := by decide +kernel
theorem dX11_trace_159 : decode cX11_trace 159 = .ok (.iadd, 1) := by decide +kernel
theorem dX11_trace_160 : decode cX11_trace 160 = .ok (.iaload, 1) := by decide +kernel
theorem dX11_trace_161 : decode cX11_trace 161 = .ok (.iastore, 1) := by decide +kernel
theorem dX11_trace_162 : decode cX11_trace 162 = .ok (.iinc 4 1, 3) := by decide +kernel
theorem dX11_trace_165 : decode cX11_trace 165 = .ok (.goto (-40), 3) := by decide +kernel
theorem dX11_trace_168 : decode cX11_trace 168 = .ok (.iinc 3 1, 3) := by decide +kernel
theorem dX11_trace_171 : decode cX11_trace 171 = .ok (.goto (-69), 3) := by decide +kernel
theorem dX11_trace_174 : decode cX11_trace 174 = .ok (.aload_n 0, 1) := by decide +kernel
theorem dX11_trace_175 : decode cX11_trace 175 = .ok (.getfield 329, 3) := by decide +kernel
theorem dX11_trace_178 : decode cX11_trace 178 = .ok (.ireturn, 1) := by decide +kernel
theorem dX11_thing__0 : decode cX11_thing_ 0 = .ok (.iload_n 1, 1) := by decide +kernel
theorem dX11_thing__1 : decode cX11_thing_ 1 = .ok (.ifCond .lt 11, 3) := by decide +kernel
theorem dX11_thing__4 : decode cX11_thing_ 4 = .ok (.iload_n 1, 1) := by decide +kernel
theorem dX11_thing__5 : decode cX11_thing_ 5 = .ok (.aload_n 0, 1) := by decide +kernel
theorem dX11_thing__6 : decode cX11_thing_ 6 = .ok (.getfield 329, 3) := by decide +kernel
theorem dX11_thing__9 : decode cX11_thing_ 9 = .ok (.if_icmp .lt 5, 3) := by decide +kernel
theorem dX11_thing__12 : decode cX11_thing_ 12 = .ok (.iconst (-1), 1) := by decide +kernel
theorem dX11_thing__13 : decode cX11_thing_ 13 = .ok (.ireturn, 1) := by decide +kernel
theorem dX11_thing__14 : decode cX11_thing_ 14 = .ok (.aload_n 0, 1) := by decide +kernel
theorem dX11_thing__15 : decode cX11_thing_ 15 = .ok (.getfield 329, 3) := by decide +kernel
theorem dX11_thing__18 : decode cX11_thing_ 18 = .ok (.iconst 1, 1) := by decide +kernel
theorem dX11_thing__19 : decode cX11_thing_ 19 = .ok (.isub, 1) := by decide +kernel
theorem dX11_thing__20 : decode cX11_thing_ 20 = .ok (.iload_n 1, 1) := by decide +kernel
theorem dX11_thing__21 : decode cX11_thing_ 21 = .ok (.isub, 1) := by decide +kernel
theorem dX11_thing__22 : decode cX11_thing_ 22 = .ok (.istore_n 3, 1) := by decide +kernel
theorem dX11_thing__23 : decode cX11_thing_ 23 = .ok (.iload_n 2, 1) := by decide +kernel
theorem dX11_thing__24 : decode cX11_thing_ 24 = .ok (.iconst (-1), 1) := by decide +kernel
theorem dX11_thing__25 : decode cX11_thing_ 25 = .ok (.if_icmp .ne 10, 3) := by decide +kernel
theorem dX11_thing__28 : decode cX11_thing_ 28 = .ok (.aload_n 0, 1) := by decide +kernel
theorem dX11_thing__29 : decode cX11_thing_ 29 = .ok (.getfield 157, 3) := by decide +kernel
theorem dX11_thing__32 : decode cX11_thing_ 32 = .ok (.iload_n 3, 1) := by decide +kernel
theorem dX11_thing__33 : decode cX11_thing_ 33 = .ok (.iaload, 1) := by decide +kernel
theorem dX11_thing__34 : decode cX11_thing_ 34 = .ok (.ireturn, 1) := by decide +kernel
theorem dX11_thing__35 : decode cX11_thing_ 35 = .ok (.iload_n 2, 1) := by decide +kernel
theorem dX11_thing__36 : decode cX11_thing_ 36 = .ok (.ifCond .lt 13, 3) := by decide +kernel
theorem dX11_thing__39 : decode cX11_thing_ 39 = .ok (.iload_n 2, 1) := by decide +kernel
theorem dX11_thing__40 : decode cX11_thing_ 40 = .ok (.aload_n 0, 1) := by decide +kernel
theorem dX11_thing__41 : decode cX11_thing_ 41 = .ok (.getfield 157, 3) := by decide +kernel
theorem dX11_thing__44 : decode cX11_thing_ 44 = .ok (.iload_n 3, 1) := by decide +kernel
theorem dX11_thing__45 : decode cX11_thing_ 45 = .ok (.iaload, 1) := by decide +kernel
theorem dX11_thing__46 : decode cX11_thing_ 46 = .ok (.if_icmp .lt 7, 3) := by decide +kernel
theorem dX11_thing__49 : decode cX11_thing_ 49 = .ok (.iconst (-1), 1) := by decide +kernel
theorem dX11_thing__50 : decode cX11_thing_ 50 = .ok (.goto 15, 3) := by decide +kernel
theorem dX11_thing__53 : decode cX11_thing_ 53 = .ok (.aload_n 0, 1) := by decide +kernel
theorem dX11_thing__54 : decode cX11_thing_ 54 = .ok (.getfield 154, 3) := by decide +kernel
theorem dX11_thing__57 : decode cX11_thing_ 57 = .ok (.aload_n 0, 1) := by decide +kernel
theorem dX11_thing__58 : decode cX11_thing_ 58 = .ok (.iload_n 3, 1) := by decide +kernel
theorem dX11_thing__59 : decode cX11_thing_ 59 = .ok (.invokevirtual 429, 3) := by decide +kernel
theorem dX11_thing__62 : decode cX11_thing_ 62 = .ok (.iload_n 2, 1) := by decide +kernel
theorem dX11_thing__63 : decode cX11_thing_ 63 = .ok (.iadd, 1) := by decide +kernel
theorem dX11_thing__64 : decode cX11_thing_ 64 = .ok (.iaload, 1) := by decide +kernel
theorem dX11_thing__65 : decode cX11_thing_ 65 = .ok (.ireturn, 1) := by decide +kernel
theorem dX11_say_0 : decode cX11_say 0 = .ok (.aload_n 0, 1) := by decide +kernel
theorem dX11_say_1 : decode cX11_say 1 = .ok (.getfield 468, 3) := by decide +kernel
theorem dX11_say_4 : decode cX11_say 4 = .ok (.sipush 6000, 3) := by decide +kernel
theorem dX11_say_7 : decode cX11_say 7 = .ok (.if_icmp .ge 13, 3) := by decide +kernel
theorem dX11_say_10 : decode cX11_say 10 = .ok (.aload_n 0, 1) := by decide +kernel
theorem dX11_say_11 : decode cX11_say 11 = .ok (.getfield 184, 3) := by decide +kernel
theorem dX11_say_14 : decode cX11_say 14 = .ok (.aload_n 0, 1) := by decide +kernel
theorem dX11_say_15 : decode cX11_say 15 = .ok (.getfield 468, 3) := by decide +kernel
theorem dX11_say_18 : decode cX11_say 18 = .ok (.iload_n 1, 1) := by decide +kernel
theorem dX11_say_19 : decode cX11_say 19 = .ok (.iastore, 1) := by decide +kernel
theorem dX11_say_20 : decode cX11_say 20 = .ok (.aload_n 0, 1) := by decide +kernel
theorem dX11_say_21 : decode cX11_say 21 = .ok (.dup, 1) := by decide +kernel
theorem dX11_say_22 : decode cX11_say 22 = .ok (.getfield 468, 3) := by decide +kernel
theorem dX11_say_25 : decode cX11_say 25 = .ok (.iconst 1, 1) := by decide +kernel
theorem dX11_say_26 : decode cX11_say 26 = .ok (.iadd, 1) := by decide +kernel
theorem dX11_say_27 : decode cX11_say 27 = .ok (.putfield 468, 3) := by decide +kernel
theorem dX11_say_30 : decode cX11_say 30 = .ok (.return_, 1) := by decide +kernel
theorem dX11_sayLabel_0 : decode cX11_sayLabel 0 = .ok (.iconst 0, 1) := by decide +kernel
theorem dX11_sayLabel_1 : decode cX11_sayLabel 1 = .ok (.istore_n 2, 1) := by decide +kernel
theorem dX11_sayLabel_2 : decode cX11_sayLabel 2 = .ok (.iload_n 2, 1) := by decide +kernel
theorem dX11_sayLabel_3 : decode cX11_sayLabel 3 = .ok (.aload_n 0, 1) := by decide +kernel
theorem dX11_sayLabel_4 : decode cX11_sayLabel 4 = .ok (.getfield 35, 3) := by decide +kernel
theorem dX11_sayLabel_7 : decode cX11_sayLabel 7 = .ok (.aload_n 0, 1) := by decide +kernel
theorem dX11_sayLabel_8 : decode cX11_sayLabel 8 = .ok (.iload_n 1, 1) := by decide +kernel
theorem dX11_sayLabel_9 : decode cX11_sayLabel 9 = .ok (.invokevirtual 344, 3) := by decide +kernel
theorem dX11_sayLabel_12 : decode cX11_sayLabel 12 = .ok (.iaload, 1) := by decide +kernel
theorem dX11_sayLabel_13 : decode cX11_sayLabel 13 = .ok (.if_icmp .ge 39, 3) := by decide +kernel
theorem dX11_sayLabel_16 : decode cX11_sayLabel 16 = .ok (.aload_n 0, 1) := by decide +kernel
theorem dX11_sayLabel_17 : decode cX11_sayLabel 17 = .ok (.aload_n 0, 1) := by decide +kernel
theorem dX11_sayLabel_18 : decode cX11_sayLabel 18 = .ok (.getfield 13, 3) := by decide +kernel
theorem dX11_sayLabel_21 : decode cX11_sayLabel 21 = .ok (.sipush 8192, 3) := by decide +kernel
theorem dX11_sayLabel_24 : decode cX11_sayLabel 24 = .ok (.aload_n 0, 1) := by decide +kernel
theorem dX11_sayLabel_25 : decode cX11_sayLabel 25 = .ok (.getfield 226, 3) := by decide +kernel
theorem dX11_sayLabel_28 : decode cX11_sayLabel 28 = .ok (.imul, 1) := by decide +kernel
theorem dX11_sayLabel_29 : decode cX11_sayLabel 29 = .ok (.aload_n 0, 1) := by decide +kernel
theorem dX11_sayLabel_30 : decode cX11_sayLabel 30 = .ok (.getfield 32, 3) := by decide +kernel
theorem dX11_sayLabel_33 : decode cX11_sayLabel 33 = .ok (.aload_n 0, 1) := by decide +kernel
theorem dX11_sayLabel_34 : decode cX11_sayLabel 34 = .ok (.iload_n 1, 1) := by decide +kernel
theorem dX11_sayLabel_35 : decode cX11_sayLabel 35 = .ok (.invokevirtual 344, 3) := by decide +kernel
theorem dX11_sayLabel_38 : decode cX11_sayLabel 38 = .ok (.iaload, 1) := by decide +kernel
theorem dX11_sayLabel_39 : decode cX11_sayLabel 39 = .ok (.iadd, 1) := by decide +kernel
theorem dX11_sayLabel_40 : decode cX11_sayLabel 40 = .ok (.iload_n 2, 1) := by decide +kernel
theorem dX11_sayLabel_41 : decode cX11_sayLabel 41 = .ok (.iadd, 1) := by decide +kernel
theorem dX11_sayLabel_42 : decode cX11_sayLabel 42 = .ok (.iaload, 1) := by decide +kernel
theorem dX11_sayLabel_43 : decode cX11_sayLabel 43 = .ok (.invokevirtual 471, 3) := by decide +kernel
theorem dX11_sayLabel_46 : decode cX11_sayLabel 46 = .ok (.iinc 2 1, 3) := by decide +kernel
theorem dX11_sayLabel_49 : decode cX11_sayLabel 49 = .ok (.goto (-47), 3) := by decide +kernel
theorem dX11_sayLabel_52 : decode cX11_sayLabel 52 = .ok (.return_, 1) := by decide +kernel
theorem dX11_told_0 : decode cX11_told 0 = .ok (.aload_n 0, 1) := by decide +kernel
theorem dX11_told_1 : decode cX11_told 1 = .ok (.getfield 468, 3) := by decide +kernel
theorem dX11_told_4 : decode cX11_told 4 = .ok (.sipush 6000, 3) := by decide +kernel
theorem dX11_told_7 : decode cX11_told 7 = .ok (.if_icmp .le 6, 3) := by decide +kernel
theorem dX11_told_10 : decode cX11_told 10 = .ok (.bipush (-3), 2) := by decide +kernel
theorem dX11_told_12 : decode cX11_told 12 = .ok (.ireturn, 1) := by decide +kernel
theorem dX11_told_13 : decode cX11_told 13 = .ok (.aload_n 0, 1) := by decide +kernel
theorem dX11_told_14 : decode cX11_told 14 = .ok (.aload_n 0, 1) := by decide +kernel
theorem dX11_told_15 : decode cX11_told 15 = .ok (.getfield 468, 3) := by decide +kernel
theorem dX11_told_18 : decode cX11_told 18 = .ok (.putfield 332, 3) := by decide +kernel
theorem dX11_told_21 : decode cX11_told 21 = .ok (.iconst 0, 1) := by decide +kernel
theorem dX11_told_22 : decode cX11_told 22 = .ok (.istore_n 1, 1) := by decide +kernel
theorem dX11_told_23 : decode cX11_told 23 = .ok (.iload_n 1, 1) := by decide +kernel
theorem dX11_told_24 : decode cX11_told 24 = .ok (.aload_n 0, 1) := by decide +kernel
theorem dX11_told_25 : decode cX11_told 25 = .ok (.getfield 468, 3) := by decide +kernel
theorem dX11_told_28 : decode cX11_told 28 = .ok (.if_icmp .ge 21, 3) := by decide +kernel
theorem dX11_told_31 : decode cX11_told 31 = .ok (.aload_n 0, 1) := by decide +kernel
theorem dX11_told_32 : decode cX11_told 32 = .ok (.getfield 181, 3) := by decide +kernel
theorem dX11_told_35 : decode cX11_told 35 = .ok (.iload_n 1, 1) := by decide +kernel
theorem dX11_told_36 : decode cX11_told 36 = .ok (.aload_n 0, 1) := by decide +kernel
theorem dX11_told_37 : decode cX11_told 37 = .ok (.getfield 184, 3) := by decide +kernel
theorem dX11_told_40 : decode cX11_told 40 = .ok (.iload_n 1, 1) := by decide +kernel
theorem dX11_told_41 : decode cX11_told 41 = .ok (.iaload, 1) := by decide +kernel
theorem dX11_told_42 : decode cX11_told 42 = .ok (.iastore, 1) := by decide +kernel
theorem dX11_told_43 : decode cX11_told 43 = .ok (.iinc 1 1, 3) := by decide +kernel
theorem dX11_told_46 : decode cX11_told 46 = .ok (.goto (-23), 3) := by decide +kernel
theorem dX11_told_49 : decode cX11_told 49 = .ok (.aload_n 0, 1) := by decide +kernel
theorem dX11_told_50 : decode cX11_told 50 = .ok (.getfield 332, 3) := by decide +kernel
theorem dX11_told_53 : decode cX11_told 53 = .ok (.ireturn, 1) := by decide +kernel
theorem dX11_compare_0 : decode cX11_compare 0 = .ok (.iconst 0, 1) := by decide +kernel
theorem dX11_compare_1 : decode cX11_compare 1 = .ok (.istore_n 1, 1) := by decide +kernel
theorem dX11_compare_2 : decode cX11_compare 2 = .ok (.iload_n 1, 1) := by decide +kernel
theorem dX11_compare_3 : decode cX11_compare 3 = .ok (.aload_n 0, 1) := by decide +kernel
theorem dX11_compare_4 : decode cX11_compare 4 = .ok (.getfield 401, 3) := by decide +kernel
theorem dX11_compare_7 : decode cX11_compare 7 = .ok (.if_icmp .ge 244, 3) := by decide +kernel
theorem dX11_compare_10 : decode cX11_compare 10 = .ok (.aload_n 0, 1) := by decide +kernel
theorem dX11_compare_11 : decode cX11_compare 11 = .ok (.getfield 160, 3) := by decide +kernel
theorem dX11_compare_14 : decode cX11_compare 14 = .ok (.iload_n 1, 1) := by decide +kernel
theorem dX11_compare_15 : decode cX11_compare 15 = .ok (.iload_n 1, 1) := by decide +kernel
theorem dX11_compare_16 : decode cX11_compare 16 = .ok (.iastore, 1) := by decide +kernel
theorem dX11_compare_17 : decode cX11_compare 17 = .ok (.aload_n 0, 1) := by decide +kernel
theorem dX11_compare_18 : decode cX11_compare 18 = .ok (.getfield 163, 3) := by decide +kernel
theorem dX11_compare_21 : decode cX11_compare 21 = .ok (.iload_n 1, 1) := by decide +kernel
theorem dX11_compare_22 : decode cX11_compare 22 = .ok (.iconst 1, 1) := by decide +kernel
theorem dX11_compare_23 : decode cX11_compare 23 = .ok (.iastore, 1) := by decide +kernel
theorem dX11_compare_24 : decode cX11_compare 24 = .ok (.iconst 0, 1) := by decide +kernel
theorem dX11_compare_25 : decode cX11_compare 25 = .ok (.istore_n 2, 1) := by decide +kernel
theorem dX11_compare_26 : decode cX11_compare 26 = .ok (.iload_n 2, 1) := by decide +kernel
theorem dX11_compare_27 : decode cX11_compare 27 = .ok (.aload_n 0, 1) := by decide +kernel
theorem dX11_compare_28 : decode cX11_compare 28 = .ok (.getfield 148, 3) := by decide +kernel
theorem dX11_compare_31 : decode cX11_compare 31 = .ok (.iload_n 1, 1) := by decide +kernel
theorem dX11_compare_32 : decode cX11_compare 32 = .ok (.iaload, 1) := by decide +kernel
theorem dX11_compare_33 : decode cX11_compare 33 = .ok (.if_icmp .ge 55, 3) := by decide +kernel
theorem dX11_compare_36 : decode cX11_compare 36 = .ok (.aload_n 0, 1) := by decide +kernel
theorem dX11_compare_37 : decode cX11_compare 37 = .ok (.getfield 163, 3) := by decide +kernel
theorem dX11_compare_40 : decode cX11_compare 40 = .ok (.iload_n 1, 1) := by decide +kernel
theorem dX11_compare_41 : decode cX11_compare 41 = .ok (.iaload, 1) := by decide +kernel
theorem dX11_compare_42 : decode cX11_compare 42 = .ok (.aload_n 0, 1) := by decide +kernel
theorem dX11_compare_43 : decode cX11_compare 43 = .ok (.getfield 163, 3) := by decide +kernel
theorem dX11_compare_46 : decode cX11_compare 46 = .ok (.aload_n 0, 1) := by decide +kernel
theorem dX11_compare_47 : decode cX11_compare 47 = .ok (.getfield 142, 3) := by decide +kernel
theorem dX11_compare_50 : decode cX11_compare 50 = .ok (.aload_n 0, 1) := by decide +kernel
theorem dX11_compare_51 : decode cX11_compare 51 = .ok (.getfield 145, 3) := by decide +kernel
theorem dX11_compare_54 : decode cX11_compare 54 = .ok (.iload_n 1, 1) := by decide +kernel
theorem dX11_compare_55 : decode cX11_compare 55 = .ok (.iaload, 1) := by decide +kernel
theorem dX11_compare_56 : decode cX11_compare 56 = .ok (.iload_n 2, 1) := by decide +kernel
theorem dX11_compare_57 : decode cX11_compare 57 = .ok (.iadd, 1) := by decide +kernel
theorem dX11_compare_58 : decode cX11_compare 58 = .ok (.iaload, 1) := by decide +kernel
theorem dX11_compare_59 : decode cX11_compare 59 = .ok (.iaload, 1) := by decide +kernel
theorem dX11_compare_60 : decode cX11_compare 60 = .ok (.iadd, 1) := by decide +kernel
theorem dX11_compare_61 : decode cX11_compare 61 = .ok (.istore_n 3, 1) := by decide +kernel
theorem dX11_compare_62 : decode cX11_compare 62 = .ok (.aload_n 0, 1) := by decide +kernel
theorem dX11_compare_63 : decode cX11_compare 63 = .ok (.getfield 163, 3) := by decide +kernel
theorem dX11_compare_66 : decode cX11_compare 66 = .ok (.iload_n 1, 1) := by decide +kernel
theorem dX11_compare_67 : decode cX11_compare 67 = .ok (.iload_n 3, 1) := by decide +kernel
theorem dX11_compare_68 : decode cX11_compare 68 = .ok (.sipush 1000, 3) := by decide +kernel
theorem dX11_compare_71 : decode cX11_compare 71 = .ok (.if_icmp .le 9, 3) := by decide +kernel
theorem dX11_compare_74 : decode cX11_compare 74 = .ok (.sipush 1001, 3) := by decide +kernel
theorem dX11_compare_77 : decode cX11_compare 77 = .ok (.goto 4, 3) := by decide +kernel
theorem dX11_compare_80 : decode cX11_compare 80 = .ok (.iload_n 3, 1) := by decide +kernel
theorem dX11_compare_81 : decode cX11_compare 81 = .ok (.iastore, 1) := by decide +kernel
theorem dX11_compare_82 : decode cX11_compare 82 = .ok (.iinc 2 1, 3) := by decide +kernel
theorem dX11_compare_85 : decode cX11_compare 85 = .ok (.goto (-59), 3) := by decide +kernel
theorem dX11_compare_88 : decode cX11_compare 88 = .ok (.iconst 0, 1) := by decide +kernel
theorem dX11_compare_89 : decode cX11_compare 89 = .ok (.istore_n 2, 1) := by decide +kernel
theorem dX11_compare_90 : decode cX11_compare 90 = .ok (.iload_n 2, 1) := by decide +kernel
theorem dX11_compare_91 : decode cX11_compare 91 = .ok (.iload_n 1, 1) := by decide +kernel
theorem dX11_compare_92 : decode cX11_compare 92 = .ok (.if_icmp .ge 153, 3) := by decide +kernel
theorem dX11_compare_95 : decode cX11_compare 95 = .ok (.aload_n 0, 1) := by decide +kernel
theorem dX11_compare_96 : decode cX11_compare 96 = .ok (.getfield 160, 3) := by decide +kernel
theorem dX11_compare_99 : decode cX11_compare 99 = .ok (.iload_n 1, 1) := by decide +kernel
theorem dX11_compare_100 : decode cX11_compare 100 = .ok (.iaload, 1) := by decide +kernel
theorem dX11_compare_101 : decode cX11_compare 101 = .ok (.iload_n 1, 1) := by decide +kernel
theorem dX11_compare_102 : decode cX11_compare 102 = .ok (.if_icmp .ne 143, 3) := by decide +kernel
theorem dX11_compare_105 : decode cX11_compare 105 = .ok (.aload_n 0, 1) := by decide +kernel
theorem dX11_compare_106 : decode cX11_compare 106 = .ok (.getfield 111, 3) := by decide +kernel
theorem dX11_compare_109 : decode cX11_compare 109 = .ok (.iload_n 2, 1) := by decide +kernel
theorem dX11_compare_110 : decode cX11_compare 110 = .ok (.iaload, 1) := by decide +kernel
theorem dX11_compare_111 : decode cX11_compare 111 = .ok (.sipush 1000, 3) := by decide +kernel
theorem dX11_compare_114 : decode cX11_compare 114 = .ok (.if_icmp .ge 32, 3) := by decide +kernel
theorem dX11_compare_117 : decode cX11_compare 117 = .ok (.aload_n 0, 1) := by decide +kernel
theorem dX11_compare_118 : decode cX11_compare 118 = .ok (.getfield 160, 3) := by decide +kernel
theorem dX11_compare_121 : decode cX11_compare 121 = .ok (.iload_n 2, 1) := by decide +kernel
theorem dX11_compare_122 : decode cX11_compare 122 = .ok (.iaload, 1) := by decide +kernel
theorem dX11_compare_123 : decode cX11_compare 123 = .ok (.iload_n 2, 1) := by decide +kernel
theorem dX11_compare_124 : decode cX11_compare 124 = .ok (.if_icmp .ne 22, 3) := by decide +kernel
theorem dX11_compare_127 : decode cX11_compare 127 = .ok (.aload_n 0, 1) := by decide +kernel
theorem dX11_compare_128 : decode cX11_compare 128 = .ok (.getfield 111, 3) := by decide +kernel
theorem dX11_compare_131 : decode cX11_compare 131 = .ok (.iload_n 2, 1) := by decide +kernel
theorem dX11_compare_132 : decode cX11_compare 132 = .ok (.iaload, 1) := by decide +kernel
theorem dX11_compare_133 : decode cX11_compare 133 = .ok (.aload_n 0, 1) := by decide +kernel
theorem dX11_compare_134 : decode cX11_compare 134 = .ok (.getfield 111, 3) := by decide +kernel
theorem dX11_compare_137 : decode cX11_compare 137 = .ok (.iload_n 1, 1) := by decide +kernel
theorem dX11_compare_138 : decode cX11_compare 138 = .ok (.iaload, 1) := by decide +kernel
theorem dX11_compare_139 : decode cX11_compare 139 = .ok (.if_icmp .ne 7, 3) := by decide +kernel
theorem dX11_compare_142 : decode cX11_compare 142 = .ok (.iconst 1, 1) := by decide +kernel
theorem dX11_compare_143 : decode cX11_compare 143 = .ok (.goto 4, 3) := by decide +kernel
theorem dX11_compare_146 : decode cX11_compare 146 = .ok (.iconst 0, 1) := by decide +kernel
theorem dX11_compare_147 : decode cX11_compare 147 = .ok (.istore_n 3, 1) := by decide +kernel
theorem dX11_compare_148 : decode cX11_compare 148 = .ok (.iconst 0, 1) := by decide +kernel
theorem dX11_compare_149 : decode cX11_compare 149 = .ok (.istore 4, 2) := by decide +kernel
theorem dX11_compare_151 : decode cX11_compare 151 = .ok (.iload 4, 2) := by decide +kernel
theorem dX11_compare_153 : decode cX11_compare 153 = .ok (.aload_n 0, 1) := by decide +kernel
theorem dX11_compare_154 : decode cX11_compare 154 = .ok (.getfield 148, 3) := by decide +kernel
theorem dX11_compare_157 : decode cX11_compare 157 = .ok (.iload_n 1, 1) := by decide +kernel
theorem dX11_compare_158 : decode cX11_compare 158 = .ok (.iaload, 1) := by decide +kernel
theorem dX11_compare_159 : decode cX11_compare 159 = .ok (.if_icmp .ge 60, 3) := by decide +kernel
theorem dX11_compare_162 : decode cX11_compare 162 = .ok (.iload_n 3, 1) := by decide +kernel
theorem dX11_compare_163 : decode cX11_compare 163 = .ok (.ifCond .eq 56, 3) := by decide +kernel
theorem dX11_compare_166 : decode cX11_compare 166 = .ok (.aload_n 0, 1) := by decide +kernel
theorem dX11_compare_167 : decode cX11_compare 167 = .ok (.getfield 160, 3) := by decide +kernel
theorem dX11_compare_170 : decode cX11_compare 170 = .ok (.aload_n 0, 1) := by decide +kernel
theorem dX11_compare_171 : decode cX11_compare 171 = .ok (.getfield 142, 3) := by decide +kernel
theorem dX11_compare_174 : decode cX11_compare 174 = .ok (.aload_n 0, 1) := by decide +kernel
theorem dX11_compare_175 : decode cX11_compare 175 = .ok (.getfield 145, 3) := by decide +kernel
theorem dX11_compare_178 : decode cX11_compare 178 = .ok (.iload_n 2, 1) := by decide +kernel
theorem dX11_compare_179 : decode cX11_compare 179 = .ok (.iaload, 1) := by decide +kernel
theorem dX11_compare_180 : decode cX11_compare 180 = .ok (.iload 4, 2) := by decide +kernel
theorem dX11_compare_182 : decode cX11_compare 182 = .ok (.iadd, 1) := by decide +kernel
theorem dX11_compare_183 : decode cX11_compare 183 = .ok (.iaload, 1) := by decide +kernel
theorem dX11_compare_184 : decode cX11_compare 184 = .ok (.iaload, 1) := by decide +kernel
theorem dX11_compare_185 : decode cX11_compare 185 = .ok (.aload_n 0, 1) := by decide +kernel
theorem dX11_compare_186 : decode cX11_compare 186 = .ok (.getfield 160, 3) := by decide +kernel
theorem dX11_compare_189 : decode cX11_compare 189 = .ok (.aload_n 0, 1) := by decide +kernel
theorem dX11_compare_190 : decode cX11_compare 190 = .ok (.getfield 142, 3) := by decide +kernel
theorem dX11_compare_193 : decode cX11_compare 193 = .ok (.aload_n 0, 1) := by decide +kernel
theorem dX11_compare_194 : decode cX11_compare 194 = .ok (.getfield 145, 3) := by decide +kernel
theorem dX11_compare_197 : decode cX11_compare 197 = .ok (.iload_n 1, 1) := by decide +kernel
theorem dX11_compare_198 : decode cX11_compare 198 = .ok (.iaload, 1) := by decide +kernel
theorem dX11_compare_199 : decode cX11_compare 199 = .ok (.iload 4, 2) := by decide +kernel
theorem dX11_compare_201 : decode cX11_compare 201 = .ok (.iadd, 1) := by decide +kernel
theorem dX11_compare_202 : decode cX11_compare 202 = .ok (.iaload, 1) := by decide +kernel
theorem dX11_compare_203 : decode cX11_compare 203 = .ok (.iaload, 1) := by decide +kernel
theorem dX11_compare_204 : decode cX11_compare 204 = .ok (.if_icmp .ne 7, 3) := by decide +kernel
theorem dX11_compare_207 : decode cX11_compare 207 = .ok (.iconst 1, 1) := by decide +kernel
theorem dX11_compare_208 : decode cX11_compare 208 = .ok (.goto 4, 3) := by decide +kernel
theorem dX11_compare_211 : decode cX11_compare 211 = .ok (.iconst 0, 1) := by decide +kernel
theorem dX11_compare_212 : decode cX11_compare 212 = .ok (.istore_n 3, 1) := by decide +kernel
theorem dX11_compare_213 : decode cX11_compare 213 = .ok (.iinc 4 1, 3) := by decide +kernel
theorem dX11_compare_216 : decode cX11_compare 216 = .ok (.goto (-65), 3) := by decide +kernel
theorem dX11_compare_219 : decode cX11_compare 219 = .ok (.aload_n 0, 1) := by decide +kernel
theorem dX11_compare_220 : decode cX11_compare 220 = .ok (.getfield 160, 3) := by decide +kernel
theorem dX11_compare_223 : decode cX11_compare 223 = .ok (.iload_n 1, 1) := by decide +kernel
theorem dX11_compare_224 : decode cX11_compare 224 = .ok (.iload_n 3, 1) := by decide +kernel
theorem dX11_compare_225 : decode cX11_compare 225 = .ok (.ifCond .eq 7, 3) := by decide +kernel
theorem dX11_compare_228 : decode cX11_compare 228 = .ok (.iload_n 2, 1) := by decide +kernel
theorem dX11_compare_229 : decode cX11_compare 229 = .ok (.goto 9, 3) := by decide +kernel
theorem dX11_compare_232 : decode cX11_compare 232 = .ok (.aload_n 0, 1) := by decide +kernel
theorem dX11_compare_233 : decode cX11_compare 233 = .ok (.getfield 160, 3) := by decide +kernel
theorem dX11_compare_236 : decode cX11_compare 236 = .ok (.iload_n 1, 1) := by decide +kernel
theorem dX11_compare_237 : decode cX11_compare 237 = .ok (.iaload, 1) := by decide +kernel
theorem dX11_compare_238 : decode cX11_compare 238 = .ok (.iastore, 1) := by decide +kernel
theorem dX11_compare_239 : decode cX11_compare 239 = .ok (.iinc 2 1, 3) := by decide +kernel
theorem dX11_compare_242 : decode cX11_compare 242 = .ok (.goto (-152), 3) := by decide +kernel
theorem dX11_compare_245 : decode cX11_compare 245 = .ok (.iinc 1 1, 3) := by decide +kernel
theorem dX11_compare_248 : decode cX11_compare 248 = .ok (.goto (-246), 3) := by decide +kernel
theorem dX11_compare_251 : decode cX11_compare 251 = .ok (.return_, 1) := by decide +kernel
theorem dX11_writeOut_0 : decode cX11_writeOut 0 = .ok (.aload_n 0, 1) := by decide +kernel
theorem dX11_writeOut_1 : decode cX11_writeOut 1 = .ok (.iconst 0, 1) := by decide +kernel
theorem dX11_writeOut_2 : decode cX11_writeOut 2 = .ok (.putfield 468, 3) := by decide +kernel
theorem dX11_writeOut_5 : decode cX11_writeOut 5 = .ok (.aload_n 0, 1) := by decide +kernel
theorem dX11_writeOut_6 : decode cX11_writeOut 6 = .ok (.getfield 163, 3) := by decide +kernel
theorem dX11_writeOut_9 : decode cX11_writeOut 9 = .ok (.iload_n 1, 1) := by decide +kernel
theorem dX11_writeOut_10 : decode cX11_writeOut 10 = .ok (.iaload, 1) := by decide +kernel
theorem dX11_writeOut_11 : decode cX11_writeOut 11 = .ok (.sipush 1000, 3) := by decide +kernel
theorem dX11_writeOut_14 : decode cX11_writeOut 14 = .ok (.if_icmp .le 6, 3) := by decide +kernel
theorem dX11_writeOut_17 : decode cX11_writeOut 17 = .ok (.bipush (-3), 2) := by decide +kernel
theorem dX11_writeOut_19 : decode cX11_writeOut 19 = .ok (.ireturn, 1) := by decide +kernel
theorem dX11_writeOut_20 : decode cX11_writeOut 20 = .ok (.iconst 1, 1) := by decide +kernel
theorem dX11_writeOut_21 : decode cX11_writeOut 21 = .ok (.istore_n 2, 1) := by decide +kernel
theorem dX11_writeOut_22 : decode cX11_writeOut 22 = .ok (.aload_n 0, 1) := by decide +kernel
theorem dX11_writeOut_23 : decode cX11_writeOut 23 = .ok (.getfield 166, 3) := by decide +kernel
theorem dX11_writeOut_26 : decode cX11_writeOut 26 = .ok (.iconst 0, 1) := by decide +kernel
theorem dX11_writeOut_27 : decode cX11_writeOut 27 = .ok (.iload_n 1, 1) := by decide +kernel
theorem dX11_writeOut_28 : decode cX11_writeOut 28 = .ok (.iastore, 1) := by decide +kernel
theorem dX11_writeOut_29 : decode cX11_writeOut 29 = .ok (.aload_n 0, 1) := by decide +kernel
theorem dX11_writeOut_30 : decode cX11_writeOut 30 = .ok (.getfield 169, 3) := by decide +kernel
theorem dX11_writeOut_33 : decode cX11_writeOut 33 = .ok (.iconst 0, 1) := by decide +kernel
theorem dX11_writeOut_34 : decode cX11_writeOut 34 = .ok (.iconst 0, 1) := by decide +kernel
theorem dX11_writeOut_35 : decode cX11_writeOut 35 = .ok (.iastore, 1) := by decide +kernel
theorem dX11_writeOut_36 : decode cX11_writeOut 36 = .ok (.iload_n 2, 1) := by decide +kernel
theorem dX11_writeOut_37 : decode cX11_writeOut 37 = .ok (.ifCond .le 107, 3) := by decide +kernel
theorem dX11_writeOut_40 : decode cX11_writeOut 40 = .ok (.aload_n 0, 1) := by decide +kernel
theorem dX11_writeOut_41 : decode cX11_writeOut 41 = .ok (.getfield 166, 3) := by decide +kernel
theorem dX11_writeOut_44 : decode cX11_writeOut 44 = .ok (.iload_n 2, 1) := by decide +kernel
theorem dX11_writeOut_45 : decode cX11_writeOut 45 = .ok (.iconst 1, 1) := by decide +kernel
theorem dX11_writeOut_46 : decode cX11_writeOut 46 = .ok (.isub, 1) := by decide +kernel
theorem dX11_writeOut_47 : decode cX11_writeOut 47 = .ok (.iaload, 1) := by decide +kernel
theorem dX11_writeOut_48 : decode cX11_writeOut 48 = .ok (.istore_n 3, 1) := by decide +kernel
theorem dX11_writeOut_49 : decode cX11_writeOut 49 = .ok (.aload_n 0, 1) := by decide +kernel
theorem dX11_writeOut_50 : decode cX11_writeOut 50 = .ok (.getfield 169, 3) := by decide +kernel
theorem dX11_writeOut_53 : decode cX11_writeOut 53 = .ok (.iload_n 2, 1) := by decide +kernel
theorem dX11_writeOut_54 : decode cX11_writeOut 54 = .ok (.iconst 1, 1) := by decide +kernel
theorem dX11_writeOut_55 : decode cX11_writeOut 55 = .ok (.isub, 1) := by decide +kernel
theorem dX11_writeOut_56 : decode cX11_writeOut 56 = .ok (.iaload, 1) := by decide +kernel
theorem dX11_writeOut_57 : decode cX11_writeOut 57 = .ok (.istore 4, 2) := by decide +kernel
theorem dX11_writeOut_59 : decode cX11_writeOut 59 = .ok (.iload 4, 2) := by decide +kernel
theorem dX11_writeOut_61 : decode cX11_writeOut 61 = .ok (.aload_n 0, 1) := by decide +kernel
theorem dX11_writeOut_62 : decode cX11_writeOut 62 = .ok (.getfield 148, 3) := by decide +kernel
theorem dX11_writeOut_65 : decode cX11_writeOut 65 = .ok (.iload_n 3, 1) := by decide +kernel
theorem dX11_writeOut_66 : decode cX11_writeOut 66 = .ok (.iaload, 1) := by decide +kernel
theorem dX11_writeOut_67 : decode cX11_writeOut 67 = .ok (.if_icmp .ge 48, 3) := by decide +kernel
theorem dX11_writeOut_70 : decode cX11_writeOut 70 = .ok (.aload_n 0, 1) := by decide +kernel
theorem dX11_writeOut_71 : decode cX11_writeOut 71 = .ok (.getfield 169, 3) := by decide +kernel
theorem dX11_writeOut_74 : decode cX11_writeOut 74 = .ok (.iload_n 2, 1) := by decide +kernel
theorem dX11_writeOut_75 : decode cX11_writeOut 75 = .ok (.iconst 1, 1) := by decide +kernel
theorem dX11_writeOut_76 : decode cX11_writeOut 76 = .ok (.isub, 1) := by decide +kernel
theorem dX11_writeOut_77 : decode cX11_writeOut 77 = .ok (.dup2, 1) := by decide +kernel
theorem dX11_writeOut_78 : decode cX11_writeOut 78 = .ok (.iaload, 1) := by decide +kernel
theorem dX11_writeOut_79 : decode cX11_writeOut 79 = .ok (.iconst 1, 1) := by decide +kernel
theorem dX11_writeOut_80 : decode cX11_writeOut 80 = .ok (.iadd, 1) := by decide +kernel
theorem dX11_writeOut_81 : decode cX11_writeOut 81 = .ok (.iastore, 1) := by decide +kernel
theorem dX11_writeOut_82 : decode cX11_writeOut 82 = .ok (.aload_n 0, 1) := by decide +kernel
theorem dX11_writeOut_83 : decode cX11_writeOut 83 = .ok (.getfield 166, 3) := by decide +kernel
theorem dX11_writeOut_86 : decode cX11_writeOut 86 = .ok (.iload_n 2, 1) := by decide +kernel
theorem dX11_writeOut_87 : decode cX11_writeOut 87 = .ok (.aload_n 0, 1) := by decide +kernel
theorem dX11_writeOut_88 : decode cX11_writeOut 88 = .ok (.getfield 142, 3) := by decide +kernel
theorem dX11_writeOut_91 : decode cX11_writeOut 91 = .ok (.aload_n 0, 1) := by decide +kernel
theorem dX11_writeOut_92 : decode cX11_writeOut 92 = .ok (.getfield 145, 3) := by decide +kernel
theorem dX11_writeOut_95 : decode cX11_writeOut 95 = .ok (.iload_n 3, 1) := by decide +kernel
theorem dX11_writeOut_96 : decode cX11_writeOut 96 = .ok (.iaload, 1) := by decide +kernel
theorem dX11_writeOut_97 : decode cX11_writeOut 97 = .ok (.iload 4, 2) := by decide +kernel
theorem dX11_writeOut_99 : decode cX11_writeOut 99 = .ok (.iadd, 1) := by decide +kernel
theorem dX11_writeOut_100 : decode cX11_writeOut 100 = .ok (.iaload, 1) := by decide +kernel
theorem dX11_writeOut_101 : decode cX11_writeOut 101 = .ok (.iastore, 1) := by decide +kernel
theorem dX11_writeOut_102 : decode cX11_writeOut 102 = .ok (.aload_n 0, 1) := by decide +kernel
theorem dX11_writeOut_103 : decode cX11_writeOut 103 = .ok (.getfield 169, 3) := by decide +kernel
theorem dX11_writeOut_106 : decode cX11_writeOut 106 = .ok (.iload_n 2, 1) := by decide +kernel
theorem dX11_writeOut_107 : decode cX11_writeOut 107 = .ok (.iconst 0, 1) := by decide +kernel
theorem dX11_writeOut_108 : decode cX11_writeOut 108 = .ok (.iastore, 1) := by decide +kernel
theorem dX11_writeOut_109 : decode cX11_writeOut 109 = .ok (.iinc 2 1, 3) := by decide +kernel
theorem dX11_writeOut_112 : decode cX11_writeOut 112 = .ok (.goto 29, 3) := by decide +kernel
theorem dX11_writeOut_115 : decode cX11_writeOut 115 = .ok (.aload_n 0, 1) := by decide +kernel
theorem dX11_writeOut_116 : decode cX11_writeOut 116 = .ok (.getfield 468, 3) := by decide +kernel
theorem dX11_writeOut_119 : decode cX11_writeOut 119 = .ok (.ifCond .le 9, 3) := by decide +kernel
theorem dX11_writeOut_122 : decode cX11_writeOut 122 = .ok (.aload_n 0, 1) := by decide +kernel
theorem dX11_writeOut_123 : decode cX11_writeOut 123 = .ok (.bipush 32, 2) := by decide +kernel
theorem dX11_writeOut_125 : decode cX11_writeOut 125 = .ok (.invokevirtual 471, 3) := by decide +kernel
theorem dX11_writeOut_128 : decode cX11_writeOut 128 = .ok (.aload_n 0, 1) := by decide +kernel
theorem dX11_writeOut_129 : decode cX11_writeOut 129 = .ok (.aload_n 0, 1) := by decide +kernel
theorem dX11_writeOut_130 : decode cX11_writeOut 130 = .ok (.getfield 111, 3) := by decide +kernel
theorem dX11_writeOut_133 : decode cX11_writeOut 133 = .ok (.iload_n 3, 1) := by decide +kernel
theorem dX11_writeOut_134 : decode cX11_writeOut 134 = .ok (.iaload, 1) := by decide +kernel
theorem dX11_writeOut_135 : decode cX11_writeOut 135 = .ok (.invokevirtual 474, 3) := by decide +kernel
theorem dX11_writeOut_138 : decode cX11_writeOut 138 = .ok (.iinc 2 (-1), 3) := by decide +kernel
theorem dX11_writeOut_141 : decode cX11_writeOut 141 = .ok (.goto (-105), 3) := by decide +kernel
theorem dX11_writeOut_144 : decode cX11_writeOut 144 = .ok (.aload_n 0, 1) := by decide +kernel
theorem dX11_writeOut_145 : decode cX11_writeOut 145 = .ok (.invokevirtual 477, 3) := by decide +kernel
theorem dX11_writeOut_148 : decode cX11_writeOut 148 = .ok (.ireturn, 1) := by decide +kernel
theorem dX11_sayNumber_0 : decode cX11_sayNumber 0 = .ok (.iload_n 1, 1) := by decide +kernel
theorem dX11_sayNumber_1 : decode cX11_sayNumber 1 = .ok (.iconst 1, 1) := by decide +kernel
theorem dX11_sayNumber_2 : decode cX11_sayNumber 2 = .ok (.isub, 1) := by decide +kernel
theorem dX11_sayNumber_3 : decode cX11_sayNumber 3 = .ok (.bipush 20, 2) := by decide +kernel
theorem dX11_sayNumber_5 : decode cX11_sayNumber 5 = .ok (.idiv, 1) := by decide +kernel
theorem dX11_sayNumber_6 : decode cX11_sayNumber 6 = .ok (.istore_n 2, 1) := by decide +kernel
theorem dX11_sayNumber_7 : decode cX11_sayNumber 7 = .ok (.iconst 0, 1) := by decide +kernel
theorem dX11_sayNumber_8 : decode cX11_sayNumber 8 = .ok (.istore_n 3, 1) := by decide +kernel
theorem dX11_sayNumber_9 : decode cX11_sayNumber 9 = .ok (.iload_n 2, 1) := by decide +kernel
theorem dX11_sayNumber_10 : decode cX11_sayNumber 10 = .ok (.istore 4, 2) := by decide +kernel
theorem dX11_sayNumber_12 : decode cX11_sayNumber 12 = .ok (.iload 4, 2) := by decide +kernel
theorem dX11_sayNumber_14 : decode cX11_sayNumber 14 = .ok (.ifCond .le 32, 3) := by decide +kernel
theorem dX11_sayNumber_17 : decode cX11_sayNumber 17 = .ok (.aload_n 0, 1) := by decide +kernel
theorem dX11_sayNumber_18 : decode cX11_sayNumber 18 = .ok (.getfield 166, 3) := by decide +kernel
theorem dX11_sayNumber_21 : decode cX11_sayNumber 21 = .ok (.iload_n 3, 1) := by decide +kernel
theorem dX11_sayNumber_22 : decode cX11_sayNumber 22 = .ok (.bipush 85, 2) := by decide +kernel
theorem dX11_sayNumber_24 : decode cX11_sayNumber 24 = .ok (.iload 4, 2) := by decide +kernel
theorem dX11_sayNumber_26 : decode cX11_sayNumber 26 = .ok (.iconst 1, 1) := by decide +kernel
theorem dX11_sayNumber_27 : decode cX11_sayNumber 27 = .ok (.isub, 1) := by decide +kernel
theorem dX11_sayNumber_28 : decode cX11_sayNumber 28 = .ok (.iconst 5, 1) := by decide +kernel
theorem dX11_sayNumber_29 : decode cX11_sayNumber 29 = .ok (.irem, 1) := by decide +kernel
theorem dX11_sayNumber_30 : decode cX11_sayNumber 30 = .ok (.iadd, 1) := by decide +kernel
theorem dX11_sayNumber_31 : decode cX11_sayNumber 31 = .ok (.iastore, 1) := by decide +kernel
theorem dX11_sayNumber_32 : decode cX11_sayNumber 32 = .ok (.iinc 3 1, 3) := by decide +kernel
theorem dX11_sayNumber_35 : decode cX11_sayNumber 35 = .ok (.iload 4, 2) := by decide +kernel
theorem dX11_sayNumber_37 : decode cX11_sayNumber 37 = .ok (.iconst 1, 1) := by decide +kernel
theorem dX11_sayNumber_38 : decode cX11_sayNumber 38 = .ok (.isub, 1) := by decide +kernel
theorem dX11_sayNumber_39 : decode cX11_sayNumber 39 = .ok (.iconst 5, 1) := by decide +kernel
theorem dX11_sayNumber_40 : decode cX11_sayNumber 40 = .ok (.idiv, 1) := by decide +kernel
theorem dX11_sayNumber_41 : decode cX11_sayNumber 41 = .ok (.istore 4, 2) := by decide +kernel
theorem dX11_sayNumber_43 : decode cX11_sayNumber 43 = .ok (.goto (-31), 3) := by decide +kernel
theorem dX11_sayNumber_46 : decode cX11_sayNumber 46 = .ok (.iload_n 3, 1) := by decide +kernel
theorem dX11_sayNumber_47 : decode cX11_sayNumber 47 = .ok (.iconst 1, 1) := by decide +kernel
theorem dX11_sayNumber_48 : decode cX11_sayNumber 48 = .ok (.isub, 1) := by decide +kernel
theorem dX11_sayNumber_49 : decode cX11_sayNumber 49 = .ok (.istore 5, 2) := by decide +kernel
theorem dX11_sayNumber_51 : decode cX11_sayNumber 51 = .ok (.iload 5, 2) := by decide +kernel
theorem dX11_sayNumber_53 : decode cX11_sayNumber 53 = .ok (.ifCond .lt 20, 3) := by decide +kernel
theorem dX11_sayNumber_56 : decode cX11_sayNumber 56 = .ok (.aload_n 0, 1) := by decide +kernel
theorem dX11_sayNumber_57 : decode cX11_sayNumber 57 = .ok (.aload_n 0, 1) := by decide +kernel
theorem dX11_sayNumber_58 : decode cX11_sayNumber 58 = .ok (.getfield 166, 3) := by decide +kernel
theorem dX11_sayNumber_61 : decode cX11_sayNumber 61 = .ok (.iload 5, 2) := by decide +kernel
theorem dX11_sayNumber_63 : decode cX11_sayNumber 63 = .ok (.iaload, 1) := by decide +kernel
theorem dX11_sayNumber_64 : decode cX11_sayNumber 64 = .ok (.invokevirtual 471, 3) := by decide +kernel
theorem dX11_sayNumber_67 : decode cX11_sayNumber 67 = .ok (.iinc 5 (-1), 3) := by decide +kernel
theorem dX11_sayNumber_70 : decode cX11_sayNumber 70 = .ok (.goto (-19), 3) := by decide +kernel
theorem dX11_sayNumber_73 : decode cX11_sayNumber 73 = .ok (.aload_n 0, 1) := by decide +kernel
theorem dX11_sayNumber_74 : decode cX11_sayNumber 74 = .ok (.bipush 65, 2) := by decide +kernel
theorem dX11_sayNumber_76 : decode cX11_sayNumber 76 = .ok (.iload_n 1, 1) := by decide +kernel
theorem dX11_sayNumber_77 : decode cX11_sayNumber 77 = .ok (.iconst 1, 1) := by decide +kernel
theorem dX11_sayNumber_78 : decode cX11_sayNumber 78 = .ok (.isub, 1) := by decide +kernel
theorem dX11_sayNumber_79 : decode cX11_sayNumber 79 = .ok (.bipush 20, 2) := by decide +kernel
theorem dX11_sayNumber_81 : decode cX11_sayNumber 81 = .ok (.irem, 1) := by decide +kernel
theorem dX11_sayNumber_82 : decode cX11_sayNumber 82 = .ok (.iadd, 1) := by decide +kernel
theorem dX11_sayNumber_83 : decode cX11_sayNumber 83 = .ok (.invokevirtual 471, 3) := by decide +kernel
theorem dX11_sayNumber_86 : decode cX11_sayNumber 86 = .ok (.return_, 1) := by decide +kernel
theorem dX11_goDown_0 : decode cX11_goDown 0 = .ok (.aload_n 0, 1) := by decide +kernel
theorem dX11_goDown_1 : decode cX11_goDown 1 = .ok (.iconst 0, 1) := by decide +kernel
theorem dX11_goDown_2 : decode cX11_goDown 2 = .ok (.putfield 480, 3) := by decide +kernel
theorem dX11_goDown_5 : decode cX11_goDown 5 = .ok (.iconst 0, 1) := by decide +kernel
theorem dX11_goDown_6 : decode cX11_goDown 6 = .ok (.istore_n 2, 1) := by decide +kernel
theorem dX11_goDown_7 : decode cX11_goDown 7 = .ok (.iload_n 2, 1) := by decide +kernel
theorem dX11_goDown_8 : decode cX11_goDown 8 = .ok (.aload_n 0, 1) := by decide +kernel
theorem dX11_goDown_9 : decode cX11_goDown 9 = .ok (.getfield 401, 3) := by decide +kernel
theorem dX11_goDown_12 : decode cX11_goDown 12 = .ok (.if_icmp .ge 23, 3) := by decide +kernel
theorem dX11_goDown_15 : decode cX11_goDown 15 = .ok (.aload_n 0, 1) := by decide +kernel
theorem dX11_goDown_16 : decode cX11_goDown 16 = .ok (.getfield 172, 3) := by decide +kernel
theorem dX11_goDown_19 : decode cX11_goDown 19 = .ok (.iload_n 2, 1) := by decide +kernel
theorem dX11_goDown_20 : decode cX11_goDown 20 = .ok (.iconst 0, 1) := by decide +kernel
theorem dX11_goDown_21 : decode cX11_goDown 21 = .ok (.iastore, 1) := by decide +kernel
theorem dX11_goDown_22 : decode cX11_goDown 22 = .ok (.aload_n 0, 1) := by decide +kernel
theorem dX11_goDown_23 : decode cX11_goDown 23 = .ok (.getfield 175, 3) := by decide +kernel
theorem dX11_goDown_26 : decode cX11_goDown 26 = .ok (.iload_n 2, 1) := by decide +kernel
theorem dX11_goDown_27 : decode cX11_goDown 27 = .ok (.iconst 0, 1) := by decide +kernel
theorem dX11_goDown_28 : decode cX11_goDown 28 = .ok (.iastore, 1) := by decide +kernel
theorem dX11_goDown_29 : decode cX11_goDown 29 = .ok (.iinc 2 1, 3) := by decide +kernel
theorem dX11_goDown_32 : decode cX11_goDown 32 = .ok (.goto (-25), 3) := by decide +kernel
theorem dX11_goDown_35 : decode cX11_goDown 35 = .ok (.iconst 1, 1) := by decide +kernel
theorem dX11_goDown_36 : decode cX11_goDown 36 = .ok (.istore_n 2, 1) := by decide +kernel
theorem dX11_goDown_37 : decode cX11_goDown 37 = .ok (.aload_n 0, 1) := by decide +kernel
theorem dX11_goDown_38 : decode cX11_goDown 38 = .ok (.getfield 166, 3) := by decide +kernel
theorem dX11_goDown_41 : decode cX11_goDown 41 = .ok (.iconst 0, 1) := by decide +kernel
theorem dX11_goDown_42 : decode cX11_goDown 42 = .ok (.aload_n 0, 1) := by decide +kernel
theorem dX11_goDown_43 : decode cX11_goDown 43 = .ok (.getfield 160, 3) := by decide +kernel
theorem dX11_goDown_46 : decode cX11_goDown 46 = .ok (.iload_n 1, 1) := by decide +kernel
theorem dX11_goDown_47 : decode cX11_goDown 47 = .ok (.iaload, 1) := by decide +kernel
theorem dX11_goDown_48 : decode cX11_goDown 48 = .ok (.iastore, 1) := by decide +kernel
theorem dX11_goDown_49 : decode cX11_goDown 49 = .ok (.aload_n 0, 1) := by decide +kernel
theorem dX11_goDown_50 : decode cX11_goDown 50 = .ok (.getfield 169, 3) := by decide +kernel
theorem dX11_goDown_53 : decode cX11_goDown 53 = .ok (.iconst 0, 1) := by decide +kernel
theorem dX11_goDown_54 : decode cX11_goDown 54 = .ok (.iconst 0, 1) := by decide +kernel
theorem dX11_goDown_55 : decode cX11_goDown 55 = .ok (.iastore, 1) := by decide +kernel
theorem dX11_goDown_56 : decode cX11_goDown 56 = .ok (.iload_n 2, 1) := by decide +kernel
theorem dX11_goDown_57 : decode cX11_goDown 57 = .ok (.ifCond .le 192, 3) := by decide +kernel
theorem dX11_goDown_60 : decode cX11_goDown 60 = .ok (.aload_n 0, 1) := by decide +kernel
theorem dX11_goDown_61 : decode cX11_goDown 61 = .ok (.getfield 166, 3) := by decide +kernel
theorem dX11_goDown_64 : decode cX11_goDown 64 = .ok (.iload_n 2, 1) := by decide +kernel
theorem dX11_goDown_65 : decode cX11_goDown 65 = .ok (.iconst 1, 1) := by decide +kernel
theorem dX11_goDown_66 : decode cX11_goDown 66 = .ok (.isub, 1) := by decide +kernel
theorem dX11_goDown_67 : decode cX11_goDown 67 = .ok (.iaload, 1) := by decide +kernel
theorem dX11_goDown_68 : decode cX11_goDown 68 = .ok (.istore_n 3, 1) := by decide +kernel
theorem dX11_goDown_69 : decode cX11_goDown 69 = .ok (.aload_n 0, 1) := by decide +kernel
theorem dX11_goDown_70 : decode cX11_goDown 70 = .ok (.getfield 169, 3) := by decide +kernel
theorem dX11_goDown_73 : decode cX11_goDown 73 = .ok (.iload_n 2, 1) := by decide +kernel
theorem dX11_goDown_74 : decode cX11_goDown 74 = .ok (.iconst 1, 1) := by decide +kernel
theorem dX11_goDown_75 : decode cX11_goDown 75 = .ok (.isub, 1) := by decide +kernel
theorem dX11_goDown_76 : decode cX11_goDown 76 = .ok (.iaload, 1) := by decide +kernel
theorem dX11_goDown_77 : decode cX11_goDown 77 = .ok (.istore 4, 2) := by decide +kernel
theorem dX11_goDown_79 : decode cX11_goDown 79 = .ok (.iload 4, 2) := by decide +kernel
theorem dX11_goDown_81 : decode cX11_goDown 81 = .ok (.ifCond .ne 61, 3) := by decide +kernel
theorem dX11_goDown_84 : decode cX11_goDown 84 = .ok (.aload_n 0, 1) := by decide +kernel
theorem dX11_goDown_85 : decode cX11_goDown 85 = .ok (.getfield 148, 3) := by decide +kernel
theorem dX11_goDown_88 : decode cX11_goDown 88 = .ok (.iload_n 3, 1) := by decide +kernel
theorem dX11_goDown_89 : decode cX11_goDown 89 = .ok (.iaload, 1) := by decide +kernel
theorem dX11_goDown_90 : decode cX11_goDown 90 = .ok (.ifCond .le 52, 3) := by decide +kernel
theorem dX11_goDown_93 : decode cX11_goDown 93 = .ok (.aload_n 0, 1) := by decide +kernel
theorem dX11_goDown_94 : decode cX11_goDown 94 = .ok (.getfield 172, 3) := by decide +kernel
theorem dX11_goDown_97 : decode cX11_goDown 97 = .ok (.iload_n 3, 1) := by decide +kernel
theorem dX11_goDown_98 : decode cX11_goDown 98 = .ok (.iaload, 1) := by decide +kernel
theorem dX11_goDown_99 : decode cX11_goDown 99 = .ok (.ifCond .le 43, 3) := by decide +kernel
theorem dX11_goDown_102 : decode cX11_goDown 102 = .ok (.aload_n 0, 1) := by decide +kernel
theorem dX11_goDown_103 : decode cX11_goDown 103 = .ok (.getfield 172, 3) := by decide +kernel
theorem dX11_goDown_106 : decode cX11_goDown 106 = .ok (.iload_n 3, 1) := by decide +kernel
theorem dX11_goDown_107 : decode cX11_goDown 107 = .ok (.dup2, 1) := by decide +kernel
theorem dX11_goDown_108 : decode cX11_goDown 108 = .ok (.iaload, 1) := by decide +kernel
theorem dX11_goDown_109 : decode cX11_goDown 109 = .ok (.iconst 1, 1) := by decide +kernel
theorem dX11_goDown_110 : decode cX11_goDown 110 = .ok (.iadd, 1) := by decide +kernel
theorem dX11_goDown_111 : decode cX11_goDown 111 = .ok (.iastore, 1) := by decide +kernel
theorem dX11_goDown_112 : decode cX11_goDown 112 = .ok (.aload_n 0, 1) := by decide +kernel
theorem dX11_goDown_113 : decode cX11_goDown 113 = .ok (.getfield 190, 3) := by decide +kernel
theorem dX11_goDown_116 : decode cX11_goDown 116 = .ok (.aload_n 0, 1) := by decide +kernel
theorem dX11_goDown_117 : decode cX11_goDown 117 = .ok (.getfield 480, 3) := by decide +kernel
theorem dX11_goDown_120 : decode cX11_goDown 120 = .ok (.sipush 1000, 3) := by decide +kernel
theorem dX11_goDown_123 : decode cX11_goDown 123 = .ok (.iload_n 3, 1) := by decide +kernel
theorem dX11_goDown_124 : decode cX11_goDown 124 = .ok (.iadd, 1) := by decide +kernel
theorem dX11_goDown_125 : decode cX11_goDown 125 = .ok (.iastore, 1) := by decide +kernel
theorem dX11_goDown_126 : decode cX11_goDown 126 = .ok (.aload_n 0, 1) := by decide +kernel
theorem dX11_goDown_127 : decode cX11_goDown 127 = .ok (.dup, 1) := by decide +kernel
theorem dX11_goDown_128 : decode cX11_goDown 128 = .ok (.getfield 480, 3) := by decide +kernel
theorem dX11_goDown_131 : decode cX11_goDown 131 = .ok (.iconst 1, 1) := by decide +kernel
theorem dX11_goDown_132 : decode cX11_goDown 132 = .ok (.iadd, 1) := by decide +kernel
theorem dX11_goDown_133 : decode cX11_goDown 133 = .ok (.putfield 480, 3) := by decide +kernel
theorem dX11_goDown_136 : decode cX11_goDown 136 = .ok (.iinc 2 (-1), 3) := by decide +kernel
theorem dX11_goDown_139 : decode cX11_goDown 139 = .ok (.goto 107, 3) := by decide +kernel
theorem dX11_goDown_142 : decode cX11_goDown 142 = .ok (.iload 4, 2) := by decide +kernel
theorem dX11_goDown_144 : decode cX11_goDown 144 = .ok (.aload_n 0, 1) := by decide +kernel
theorem dX11_goDown_145 : decode cX11_goDown 145 = .ok (.getfield 148, 3) := by decide +kernel
theorem dX11_goDown_148 : decode cX11_goDown 148 = .ok (.iload_n 3, 1) := by decide +kernel
theorem dX11_goDown_149 : decode cX11_goDown 149 = .ok (.iaload, 1) := by decide +kernel
theorem dX11_goDown_150 : decode cX11_goDown 150 = .ok (.if_icmp .ge 53, 3) := by decide +kernel
theorem dX11_goDown_153 : decode cX11_goDown 153 = .ok (.aload_n 0, 1) := by decide +kernel
theorem dX11_goDown_154 : decode cX11_goDown 154 = .ok (.getfield 169, 3) := by decide +kernel
theorem dX11_goDown_157 : decode cX11_goDown 157 = .ok (.iload_n 2, 1) := by decide +kernel
theorem dX11_goDown_158 : decode cX11_goDown 158 = .ok (.iconst 1, 1) := by decide +kernel
theorem dX11_goDown_159 : decode cX11_goDown 159 = .ok (.isub, 1) := by decide +kernel
theorem dX11_goDown_160 : decode cX11_goDown 160 = .ok (.dup2, 1) := by decide +kernel
theorem dX11_goDown_161 : decode cX11_goDown 161 = .ok (.iaload, 1) := by decide +kernel
theorem dX11_goDown_162 : decode cX11_goDown 162 = .ok (.iconst 1, 1) := by decide +kernel
theorem dX11_goDown_163 : decode cX11_goDown 163 = .ok (.iadd, 1) := by decide +kernel
theorem dX11_goDown_164 : decode cX11_goDown 164 = .ok (.iastore, 1) := by decide +kernel
theorem dX11_goDown_165 : decode cX11_goDown 165 = .ok (.aload_n 0, 1) := by decide +kernel
theorem dX11_goDown_166 : decode cX11_goDown 166 = .ok (.getfield 166, 3) := by decide +kernel
theorem dX11_goDown_169 : decode cX11_goDown 169 = .ok (.iload_n 2, 1) := by decide +kernel
theorem dX11_goDown_170 : decode cX11_goDown 170 = .ok (.aload_n 0, 1) := by decide +kernel
theorem dX11_goDown_171 : decode cX11_goDown 171 = .ok (.getfield 160, 3) := by decide +kernel
theorem dX11_goDown_174 : decode cX11_goDown 174 = .ok (.aload_n 0, 1) := by decide +kernel
theorem dX11_goDown_175 : decode cX11_goDown 175 = .ok (.getfield 142, 3) := by decide +kernel
theorem dX11_goDown_178 : decode cX11_goDown 178 = .ok (.aload_n 0, 1) := by decide +kernel
theorem dX11_goDown_179 : decode cX11_goDown 179 = .ok (.getfield 145, 3) := by decide +kernel
theorem dX11_goDown_182 : decode cX11_goDown 182 = .ok (.iload_n 3, 1) := by decide +kernel
theorem dX11_goDown_183 : decode cX11_goDown 183 = .ok (.iaload, 1) := by decide +kernel
theorem dX11_goDown_184 : decode cX11_goDown 184 = .ok (.iload 4, 2) := by decide +kernel
theorem dX11_goDown_186 : decode cX11_goDown 186 = .ok (.iadd, 1) := by decide +kernel
theorem dX11_goDown_187 : decode cX11_goDown 187 = .ok (.iaload, 1) := by decide +kernel
theorem dX11_goDown_188 : decode cX11_goDown 188 = .ok (.iaload, 1) := by decide +kernel
theorem dX11_goDown_189 : decode cX11_goDown 189 = .ok (.iastore, 1) := by decide +kernel
theorem dX11_goDown_190 : decode cX11_goDown 190 = .ok (.aload_n 0, 1) := by decide +kernel
theorem dX11_goDown_191 : decode cX11_goDown 191 = .ok (.getfield 169, 3) := by decide +kernel
theorem dX11_goDown_194 : decode cX11_goDown 194 = .ok (.iload_n 2, 1) := by decide +kernel
theorem dX11_goDown_195 : decode cX11_goDown 195 = .ok (.iconst 0, 1) := by decide +kernel
theorem dX11_goDown_196 : decode cX11_goDown 196 = .ok (.iastore, 1) := by decide +kernel
theorem dX11_goDown_197 : decode cX11_goDown 197 = .ok (.iinc 2 1, 3) := by decide +kernel
theorem dX11_goDown_200 : decode cX11_goDown 200 = .ok (.goto 46, 3) := by decide +kernel
theorem dX11_goDown_203 : decode cX11_goDown 203 = .ok (.aload_n 0, 1) := by decide +kernel
theorem dX11_goDown_204 : decode cX11_goDown 204 = .ok (.getfield 172, 3) := by decide +kernel
theorem dX11_goDown_207 : decode cX11_goDown 207 = .ok (.iload_n 3, 1) := by decide +kernel
theorem dX11_goDown_208 : decode cX11_goDown 208 = .ok (.aload_n 0, 1) := by decide +kernel
theorem dX11_goDown_209 : decode cX11_goDown 209 = .ok (.getfield 148, 3) := by decide +kernel
theorem dX11_goDown_212 : decode cX11_goDown 212 = .ok (.iload_n 3, 1) := by decide +kernel
theorem dX11_goDown_213 : decode cX11_goDown 213 = .ok (.iaload, 1) := by decide +kernel
theorem dX11_goDown_214 : decode cX11_goDown 214 = .ok (.ifCond .le 7, 3) := by decide +kernel
theorem dX11_goDown_217 : decode cX11_goDown 217 = .ok (.iconst 1, 1) := by decide +kernel
theorem dX11_goDown_218 : decode cX11_goDown 218 = .ok (.goto 4, 3) := by decide +kernel
theorem dX11_goDown_221 : decode cX11_goDown 221 = .ok (.iconst 0, 1) := by decide +kernel
theorem dX11_goDown_222 : decode cX11_goDown 222 = .ok (.iastore, 1) := by decide +kernel
theorem dX11_goDown_223 : decode cX11_goDown 223 = .ok (.aload_n 0, 1) := by decide +kernel
theorem dX11_goDown_224 : decode cX11_goDown 224 = .ok (.getfield 190, 3) := by decide +kernel
theorem dX11_goDown_227 : decode cX11_goDown 227 = .ok (.aload_n 0, 1) := by decide +kernel
theorem dX11_goDown_228 : decode cX11_goDown 228 = .ok (.getfield 480, 3) := by decide +kernel
theorem dX11_goDown_231 : decode cX11_goDown 231 = .ok (.iload_n 3, 1) := by decide +kernel
theorem dX11_goDown_232 : decode cX11_goDown 232 = .ok (.iastore, 1) := by decide +kernel
theorem dX11_goDown_233 : decode cX11_goDown 233 = .ok (.aload_n 0, 1) := by decide +kernel
theorem dX11_goDown_234 : decode cX11_goDown 234 = .ok (.dup, 1) := by decide +kernel
theorem dX11_goDown_235 : decode cX11_goDown 235 = .ok (.getfield 480, 3) := by decide +kernel
theorem dX11_goDown_238 : decode cX11_goDown 238 = .ok (.iconst 1, 1) := by decide +kernel
theorem dX11_goDown_239 : decode cX11_goDown 239 = .ok (.iadd, 1) := by decide +kernel
theorem dX11_goDown_240 : decode cX11_goDown 240 = .ok (.putfield 480, 3) := by decide +kernel
theorem dX11_goDown_243 : decode cX11_goDown 243 = .ok (.iinc 2 (-1), 3) := by decide +kernel
theorem dX11_goDown_246 : decode cX11_goDown 246 = .ok (.goto (-190), 3) := by decide +kernel
theorem dX11_goDown_249 : decode cX11_goDown 249 = .ok (.return_, 1) := by decide +kernel
theorem dX11_indexOf_0 : decode cX11_indexOf 0 = .ok (.iconst 0, 1) := by decide +kernel
theorem dX11_indexOf_1 : decode cX11_indexOf 1 = .ok (.istore_n 3, 1) := by decide +kernel
theorem dX11_indexOf_2 : decode cX11_indexOf 2 = .ok (.iconst 0, 1) := by decide +kernel
theorem dX11_indexOf_3 : decode cX11_indexOf 3 = .ok (.istore 4, 2) := by decide +kernel
theorem dX11_indexOf_5 : decode cX11_indexOf 5 = .ok (.iload 4, 2) := by decide +kernel
theorem dX11_indexOf_7 : decode cX11_indexOf 7 = .ok (.iload_n 1, 1) := by decide +kernel
theorem dX11_indexOf_8 : decode cX11_indexOf 8 = .ok (.if_icmp .ge 34, 3) := by decide +kernel
theorem dX11_indexOf_11 : decode cX11_indexOf 11 = .ok (.aload_n 0, 1) := by decide +kernel
theorem dX11_indexOf_12 : decode cX11_indexOf 12 = .ok (.aload_n 0, 1) := by decide +kernel
theorem dX11_indexOf_13 : decode cX11_indexOf 13 = .ok (.getfield 69, 3) := by decide +kernel
theorem dX11_indexOf_16 : decode cX11_indexOf 16 = .ok (.iload_n 1, 1) := by decide +kernel
theorem dX11_indexOf_17 : decode cX11_indexOf 17 = .ok (.iload 4, 2) := by decide +kernel
theorem dX11_indexOf_19 : decode cX11_indexOf 19 = .ok (.invokevirtual 350, 3) := by decide +kernel
theorem dX11_indexOf_22 : decode cX11_indexOf 22 = .ok (.ifCond .eq 14, 3) := by decide +kernel
theorem dX11_indexOf_25 : decode cX11_indexOf 25 = .ok (.iinc 3 1, 3) := by decide +kernel
theorem dX11_indexOf_28 : decode cX11_indexOf 28 = .ok (.iload 4, 2) := by decide +kernel
theorem dX11_indexOf_30 : decode cX11_indexOf 30 = .ok (.iload_n 2, 1) := by decide +kernel
theorem dX11_indexOf_31 : decode cX11_indexOf 31 = .ok (.if_icmp .ne 5, 3) := by decide +kernel
theorem dX11_indexOf_34 : decode cX11_indexOf 34 = .ok (.iload_n 3, 1) := by decide +kernel
theorem dX11_indexOf_35 : decode cX11_indexOf 35 = .ok (.ireturn, 1) := by decide +kernel
theorem dX11_indexOf_36 : decode cX11_indexOf 36 = .ok (.iinc 4 1, 3) := by decide +kernel
theorem dX11_indexOf_39 : decode cX11_indexOf 39 = .ok (.goto (-34), 3) := by decide +kernel
theorem dX11_indexOf_42 : decode cX11_indexOf 42 = .ok (.iconst 0, 1) := by decide +kernel
theorem dX11_indexOf_43 : decode cX11_indexOf 43 = .ok (.ireturn, 1) := by decide +kernel
theorem dX11_compressed_0 : decode cX11_compressed 0 = .ok (.aload_n 0, 1) := by decide +kernel
theorem dX11_compressed_1 : decode cX11_compressed 1 = .ok (.iload_n 2, 1) := by decide +kernel
theorem dX11_compressed_2 : decode cX11_compressed 2 = .ok (.invokevirtual 483, 3) := by decide +kernel
theorem dX11_compressed_5 : decode cX11_compressed 5 = .ok (.aload_n 0, 1) := by decide +kernel
theorem dX11_compressed_6 : decode cX11_compressed 6 = .ok (.iconst 0, 1) := by decide +kernel
theorem dX11_compressed_7 : decode cX11_compressed 7 = .ok (.putfield 468, 3) := by decide +kernel
theorem dX11_compressed_10 : decode cX11_compressed 10 = .ok (.aload_n 0, 1) := by decide +kernel
theorem dX11_compressed_11 : decode cX11_compressed 11 = .ok (.bipush 40, 2) := by decide +kernel
theorem dX11_compressed_13 : decode cX11_compressed 13 = .ok (.invokevirtual 471, 3) := by decide +kernel
theorem dX11_compressed_16 : decode cX11_compressed 16 = .ok (.aload_n 0, 1) := by decide +kernel
theorem dX11_compressed_17 : decode cX11_compressed 17 = .ok (.bipush 32, 2) := by decide +kernel
theorem dX11_compressed_19 : decode cX11_compressed 19 = .ok (.invokevirtual 471, 3) := by decide +kernel
theorem dX11_compressed_22 : decode cX11_compressed 22 = .ok (.aload_n 0, 1) := by decide +kernel
theorem dX11_compressed_23 : decode cX11_compressed 23 = .ok (.iload_n 1, 1) := by decide +kernel
theorem dX11_compressed_24 : decode cX11_compressed 24 = .ok (.invokevirtual 364, 3) := by decide +kernel
theorem dX11_compressed_27 : decode cX11_compressed 27 = .ok (.istore_n 3, 1) := by decide +kernel
theorem dX11_compressed_28 : decode cX11_compressed 28 = .ok (.iconst 0, 1) := by decide +kernel
theorem dX11_compressed_29 : decode cX11_compressed 29 = .ok (.istore 4, 2) := by decide +kernel
theorem dX11_compressed_31 : decode cX11_compressed 31 = .ok (.iconst 0, 1) := by decide +kernel
theorem dX11_compressed_32 : decode cX11_compressed 32 = .ok (.istore 5, 2) := by decide +kernel
theorem dX11_compressed_34 : decode cX11_compressed 34 = .ok (.iload 5, 2) := by decide +kernel
theorem dX11_compressed_36 : decode cX11_compressed 36 = .ok (.sipush 200, 3) := by decide +kernel
theorem dX11_compressed_39 : decode cX11_compressed 39 = .ok (.if_icmp .ge 17, 3) := by decide +kernel
theorem dX11_compressed_42 : decode cX11_compressed 42 = .ok (.aload_n 0, 1) := by decide +kernel
theorem dX11_compressed_43 : decode cX11_compressed 43 = .ok (.getfield 178, 3) := by decide +kernel
theorem dX11_compressed_46 : decode cX11_compressed 46 = .ok (.iload 5, 2) := by decide +kernel
theorem dX11_compressed_48 : decode cX11_compressed 48 = .ok (.iconst 0, 1) := by decide +kernel
theorem dX11_compressed_49 : decode cX11_compressed 49 = .ok (.iastore, 1) := by decide +kernel
theorem dX11_compressed_50 : decode cX11_compressed 50 = .ok (.iinc 5 1, 3) := by decide +kernel
theorem dX11_compressed_53 : decode cX11_compressed 53 = .ok (.goto (-19), 3) := by decide +kernel
theorem dX11_compressed_56 : decode cX11_compressed 56 = .ok (.iconst 0, 1) := by decide +kernel
theorem dX11_compressed_57 : decode cX11_compressed 57 = .ok (.istore 5, 2) := by decide +kernel
theorem dX11_compressed_59 : decode cX11_compressed 59 = .ok (.iload 5, 2) := by decide +kernel
theorem dX11_compressed_61 : decode cX11_compressed 61 = .ok (.aload_n 0, 1) := by decide +kernel
theorem dX11_compressed_62 : decode cX11_compressed 62 = .ok (.getfield 480, 3) := by decide +kernel
theorem dX11_compressed_65 : decode cX11_compressed 65 = .ok (.if_icmp .ge 82, 3) := by decide +kernel
theorem dX11_compressed_68 : decode cX11_compressed 68 = .ok (.aload_n 0, 1) := by decide +kernel
theorem dX11_compressed_69 : decode cX11_compressed 69 = .ok (.getfield 190, 3) := by decide +kernel
theorem dX11_compressed_72 : decode cX11_compressed 72 = .ok (.iload 5, 2) := by decide +kernel
theorem dX11_compressed_74 : decode cX11_compressed 74 = .ok (.iaload, 1) := by decide +kernel
theorem dX11_compressed_75 : decode cX11_compressed 75 = .ok (.sipush 1000, 3) := by decide +kernel
theorem dX11_compressed_78 : decode cX11_compressed 78 = .ok (.if_icmp .ge 63, 3) := by decide +kernel
theorem dX11_compressed_81 : decode cX11_compressed 81 = .ok (.aload_n 0, 1) := by decide +kernel
theorem dX11_compressed_82 : decode cX11_compressed 82 = .ok (.getfield 111, 3) := by decide +kernel
theorem dX11_compressed_85 : decode cX11_compressed 85 = .ok (.aload_n 0, 1) := by decide +kernel
theorem dX11_compressed_86 : decode cX11_compressed 86 = .ok (.getfield 190, 3) := by decide +kernel
theorem dX11_compressed_89 : decode cX11_compressed 89 = .ok (.iload 5, 2) := by decide +kernel
theorem dX11_compressed_91 : decode cX11_compressed 91 = .ok (.iaload, 1) := by decide +kernel
theorem dX11_compressed_92 : decode cX11_compressed 92 = .ok (.iaload, 1) := by decide +kernel
theorem dX11_compressed_93 : decode cX11_compressed 93 = .ok (.istore 6, 2) := by decide +kernel
theorem dX11_compressed_95 : decode cX11_compressed 95 = .ok (.aload_n 0, 1) := by decide +kernel
theorem dX11_compressed_96 : decode cX11_compressed 96 = .ok (.iload_n 1, 1) := by decide +kernel
theorem dX11_compressed_97 : decode cX11_compressed 97 = .ok (.iload 6, 2) := by decide +kernel
theorem dX11_compressed_99 : decode cX11_compressed 99 = .ok (.invokevirtual 486, 3) := by decide +kernel
theorem dX11_compressed_102 : decode cX11_compressed 102 = .ok (.ifCond .ne 39, 3) := by decide +kernel
theorem dX11_compressed_105 : decode cX11_compressed 105 = .ok (.aload_n 0, 1) := by decide +kernel
theorem dX11_compressed_106 : decode cX11_compressed 106 = .ok (.getfield 178, 3) := by decide +kernel
theorem dX11_compressed_109 : decode cX11_compressed 109 = .ok (.iload 6, 2) := by decide +kernel
theorem dX11_compressed_111 : decode cX11_compressed 111 = .ok (.iaload, 1) := by decide +kernel
theorem dX11_compressed_112 : decode cX11_compressed 112 = .ok (.ifCond .ne 29, 3) := by decide +kernel
theorem dX11_compressed_115 : decode cX11_compressed 115 = .ok (.iinc 4 1, 3) := by decide +kernel
theorem dX11_compressed_118 : decode cX11_compressed 118 = .ok (.aload_n 0, 1) := by decide +kernel
theorem dX11_compressed_119 : decode cX11_compressed 119 = .ok (.getfield 178, 3) := by decide +kernel
theorem dX11_compressed_122 : decode cX11_compressed 122 = .ok (.iload 6, 2) := by decide +kernel
theorem dX11_compressed_124 : decode cX11_compressed 124 = .ok (.iload_n 3, 1) := by decide +kernel
theorem dX11_compressed_125 : decode cX11_compressed 125 = .ok (.iload 4, 2) := by decide +kernel
theorem dX11_compressed_127 : decode cX11_compressed 127 = .ok (.iadd, 1) := by decide +kernel
theorem dX11_compressed_128 : decode cX11_compressed 128 = .ok (.iastore, 1) := by decide +kernel
theorem dX11_compressed_129 : decode cX11_compressed 129 = .ok (.aload_n 0, 1) := by decide +kernel
theorem dX11_compressed_130 : decode cX11_compressed 130 = .ok (.iload 6, 2) := by decide +kernel
theorem dX11_compressed_132 : decode cX11_compressed 132 = .ok (.invokevirtual 474, 3) := by decide +kernel
theorem dX11_compressed_135 : decode cX11_compressed 135 = .ok (.aload_n 0, 1) := by decide +kernel
theorem dX11_compressed_136 : decode cX11_compressed 136 = .ok (.bipush 32, 2) := by decide +kernel
theorem dX11_compressed_138 : decode cX11_compressed 138 = .ok (.invokevirtual 471, 3) := by decide +kernel
theorem dX11_compressed_141 : decode cX11_compressed 141 = .ok (.iinc 5 1, 3) := by decide +kernel
theorem dX11_compressed_144 : decode cX11_compressed 144 = .ok (.goto (-85), 3) := by decide +kernel
theorem dX11_compressed_147 : decode cX11_compressed 147 = .ok (.aload_n 0, 1) := by decide +kernel
theorem dX11_compressed_148 : decode cX11_compressed 148 = .ok (.bipush 41, 2) := by decide +kernel
theorem dX11_compressed_150 : decode cX11_compressed 150 = .ok (.invokevirtual 471, 3) := by decide +kernel
theorem dX11_compressed_153 : decode cX11_compressed 153 = .ok (.aload_n 0, 1) := by decide +kernel
theorem dX11_compressed_154 : decode cX11_compressed 154 = .ok (.bipush 32, 2) := by decide +kernel
theorem dX11_compressed_156 : decode cX11_compressed 156 = .ok (.invokevirtual 471, 3) := by decide +kernel
theorem dX11_compressed_159 : decode cX11_compressed 159 = .ok (.iconst 0, 1) := by decide +kernel
theorem dX11_compressed_160 : decode cX11_compressed 160 = .ok (.istore 5, 2) := by decide +kernel
theorem dX11_compressed_162 : decode cX11_compressed 162 = .ok (.iconst 0, 1) := by decide +kernel
theorem dX11_compressed_163 : decode cX11_compressed 163 = .ok (.istore 6, 2) := by decide +kernel
theorem dX11_compressed_165 : decode cX11_compressed 165 = .ok (.iload 6, 2) := by decide +kernel
theorem dX11_compressed_167 : decode cX11_compressed 167 = .ok (.aload_n 0, 1) := by decide +kernel
theorem dX11_compressed_168 : decode cX11_compressed 168 = .ok (.getfield 480, 3) := by decide +kernel
theorem dX11_compressed_171 : decode cX11_compressed 171 = .ok (.if_icmp .ge 123, 3) := by decide +kernel
theorem dX11_compressed_174 : decode cX11_compressed 174 = .ok (.aload_n 0, 1) := by decide +kernel
theorem dX11_compressed_175 : decode cX11_compressed 175 = .ok (.getfield 190, 3) := by decide +kernel
theorem dX11_compressed_178 : decode cX11_compressed 178 = .ok (.iload 6, 2) := by decide +kernel
theorem dX11_compressed_180 : decode cX11_compressed 180 = .ok (.iaload, 1) := by decide +kernel
theorem dX11_compressed_181 : decode cX11_compressed 181 = .ok (.sipush 1000, 3) := by decide +kernel
theorem dX11_compressed_184 : decode cX11_compressed 184 = .ok (.irem, 1) := by decide +kernel
theorem dX11_compressed_185 : decode cX11_compressed 185 = .ok (.istore 7, 2) := by decide +kernel
theorem dX11_compressed_187 : decode cX11_compressed 187 = .ok (.aload_n 0, 1) := by decide +kernel
theorem dX11_compressed_188 : decode cX11_compressed 188 = .ok (.getfield 190, 3) := by decide +kernel
theorem dX11_compressed_191 : decode cX11_compressed 191 = .ok (.iload 6, 2) := by decide +kernel
theorem dX11_compressed_193 : decode cX11_compressed 193 = .ok (.iaload, 1) := by decide +kernel
theorem dX11_compressed_194 : decode cX11_compressed 194 = .ok (.sipush 1000, 3) := by decide +kernel
theorem dX11_compressed_197 : decode cX11_compressed 197 = .ok (.if_icmp .lt 17, 3) := by decide +kernel
theorem dX11_compressed_200 : decode cX11_compressed 200 = .ok (.aload_n 0, 1) := by decide +kernel
theorem dX11_compressed_201 : decode cX11_compressed 201 = .ok (.aload_n 0, 1) := by decide +kernel
theorem dX11_compressed_202 : decode cX11_compressed 202 = .ok (.getfield 175, 3) := by decide +kernel
theorem dX11_compressed_205 : decode cX11_compressed 205 = .ok (.iload 7, 2) := by decide +kernel
theorem dX11_compressed_207 : decode cX11_compressed 207 = .ok (.iaload, 1) := by decide +kernel
theorem dX11_compressed_208 : decode cX11_compressed 208 = .ok (.invokevirtual 489, 3) := by decide +kernel
theorem dX11_compressed_211 : decode cX11_compressed 211 = .ok (.goto 77, 3) := by decide +kernel
theorem dX11_compressed_214 : decode cX11_compressed 214 = .ok (.aload_n 0, 1) := by decide +kernel
theorem dX11_compressed_215 : decode cX11_compressed 215 = .ok (.getfield 111, 3) := by decide +kernel
theorem dX11_compressed_218 : decode cX11_compressed 218 = .ok (.iload 7, 2) := by decide +kernel
theorem dX11_compressed_220 : decode cX11_compressed 220 = .ok (.iaload, 1) := by decide +kernel
theorem dX11_compressed_221 : decode cX11_compressed 221 = .ok (.istore 8, 2) := by decide +kernel
theorem dX11_compressed_223 : decode cX11_compressed 223 = .ok (.aload_n 0, 1) := by decide +kernel
theorem dX11_compressed_224 : decode cX11_compressed 224 = .ok (.aload_n 0, 1) := by decide +kernel
theorem dX11_compressed_225 : decode cX11_compressed 225 = .ok (.iload_n 1, 1) := by decide +kernel
theorem dX11_compressed_226 : decode cX11_compressed 226 = .ok (.iload 8, 2) := by decide +kernel
theorem dX11_compressed_228 : decode cX11_compressed 228 = .ok (.invokevirtual 486, 3) := by decide +kernel
theorem dX11_compressed_231 : decode cX11_compressed 231 = .ok (.ifCond .le 13, 3) := by decide +kernel
theorem dX11_compressed_234 : decode cX11_compressed 234 = .ok (.aload_n 0, 1) := by decide +kernel
theorem dX11_compressed_235 : decode cX11_compressed 235 = .ok (.iload_n 1, 1) := by decide +kernel
theorem dX11_compressed_236 : decode cX11_compressed 236 = .ok (.iload 8, 2) := by decide +kernel
theorem dX11_compressed_238 : decode cX11_compressed 238 = .ok (.invokevirtual 486, 3) := by decide +kernel
theorem dX11_compressed_241 : decode cX11_compressed 241 = .ok (.goto 10, 3) := by decide +kernel
theorem dX11_compressed_244 : decode cX11_compressed 244 = .ok (.aload_n 0, 1) := by decide +kernel
theorem dX11_compressed_245 : decode cX11_compressed 245 = .ok (.getfield 178, 3) := by decide +kernel
theorem dX11_compressed_248 : decode cX11_compressed 248 = .ok (.iload 8, 2) := by decide +kernel
theorem dX11_compressed_250 : decode cX11_compressed 250 = .ok (.iaload, 1) := by decide +kernel
theorem dX11_compressed_251 : decode cX11_compressed 251 = .ok (.invokevirtual 489, 3) := by decide +kernel
theorem dX11_compressed_254 : decode cX11_compressed 254 = .ok (.aload_n 0, 1) := by decide +kernel
theorem dX11_compressed_255 : decode cX11_compressed 255 = .ok (.getfield 172, 3) := by decide +kernel
theorem dX11_compressed_258 : decode cX11_compressed 258 = .ok (.iload 7, 2) := by decide +kernel
theorem dX11_compressed_260 : decode cX11_compressed 260 = .ok (.iaload, 1) := by decide +kernel
theorem dX11_compressed_261 : decode cX11_compressed 261 = .ok (.iconst 1, 1) := by decide +kernel
theorem dX11_compressed_262 : decode cX11_compressed 262 = .ok (.if_icmp .le 26, 3) := by decide +kernel
theorem dX11_compressed_265 : decode cX11_compressed 265 = .ok (.iinc 5 1, 3) := by decide +kernel
theorem dX11_compressed_268 : decode cX11_compressed 268 = .ok (.aload_n 0, 1) := by decide +kernel
theorem dX11_compressed_269 : decode cX11_compressed 269 = .ok (.getfield 175, 3) := by decide +kernel
theorem dX11_compressed_272 : decode cX11_compressed 272 = .ok (.iload 7, 2) := by decide +kernel
theorem dX11_compressed_274 : decode cX11_compressed 274 = .ok (.iload_n 3, 1) := by decide +kernel
theorem dX11_compressed_275 : decode cX11_compressed 275 = .ok (.iload 4, 2) := by decide +kernel
theorem dX11_compressed_277 : decode cX11_compressed 277 = .ok (.iadd, 1) := by decide +kernel
theorem dX11_compressed_278 : decode cX11_compressed 278 = .ok (.iload 5, 2) := by decide +kernel
theorem dX11_compressed_280 : decode cX11_compressed 280 = .ok (.iadd, 1) := by decide +kernel
theorem dX11_compressed_281 : decode cX11_compressed 281 = .ok (.iastore, 1) := by decide +kernel
theorem dX11_compressed_282 : decode cX11_compressed 282 = .ok (.aload_n 0, 1) := by decide +kernel
theorem dX11_compressed_283 : decode cX11_compressed 283 = .ok (.bipush 90, 2) := by decide +kernel
theorem dX11_compressed_285 : decode cX11_compressed 285 = .ok (.invokevirtual 471, 3) := by decide +kernel
theorem dX11_compressed_288 : decode cX11_compressed 288 = .ok (.iinc 6 1, 3) := by decide +kernel
theorem dX11_compressed_291 : decode cX11_compressed 291 = .ok (.goto (-126), 3) := by decide +kernel
theorem dX11_compressed_294 : decode cX11_compressed 294 = .ok (.aload_n 0, 1) := by decide +kernel
theorem dX11_compressed_295 : decode cX11_compressed 295 = .ok (.invokevirtual 477, 3) := by decide +kernel
theorem dX11_compressed_298 : decode cX11_compressed 298 = .ok (.ireturn, 1) := by decide +kernel
theorem dX11_tell_0 : decode cX11_tell 0 = .ok (.aload_n 0, 1) := by decide +kernel
theorem dX11_tell_1 : decode cX11_tell 1 = .ok (.iload_n 1, 1) := by decide +kernel
theorem dX11_tell_2 : decode cX11_tell 2 = .ok (.iconst 3, 1) := by decide +kernel
theorem dX11_tell_3 : decode cX11_tell 3 = .ok (.invokevirtual 371, 3) := by decide +kernel
theorem dX11_tell_6 : decode cX11_tell 6 = .ok (.ifCond .eq 12, 3) := by decide +kernel
theorem dX11_tell_9 : decode cX11_tell 9 = .ok (.iload_n 2, 1) := by decide +kernel
theorem dX11_tell_10 : decode cX11_tell 10 = .ok (.ifCond .lt 8, 3) := by decide +kernel
theorem dX11_tell_13 : decode cX11_tell 13 = .ok (.iload_n 2, 1) := by decide +kernel
theorem dX11_tell_14 : decode cX11_tell 14 = .ok (.iconst 1, 1) := by decide +kernel
theorem dX11_tell_15 : decode cX11_tell 15 = .ok (.if_icmp .le 5, 3) := by decide +kernel
theorem dX11_tell_18 : decode cX11_tell 18 = .ok (.iconst (-1), 1) := by decide +kernel
theorem dX11_tell_19 : decode cX11_tell 19 = .ok (.ireturn, 1) := by decide +kernel
theorem dX11_tell_20 : decode cX11_tell 20 = .ok (.aload_n 0, 1) := by decide +kernel
theorem dX11_tell_21 : decode cX11_tell 21 = .ok (.iload_n 1, 1) := by decide +kernel
theorem dX11_tell_22 : decode cX11_tell 22 = .ok (.invokevirtual 465, 3) := by decide +kernel
theorem dX11_tell_25 : decode cX11_tell 25 = .ok (.ifCond .eq 6, 3) := by decide +kernel
theorem dX11_tell_28 : decode cX11_tell 28 = .ok (.bipush (-2), 2) := by decide +kernel
theorem dX11_tell_30 : decode cX11_tell 30 = .ok (.ireturn, 1) := by decide +kernel
theorem dX11_tell_31 : decode cX11_tell 31 = .ok (.aload_n 0, 1) := by decide +kernel
theorem dX11_tell_32 : decode cX11_tell 32 = .ok (.invokevirtual 492, 3) := by decide +kernel
theorem dX11_tell_35 : decode cX11_tell 35 = .ok (.aload_n 0, 1) := by decide +kernel
theorem dX11_tell_36 : decode cX11_tell 36 = .ok (.getfield 126, 3) := by decide +kernel
theorem dX11_tell_39 : decode cX11_tell 39 = .ok (.iconst 0, 1) := by decide +kernel
theorem dX11_tell_40 : decode cX11_tell 40 = .ok (.iaload, 1) := by decide +kernel
theorem dX11_tell_41 : decode cX11_tell 41 = .ok (.istore_n 3, 1) := by decide +kernel
theorem dX11_tell_42 : decode cX11_tell 42 = .ok (.iload_n 2, 1) := by decide +kernel
theorem dX11_tell_43 : decode cX11_tell 43 = .ok (.ifCond .ne 11, 3) := by decide +kernel
theorem dX11_tell_46 : decode cX11_tell 46 = .ok (.aload_n 0, 1) := by decide +kernel
theorem dX11_tell_47 : decode cX11_tell 47 = .ok (.iload_n 3, 1) := by decide +kernel
theorem dX11_tell_48 : decode cX11_tell 48 = .ok (.invokevirtual 495, 3) := by decide +kernel
theorem dX11_tell_51 : decode cX11_tell 51 = .ok (.goto 9, 3) := by decide +kernel
theorem dX11_tell_54 : decode cX11_tell 54 = .ok (.aload_n 0, 1) := by decide +kernel
theorem dX11_tell_55 : decode cX11_tell 55 = .ok (.iload_n 1, 1) := by decide +kernel
theorem dX11_tell_56 : decode cX11_tell 56 = .ok (.iload_n 3, 1) := by decide +kernel
theorem dX11_tell_57 : decode cX11_tell 57 = .ok (.invokevirtual 498, 3) := by decide +kernel
theorem dX11_tell_60 : decode cX11_tell 60 = .ok (.ireturn, 1) := by decide +kernel
theorem dX11_print_0 : decode cX11_print 0 = .ok (.aload_n 0, 1) := by decide +kernel
theorem dX11_print_1 : decode cX11_print 1 = .ok (.iload_n 1, 1) := by decide +kernel
theorem dX11_print_2 : decode cX11_print 2 = .ok (.invokevirtual 347, 3) := by decide +kernel
theorem dX11_print_5 : decode cX11_print 5 = .ok (.ifCond .ne 5, 3) := by decide +kernel
theorem dX11_print_8 : decode cX11_print 8 = .ok (.iconst (-1), 1) := by decide +kernel
theorem dX11_print_9 : decode cX11_print 9 = .ok (.ireturn, 1) := by decide +kernel
theorem dX11_print_10 : decode cX11_print 10 = .ok (.aload_n 0, 1) := by decide +kernel
theorem dX11_print_11 : decode cX11_print 11 = .ok (.iconst 0, 1) := by decide +kernel
theorem dX11_print_12 : decode cX11_print 12 = .ok (.putfield 468, 3) := by decide +kernel
theorem dX11_print_15 : decode cX11_print 15 = .ok (.aload_n 0, 1) := by decide +kernel
theorem dX11_print_16 : decode cX11_print 16 = .ok (.iload_n 1, 1) := by decide +kernel
theorem dX11_print_17 : decode cX11_print 17 = .ok (.invokevirtual 474, 3) := by decide +kernel
theorem dX11_print_20 : decode cX11_print 20 = .ok (.aload_n 0, 1) := by decide +kernel
theorem dX11_print_21 : decode cX11_print 21 = .ok (.bipush 32, 2) := by decide +kernel
theorem dX11_print_23 : decode cX11_print 23 = .ok (.invokevirtual 471, 3) := by decide +kernel
theorem dX11_print_26 : decode cX11_print 26 = .ok (.aload_n 0, 1) := by decide +kernel
theorem dX11_print_27 : decode cX11_print 27 = .ok (.bipush 36, 2) := by decide +kernel
theorem dX11_print_29 : decode cX11_print 29 = .ok (.invokevirtual 471, 3) := by decide +kernel
theorem dX11_print_32 : decode cX11_print 32 = .ok (.aload_n 0, 1) := by decide +kernel
theorem dX11_print_33 : decode cX11_print 33 = .ok (.getfield 29, 3) := by decide +kernel
theorem dX11_print_36 : decode cX11_print 36 = .ok (.aload_n 0, 1) := by decide +kernel
theorem dX11_print_37 : decode cX11_print 37 = .ok (.iload_n 1, 1) := by decide +kernel
theorem dX11_print_38 : decode cX11_print 38 = .ok (.invokevirtual 344, 3) := by decide +kernel
theorem dX11_print_41 : decode cX11_print 41 = .ok (.iaload, 1) := by decide +kernel
theorem dX11_print_42 : decode cX11_print 42 = .ok (.istore_n 2, 1) := by decide +kernel
theorem dX11_print_43 : decode cX11_print 43 = .ok (.aload_n 0, 1) := by decide +kernel
theorem dX11_print_44 : decode cX11_print 44 = .ok (.iload_n 2, 1) := by decide +kernel
theorem dX11_print_45 : decode cX11_print 45 = .ok (.ifCond .ne 8, 3) := by decide +kernel
theorem dX11_print_48 : decode cX11_print 48 = .ok (.bipush 102, 2) := by decide +kernel
theorem dX11_print_50 : decode cX11_print 50 = .ok (.goto 25, 3) := by decide +kernel
theorem dX11_print_53 : decode cX11_print 53 = .ok (.iload_n 2, 1) := by decide +kernel
theorem dX11_print_54 : decode cX11_print 54 = .ok (.iconst 1, 1) := by decide +kernel
theorem dX11_print_55 : decode cX11_print 55 = .ok (.if_icmp .ne 8, 3) := by decide +kernel
theorem dX11_print_58 : decode cX11_print 58 = .ok (.bipush 101, 2) := by decide +kernel
theorem dX11_print_60 : decode cX11_print 60 = .ok (.goto 15, 3) := by decide +kernel
theorem dX11_print_63 : decode cX11_print 63 = .ok (.iload_n 2, 1) := by decide +kernel
theorem dX11_print_64 : decode cX11_print 64 = .ok (.iconst 2, 1) := by decide +kernel
theorem dX11_print_65 : decode cX11_print 65 = .ok (.if_icmp .ne 8, 3) := by decide +kernel
theorem dX11_print_68 : decode cX11_print 68 = .ok (.bipush 97, 2) := by decide +kernel
theorem dX11_print_70 : decode cX11_print 70 = .ok (.goto 5, 3) := by decide +kernel
theorem dX11_print_73 : decode cX11_print 73 = .ok (.bipush 112, 2) := by decide +kernel
theorem dX11_print_75 : decode cX11_print 75 = .ok (.invokevirtual 471, 3) := by decide +kernel
theorem dX11_print_78 : decode cX11_print 78 = .ok (.aload_n 0, 1) := by decide +kernel
theorem dX11_print_79 : decode cX11_print 79 = .ok (.bipush 32, 2) := by decide +kernel
theorem dX11_print_81 : decode cX11_print 81 = .ok (.invokevirtual 471, 3) := by decide +kernel
theorem dX11_print_84 : decode cX11_print 84 = .ok (.iconst 0, 1) := by decide +kernel
theorem dX11_print_85 : decode cX11_print 85 = .ok (.istore_n 3, 1) := by decide +kernel
theorem dX11_print_86 : decode cX11_print 86 = .ok (.iload_n 3, 1) := by decide +kernel
theorem dX11_print_87 : decode cX11_print 87 = .ok (.aload_n 0, 1) := by decide +kernel
theorem dX11_print_88 : decode cX11_print 88 = .ok (.getfield 44, 3) := by decide +kernel
theorem dX11_print_91 : decode cX11_print 91 = .ok (.aload_n 0, 1) := by decide +kernel
theorem dX11_print_92 : decode cX11_print 92 = .ok (.iload_n 1, 1) := by decide +kernel
theorem dX11_print_93 : decode cX11_print 93 = .ok (.invokevirtual 344, 3) := by decide +kernel
theorem dX11_print_96 : decode cX11_print 96 = .ok (.iaload, 1) := by decide +kernel
theorem dX11_print_97 : decode cX11_print 97 = .ok (.if_icmp .ge 101, 3) := by decide +kernel
theorem dX11_print_100 : decode cX11_print 100 = .ok (.sipush 300, 3) := by decide +kernel
theorem dX11_print_103 : decode cX11_print 103 = .ok (.aload_n 0, 1) := by decide +kernel
theorem dX11_print_104 : decode cX11_print 104 = .ok (.getfield 226, 3) := by decide +kernel
theorem dX11_print_107 : decode cX11_print 107 = .ok (.imul, 1) := by decide +kernel
theorem dX11_print_108 : decode cX11_print 108 = .ok (.aload_n 0, 1) := by decide +kernel
theorem dX11_print_109 : decode cX11_print 109 = .ok (.getfield 56, 3) := by decide +kernel
theorem dX11_print_112 : decode cX11_print 112 = .ok (.sipush 4096, 3) := by decide +kernel
theorem dX11_print_115 : decode cX11_print 115 = .ok (.aload_n 0, 1) := by decide +kernel
theorem dX11_print_116 : decode cX11_print 116 = .ok (.getfield 226, 3) := by decide +kernel
theorem dX11_print_119 : decode cX11_print 119 = .ok (.imul, 1) := by decide +kernel
theorem dX11_print_120 : decode cX11_print 120 = .ok (.aload_n 0, 1) := by decide +kernel
theorem dX11_print_121 : decode cX11_print 121 = .ok (.getfield 41, 3) := by decide +kernel
theorem dX11_print_124 : decode cX11_print 124 = .ok (.aload_n 0, 1) := by decide +kernel
theorem dX11_print_125 : decode cX11_print 125 = .ok (.iload_n 1, 1) := by decide +kernel
theorem dX11_print_126 : decode cX11_print 126 = .ok (.invokevirtual 344, 3) := by decide +kernel
theorem dX11_print_129 : decode cX11_print 129 = .ok (.iaload, 1) := by decide +kernel
theorem dX11_print_130 : decode cX11_print 130 = .ok (.iadd, 1) := by decide +kernel
theorem dX11_print_131 : decode cX11_print 131 = .ok (.iload_n 3, 1) := by decide +kernel
theorem dX11_print_132 : decode cX11_print 132 = .ok (.iadd, 1) := by decide +kernel
theorem dX11_print_133 : decode cX11_print 133 = .ok (.iaload, 1) := by decide +kernel
theorem dX11_print_134 : decode cX11_print 134 = .ok (.iadd, 1) := by decide +kernel
theorem dX11_print_135 : decode cX11_print 135 = .ok (.istore 4, 2) := by decide +kernel
theorem dX11_print_137 : decode cX11_print 137 = .ok (.iconst 0, 1) := by decide +kernel
theorem dX11_print_138 : decode cX11_print 138 = .ok (.istore 5, 2) := by decide +kernel
theorem dX11_print_140 : decode cX11_print 140 = .ok (.iload 5, 2) := by decide +kernel
theorem dX11_print_142 : decode cX11_print 142 = .ok (.aload_n 0, 1) := by decide +kernel
theorem dX11_print_143 : decode cX11_print 143 = .ok (.getfield 19, 3) := by decide +kernel
theorem dX11_print_146 : decode cX11_print 146 = .ok (.iload 4, 2) := by decide +kernel
theorem dX11_print_148 : decode cX11_print 148 = .ok (.iaload, 1) := by decide +kernel
theorem dX11_print_149 : decode cX11_print 149 = .ok (.if_icmp .ge 37, 3) := by decide +kernel
theorem dX11_print_152 : decode cX11_print 152 = .ok (.aload_n 0, 1) := by decide +kernel
theorem dX11_print_153 : decode cX11_print 153 = .ok (.aload_n 0, 1) := by decide +kernel
theorem dX11_print_154 : decode cX11_print 154 = .ok (.getfield 13, 3) := by decide +kernel
theorem dX11_print_157 : decode cX11_print 157 = .ok (.sipush 8192, 3) := by decide +kernel
theorem dX11_print_160 : decode cX11_print 160 = .ok (.aload_n 0, 1) := by decide +kernel
theorem dX11_print_161 : decode cX11_print 161 = .ok (.getfield 226, 3) := by decide +kernel
theorem dX11_print_164 : decode cX11_print 164 = .ok (.imul, 1) := by decide +kernel
theorem dX11_print_165 : decode cX11_print 165 = .ok (.aload_n 0, 1) := by decide +kernel
theorem dX11_print_166 : decode cX11_print 166 = .ok (.getfield 16, 3) := by decide +kernel
theorem dX11_print_169 : decode cX11_print 169 = .ok (.iload 4, 2) := by decide +kernel
theorem dX11_print_171 : decode cX11_print 171 = .ok (.iaload, 1) := by decide +kernel
theorem dX11_print_172 : decode cX11_print 172 = .ok (.iadd, 1) := by decide +kernel
theorem dX11_print_173 : decode cX11_print 173 = .ok (.iload 5, 2) := by decide +kernel
theorem dX11_print_175 : decode cX11_print 175 = .ok (.iadd, 1) := by decide +kernel
theorem dX11_print_176 : decode cX11_print 176 = .ok (.iaload, 1) := by decide +kernel
theorem dX11_print_177 : decode cX11_print 177 = .ok (.invokevirtual 471, 3) := by decide +kernel
theorem dX11_print_180 : decode cX11_print 180 = .ok (.iinc 5 1, 3) := by decide +kernel
theorem dX11_print_183 : decode cX11_print 183 = .ok (.goto (-43), 3) := by decide +kernel
theorem dX11_print_186 : decode cX11_print 186 = .ok (.aload_n 0, 1) := by decide +kernel
theorem dX11_print_187 : decode cX11_print 187 = .ok (.bipush 32, 2) := by decide +kernel
theorem dX11_print_189 : decode cX11_print 189 = .ok (.invokevirtual 471, 3) := by decide +kernel
theorem dX11_print_192 : decode cX11_print 192 = .ok (.iinc 3 1, 3) := by decide +kernel
theorem dX11_print_195 : decode cX11_print 195 = .ok (.goto (-109), 3) := by decide +kernel
theorem dX11_print_198 : decode cX11_print 198 = .ok (.aload_n 0, 1) := by decide +kernel
theorem dX11_print_199 : decode cX11_print 199 = .ok (.bipush 36, 2) := by decide +kernel
theorem dX11_print_201 : decode cX11_print 201 = .ok (.invokevirtual 471, 3) := by decide +kernel
theorem dX11_print_204 : decode cX11_print 204 = .ok (.aload_n 0, 1) := by decide +kernel
theorem dX11_print_205 : decode cX11_print 205 = .ok (.bipush 46, 2) := by decide +kernel
theorem dX11_print_207 : decode cX11_print 207 = .ok (.invokevirtual 471, 3) := by decide +kernel
theorem dX11_print_210 : decode cX11_print 210 = .ok (.aload_n 0, 1) := by decide +kernel
theorem dX11_print_211 : decode cX11_print 211 = .ok (.invokevirtual 477, 3) := by decide +kernel
theorem dX11_print_214 : decode cX11_print 214 = .ok (.ireturn, 1) := by decide +kernel
theorem dX11_out_0 : decode cX11_out 0 = .ok (.iload_n 1, 1) := by decide +kernel
theorem dX11_out_1 : decode cX11_out 1 = .ok (.ifCond .lt 11, 3) := by decide +kernel
theorem dX11_out_4 : decode cX11_out 4 = .ok (.iload_n 1, 1) := by decide +kernel
theorem dX11_out_5 : decode cX11_out 5 = .ok (.aload_n 0, 1) := by decide +kernel
theorem dX11_out_6 : decode cX11_out 6 = .ok (.getfield 332, 3) := by decide +kernel
theorem dX11_out_9 : decode cX11_out 9 = .ok (.if_icmp .lt 7, 3) := by decide +kernel
theorem dX11_out_12 : decode cX11_out 12 = .ok (.iconst (-1), 1) := by decide +kernel
theorem dX11_out_13 : decode cX11_out 13 = .ok (.goto 9, 3) := by decide +kernel
theorem dX11_out_16 : decode cX11_out 16 = .ok (.aload_n 0, 1) := by decide +kernel
theorem dX11_out_17 : decode cX11_out 17 = .ok (.getfield 181, 3) := by decide +kernel
theorem dX11_out_20 : decode cX11_out 20 = .ok (.iload_n 1, 1) := by decide +kernel
theorem dX11_out_21 : decode cX11_out 21 = .ok (.iaload, 1) := by decide +kernel
theorem dX11_out_22 : decode cX11_out 22 = .ok (.ireturn, 1) := by decide +kernel
theorem dX11_restOn_0 : decode cX11_restOn 0 = .ok (.aload_n 0, 1) := by decide +kernel
theorem dX11_restOn_1 : decode cX11_restOn 1 = .ok (.iload_n 1, 1) := by decide +kernel
theorem dX11_restOn_2 : decode cX11_restOn 2 = .ok (.invokevirtual 389, 3) := by decide +kernel
theorem dX11_restOn_5 : decode cX11_restOn 5 = .ok (.istore_n 2, 1) := by decide +kernel
theorem dX11_restOn_6 : decode cX11_restOn 6 = .ok (.iload_n 2, 1) := by decide +kernel
theorem dX11_restOn_7 : decode cX11_restOn 7 = .ok (.ifCond .eq 11, 3) := by decide +kernel
theorem dX11_restOn_10 : decode cX11_restOn 10 = .ok (.aload_n 0, 1) := by decide +kernel
theorem dX11_restOn_11 : decode cX11_restOn 11 = .ok (.iload_n 1, 1) := by decide +kernel
theorem dX11_restOn_12 : decode cX11_restOn 12 = .ok (.invokevirtual 386, 3) := by decide +kernel
theorem dX11_restOn_15 : decode cX11_restOn 15 = .ok (.goto 13, 3) := by decide +kernel
theorem dX11_restOn_18 : decode cX11_restOn 18 = .ok (.aload_n 0, 1) := by decide +kernel
theorem dX11_restOn_19 : decode cX11_restOn 19 = .ok (.getfield 50, 3) := by decide +kernel
theorem dX11_restOn_22 : decode cX11_restOn 22 = .ok (.aload_n 0, 1) := by decide +kernel
theorem dX11_restOn_23 : decode cX11_restOn 23 = .ok (.iload_n 1, 1) := by decide +kernel
theorem dX11_restOn_24 : decode cX11_restOn 24 = .ok (.invokevirtual 344, 3) := by decide +kernel
theorem dX11_restOn_27 : decode cX11_restOn 27 = .ok (.iaload, 1) := by decide +kernel
theorem dX11_restOn_28 : decode cX11_restOn 28 = .ok (.istore_n 3, 1) := by decide +kernel
theorem dX11_restOn_29 : decode cX11_restOn 29 = .ok (.iload_n 2, 1) := by decide +kernel
theorem dX11_restOn_30 : decode cX11_restOn 30 = .ok (.ifCond .eq 7, 3) := by decide +kernel
theorem dX11_restOn_33 : decode cX11_restOn 33 = .ok (.iconst 1, 1) := by decide +kernel
theorem dX11_restOn_34 : decode cX11_restOn 34 = .ok (.goto 4, 3) := by decide +kernel
theorem dX11_restOn_37 : decode cX11_restOn 37 = .ok (.iconst 0, 1) := by decide +kernel
theorem dX11_restOn_38 : decode cX11_restOn 38 = .ok (.istore 4, 2) := by decide +kernel
theorem dX11_restOn_40 : decode cX11_restOn 40 = .ok (.iload 4, 2) := by decide +kernel
theorem dX11_restOn_42 : decode cX11_restOn 42 = .ok (.iload_n 3, 1) := by decide +kernel
theorem dX11_restOn_43 : decode cX11_restOn 43 = .ok (.if_icmp .ge 31, 3) := by decide +kernel
theorem dX11_restOn_46 : decode cX11_restOn 46 = .ok (.aload_n 0, 1) := by decide +kernel
theorem dX11_restOn_47 : decode cX11_restOn 47 = .ok (.iload_n 1, 1) := by decide +kernel
theorem dX11_restOn_48 : decode cX11_restOn 48 = .ok (.iload 4, 2) := by decide +kernel
theorem dX11_restOn_50 : decode cX11_restOn 50 = .ok (.invokevirtual 419, 3) := by decide +kernel
theorem dX11_restOn_53 : decode cX11_restOn 53 = .ok (.istore 5, 2) := by decide +kernel
theorem dX11_restOn_55 : decode cX11_restOn 55 = .ok (.iload 5, 2) := by decide +kernel
theorem dX11_restOn_57 : decode cX11_restOn 57 = .ok (.ifCond .lt 11, 3) := by decide +kernel
theorem dX11_restOn_60 : decode cX11_restOn 60 = .ok (.aload_n 0, 1) := by decide +kernel
theorem dX11_restOn_61 : decode cX11_restOn 61 = .ok (.getfield 187, 3) := by decide +kernel
theorem dX11_restOn_64 : decode cX11_restOn 64 = .ok (.iload 5, 2) := by decide +kernel
theorem dX11_restOn_66 : decode cX11_restOn 66 = .ok (.iconst 1, 1) := by decide +kernel
theorem dX11_restOn_67 : decode cX11_restOn 67 = .ok (.bastore, 1) := by decide +kernel
theorem dX11_restOn_68 : decode cX11_restOn 68 = .ok (.iinc 4 1, 3) := by decide +kernel
theorem dX11_restOn_71 : decode cX11_restOn 71 = .ok (.goto (-31), 3) := by decide +kernel
theorem dX11_restOn_74 : decode cX11_restOn 74 = .ok (.return_, 1) := by decide +kernel
theorem dX11_rests_0 : decode cX11_rests 0 = .ok (.aload_n 0, 1) := by decide +kernel
theorem dX11_rests_1 : decode cX11_rests 1 = .ok (.iload_n 1, 1) := by decide +kernel
theorem dX11_rests_2 : decode cX11_rests 2 = .ok (.iconst 3, 1) := by decide +kernel
theorem dX11_rests_3 : decode cX11_rests 3 = .ok (.invokevirtual 371, 3) := by decide +kernel
theorem dX11_rests_6 : decode cX11_rests 6 = .ok (.ifCond .ne 5, 3) := by decide +kernel
theorem dX11_rests_9 : decode cX11_rests 9 = .ok (.iconst (-1), 1) := by decide +kernel
theorem dX11_rests_10 : decode cX11_rests 10 = .ok (.ireturn, 1) := by decide +kernel
theorem dX11_rests_11 : decode cX11_rests 11 = .ok (.iconst 0, 1) := by decide +kernel
theorem dX11_rests_12 : decode cX11_rests 12 = .ok (.istore_n 3, 1) := by decide +kernel
theorem dX11_rests_13 : decode cX11_rests 13 = .ok (.iload_n 3, 1) := by decide +kernel
theorem dX11_rests_14 : decode cX11_rests 14 = .ok (.sipush 200, 3) := by decide +kernel
theorem dX11_rests_17 : decode cX11_rests 17 = .ok (.if_icmp .ge 25, 3) := by decide +kernel
theorem dX11_rests_20 : decode cX11_rests 20 = .ok (.aload_n 0, 1) := by decide +kernel
theorem dX11_rests_21 : decode cX11_rests 21 = .ok (.getfield 187, 3) := by decide +kernel
theorem dX11_rests_24 : decode cX11_rests 24 = .ok (.iload_n 3, 1) := by decide +kernel
theorem dX11_rests_25 : decode cX11_rests 25 = .ok (.iload_n 3, 1) := by decide +kernel
theorem dX11_rests_26 : decode cX11_rests 26 = .ok (.iload_n 1, 1) := by decide +kernel
theorem dX11_rests_27 : decode cX11_rests 27 = .ok (.if_icmp .ne 7, 3) := by decide +kernel
theorem dX11_rests_30 : decode cX11_rests 30 = .ok (.iconst 1, 1) := by decide +kernel
theorem dX11_rests_31 : decode cX11_rests 31 = .ok (.goto 4, 3) := by decide +kernel
theorem dX11_rests_34 : decode cX11_rests 34 = .ok (.iconst 0, 1) := by decide +kernel
theorem dX11_rests_35 : decode cX11_rests 35 = .ok (.bastore, 1) := by decide +kernel
theorem dX11_rests_36 : decode cX11_rests 36 = .ok (.iinc 3 1, 3) := by decide +kernel
theorem dX11_rests_39 : decode cX11_rests 39 = .ok (.goto (-26), 3) := by decide +kernel
theorem dX11_rests_42 : decode cX11_rests 42 = .ok (.iload_n 1, 1) := by decide +kernel
theorem dX11_rests_43 : decode cX11_rests 43 = .ok (.istore_n 3, 1) := by decide +kernel
theorem dX11_rests_44 : decode cX11_rests 44 = .ok (.iload_n 3, 1) := by decide +kernel
theorem dX11_rests_45 : decode cX11_rests 45 = .ok (.ifCond .lt 37, 3) := by decide +kernel
theorem dX11_rests_48 : decode cX11_rests 48 = .ok (.aload_n 0, 1) := by decide +kernel
theorem dX11_rests_49 : decode cX11_rests 49 = .ok (.getfield 187, 3) := by decide +kernel
theorem dX11_rests_52 : decode cX11_rests 52 = .ok (.iload_n 3, 1) := by decide +kernel
theorem dX11_rests_53 : decode cX11_rests 53 = .ok (.baload, 1) := by decide +kernel
theorem dX11_rests_54 : decode cX11_rests 54 = .ok (.ifCond .eq 22, 3) := by decide +kernel
theorem dX11_rests_57 : decode cX11_rests 57 = .ok (.aload_n 0, 1) := by decide +kernel
theorem dX11_rests_58 : decode cX11_rests 58 = .ok (.getfield 29, 3) := by decide +kernel
theorem dX11_rests_61 : decode cX11_rests 61 = .ok (.aload_n 0, 1) := by decide +kernel
theorem dX11_rests_62 : decode cX11_rests 62 = .ok (.iload_n 3, 1) := by decide +kernel
theorem dX11_rests_63 : decode cX11_rests 63 = .ok (.invokevirtual 344, 3) := by decide +kernel
theorem dX11_rests_66 : decode cX11_rests 66 = .ok (.iaload, 1) := by decide +kernel
theorem dX11_rests_67 : decode cX11_rests 67 = .ok (.iconst 3, 1) := by decide +kernel
theorem dX11_rests_68 : decode cX11_rests 68 = .ok (.if_icmp .ne 8, 3) := by decide +kernel
theorem dX11_rests_71 : decode cX11_rests 71 = .ok (.aload_n 0, 1) := by decide +kernel
theorem dX11_rests_72 : decode cX11_rests 72 = .ok (.iload_n 3, 1) := by decide +kernel
theorem dX11_rests_73 : decode cX11_rests 73 = .ok (.invokevirtual 501, 3) := by decide +kernel
theorem dX11_rests_76 : decode cX11_rests 76 = .ok (.iinc 3 (-1), 3) := by decide +kernel
theorem dX11_rests_79 : decode cX11_rests 79 = .ok (.goto (-35), 3) := by decide +kernel
theorem dX11_rests_82 : decode cX11_rests 82 = .ok (.iconst (-1), 1) := by decide +kernel
theorem dX11_rests_83 : decode cX11_rests 83 = .ok (.istore_n 3, 1) := by decide +kernel
theorem dX11_rests_84 : decode cX11_rests 84 = .ok (.iconst 0, 1) := by decide +kernel
theorem dX11_rests_85 : decode cX11_rests 85 = .ok (.istore 4, 2) := by decide +kernel
theorem dX11_rests_87 : decode cX11_rests 87 = .ok (.iload 4, 2) := by decide +kernel
theorem dX11_rests_89 : decode cX11_rests 89 = .ok (.iload_n 1, 1) := by decide +kernel
theorem dX11_rests_90 : decode cX11_rests 90 = .ok (.if_icmp .ge 54, 3) := by decide +kernel
theorem dX11_rests_93 : decode cX11_rests 93 = .ok (.aload_n 0, 1) := by decide +kernel
theorem dX11_rests_94 : decode cX11_rests 94 = .ok (.getfield 187, 3) := by decide +kernel
theorem dX11_rests_97 : decode cX11_rests 97 = .ok (.iload 4, 2) := by decide +kernel
theorem dX11_rests_99 : decode cX11_rests 99 = .ok (.baload, 1) := by decide +kernel
theorem dX11_rests_100 : decode cX11_rests 100 = .ok (.ifCond .eq 24, 3) := by decide +kernel
theorem dX11_rests_103 : decode cX11_rests 103 = .ok (.aload_n 0, 1) := by decide +kernel
theorem dX11_rests_104 : decode cX11_rests 104 = .ok (.getfield 29, 3) := by decide +kernel
theorem dX11_rests_107 : decode cX11_rests 107 = .ok (.aload_n 0, 1) := by decide +kernel
theorem dX11_rests_108 : decode cX11_rests 108 = .ok (.iload 4, 2) := by decide +kernel
theorem dX11_rests_110 : decode cX11_rests 110 = .ok (.invokevirtual 344, 3) := by decide +kernel
theorem dX11_rests_113 : decode cX11_rests 113 = .ok (.iaload, 1) := by decide +kernel
theorem dX11_rests_114 : decode cX11_rests 114 = .ok (.iconst 2, 1) := by decide +kernel
theorem dX11_rests_115 : decode cX11_rests 115 = .ok (.if_icmp .ne 9, 3) := by decide +kernel
theorem dX11_rests_118 : decode cX11_rests 118 = .ok (.iload_n 3, 1) := by decide +kernel
theorem dX11_rests_119 : decode cX11_rests 119 = .ok (.iconst 1, 1) := by decide +kernel
theorem dX11_rests_120 : decode cX11_rests 120 = .ok (.iadd, 1) := by decide +kernel
theorem dX11_rests_121 : decode cX11_rests 121 = .ok (.goto 4, 3) := by decide +kernel
theorem dX11_rests_124 : decode cX11_rests 124 = .ok (.iload_n 3, 1) := by decide +kernel
theorem dX11_rests_125 : decode cX11_rests 125 = .ok (.istore_n 3, 1) := by decide +kernel
theorem dX11_rests_126 : decode cX11_rests 126 = .ok (.iload_n 3, 1) := by decide +kernel
theorem dX11_rests_127 : decode cX11_rests 127 = .ok (.iload_n 2, 1) := by decide +kernel
theorem dX11_rests_128 : decode cX11_rests 128 = .ok (.if_icmp .ne 10, 3) := by decide +kernel
theorem dX11_rests_131 : decode cX11_rests 131 = .ok (.iload_n 2, 1) := by decide +kernel
theorem dX11_rests_132 : decode cX11_rests 132 = .ok (.ifCond .lt 6, 3) := by decide +kernel
theorem dX11_rests_135 : decode cX11_rests 135 = .ok (.iload 4, 2) := by decide +kernel
theorem dX11_rests_137 : decode cX11_rests 137 = .ok (.ireturn, 1) := by decide +kernel
theorem dX11_rests_138 : decode cX11_rests 138 = .ok (.iinc 4 1, 3) := by decide +kernel
theorem dX11_rests_141 : decode cX11_rests 141 = .ok (.goto (-54), 3) := by decide +kernel
theorem dX11_rests_144 : decode cX11_rests 144 = .ok (.bipush (-2), 2) := by decide +kernel
theorem dX11_rests_146 : decode cX11_rests 146 = .ok (.ireturn, 1) := by decide +kernel
theorem dX11_find_0 : decode cX11_find 0 = .ok (.bipush (-2), 2) := by decide +kernel
theorem dX11_find_2 : decode cX11_find 2 = .ok (.istore_n 1, 1) := by decide +kernel
theorem dX11_find_3 : decode cX11_find 3 = .ok (.iconst 0, 1) := by decide +kernel
theorem dX11_find_4 : decode cX11_find 4 = .ok (.istore_n 2, 1) := by decide +kernel
theorem dX11_find_5 : decode cX11_find 5 = .ok (.iload_n 2, 1) := by decide +kernel
theorem dX11_find_6 : decode cX11_find 6 = .ok (.aload_n 0, 1) := by decide +kernel
theorem dX11_find_7 : decode cX11_find 7 = .ok (.getfield 53, 3) := by decide +kernel
theorem dX11_find_10 : decode cX11_find 10 = .ok (.aload_n 0, 1) := by decide +kernel
theorem dX11_find_11 : decode cX11_find 11 = .ok (.getfield 226, 3) := by decide +kernel
theorem dX11_find_14 : decode cX11_find 14 = .ok (.iaload, 1) := by decide +kernel
theorem dX11_find_15 : decode cX11_find 15 = .ok (.if_icmp .ge 114, 3) := by decide +kernel
theorem dX11_find_18 : decode cX11_find 18 = .ok (.iload_n 1, 1) := by decide +kernel
theorem dX11_find_19 : decode cX11_find 19 = .ok (.bipush (-2), 2) := by decide +kernel
theorem dX11_find_21 : decode cX11_find 21 = .ok (.if_icmp .ne 108, 3) := by decide +kernel
theorem dX11_find_24 : decode cX11_find 24 = .ok (.aload_n 0, 1) := by decide +kernel
theorem dX11_find_25 : decode cX11_find 25 = .ok (.getfield 35, 3) := by decide +kernel
theorem dX11_find_28 : decode cX11_find 28 = .ok (.aload_n 0, 1) := by decide +kernel
theorem dX11_find_29 : decode cX11_find 29 = .ok (.iload_n 2, 1) := by decide +kernel
theorem dX11_find_30 : decode cX11_find 30 = .ok (.invokevirtual 344, 3) := by decide +kernel
theorem dX11_find_33 : decode cX11_find 33 = .ok (.iaload, 1) := by decide +kernel
theorem dX11_find_34 : decode cX11_find 34 = .ok (.aload_n 0, 1) := by decide +kernel
theorem dX11_find_35 : decode cX11_find 35 = .ok (.getfield 197, 3) := by decide +kernel
theorem dX11_find_38 : decode cX11_find 38 = .ok (.if_icmp .ne 7, 3) := by decide +kernel
theorem dX11_find_41 : decode cX11_find 41 = .ok (.iconst 1, 1) := by decide +kernel
theorem dX11_find_42 : decode cX11_find 42 = .ok (.goto 4, 3) := by decide +kernel
theorem dX11_find_45 : decode cX11_find 45 = .ok (.iconst 0, 1) := by decide +kernel
theorem dX11_find_46 : decode cX11_find 46 = .ok (.istore_n 3, 1) := by decide +kernel
theorem dX11_find_47 : decode cX11_find 47 = .ok (.iconst 0, 1) := by decide +kernel
theorem dX11_find_48 : decode cX11_find 48 = .ok (.istore 4, 2) := by decide +kernel
theorem dX11_find_50 : decode cX11_find 50 = .ok (.iload 4, 2) := by decide +kernel
theorem dX11_find_52 : decode cX11_find 52 = .ok (.aload_n 0, 1) := by decide +kernel
theorem dX11_find_53 : decode cX11_find 53 = .ok (.getfield 197, 3) := by decide +kernel
theorem dX11_find_56 : decode cX11_find 56 = .ok (.if_icmp .ge 56, 3) := by decide +kernel
theorem dX11_find_59 : decode cX11_find 59 = .ok (.iload_n 3, 1) := by decide +kernel
theorem dX11_find_60 : decode cX11_find 60 = .ok (.ifCond .eq 52, 3) := by decide +kernel
theorem dX11_find_63 : decode cX11_find 63 = .ok (.aload_n 0, 1) := by decide +kernel
theorem dX11_find_64 : decode cX11_find 64 = .ok (.getfield 13, 3) := by decide +kernel
theorem dX11_find_67 : decode cX11_find 67 = .ok (.sipush 8192, 3) := by decide +kernel
theorem dX11_find_70 : decode cX11_find 70 = .ok (.aload_n 0, 1) := by decide +kernel
theorem dX11_find_71 : decode cX11_find 71 = .ok (.getfield 226, 3) := by decide +kernel
theorem dX11_find_74 : decode cX11_find 74 = .ok (.imul, 1) := by decide +kernel
theorem dX11_find_75 : decode cX11_find 75 = .ok (.aload_n 0, 1) := by decide +kernel
theorem dX11_find_76 : decode cX11_find 76 = .ok (.getfield 32, 3) := by decide +kernel
theorem dX11_find_79 : decode cX11_find 79 = .ok (.aload_n 0, 1) := by decide +kernel
theorem dX11_find_80 : decode cX11_find 80 = .ok (.iload_n 2, 1) := by decide +kernel
theorem dX11_find_81 : decode cX11_find 81 = .ok (.invokevirtual 344, 3) := by decide +kernel
theorem dX11_find_84 : decode cX11_find 84 = .ok (.iaload, 1) := by decide +kernel
theorem dX11_find_85 : decode cX11_find 85 = .ok (.iadd, 1) := by decide +kernel
theorem dX11_find_86 : decode cX11_find 86 = .ok (.iload 4, 2) := by decide +kernel
theorem dX11_find_88 : decode cX11_find 88 = .ok (.iadd, 1) := by decide +kernel
theorem dX11_find_89 : decode cX11_find 89 = .ok (.iaload, 1) := by decide +kernel
theorem dX11_find_90 : decode cX11_find 90 = .ok (.aload_n 0, 1) := by decide +kernel
theorem dX11_find_91 : decode cX11_find 91 = .ok (.getfield 7, 3) := by decide +kernel
theorem dX11_find_94 : decode cX11_find 94 = .ok (.iload 4, 2) := by decide +kernel
theorem dX11_find_96 : decode cX11_find 96 = .ok (.iaload, 1) := by decide +kernel
theorem dX11_find_97 : decode cX11_find 97 = .ok (.if_icmp .ne 7, 3) := by decide +kernel
theorem dX11_find_100 : decode cX11_find 100 = .ok (.iconst 1, 1) := by decide +kernel
theorem dX11_find_101 : decode cX11_find 101 = .ok (.goto 4, 3) := by decide +kernel
theorem dX11_find_104 : decode cX11_find 104 = .ok (.iconst 0, 1) := by decide +kernel
theorem dX11_find_105 : decode cX11_find 105 = .ok (.istore_n 3, 1) := by decide +kernel
theorem dX11_find_106 : decode cX11_find 106 = .ok (.iinc 4 1, 3) := by decide +kernel
theorem dX11_find_109 : decode cX11_find 109 = .ok (.goto (-59), 3) := by decide +kernel
theorem dX11_find_112 : decode cX11_find 112 = .ok (.iload_n 3, 1) := by decide +kernel
theorem dX11_find_113 : decode cX11_find 113 = .ok (.ifCond .eq 7, 3) := by decide +kernel
theorem dX11_find_116 : decode cX11_find 116 = .ok (.iload_n 2, 1) := by decide +kernel
theorem dX11_find_117 : decode cX11_find 117 = .ok (.goto 5, 3) := by decide +kernel
theorem dX11_find_120 : decode cX11_find 120 = .ok (.bipush (-2), 2) := by decide +kernel
theorem dX11_find_122 : decode cX11_find 122 = .ok (.istore_n 1, 1) := by decide +kernel
theorem dX11_find_123 : decode cX11_find 123 = .ok (.iinc 2 1, 3) := by decide +kernel
theorem dX11_find_126 : decode cX11_find 126 = .ok (.goto (-121), 3) := by decide +kernel
theorem dX11_find_129 : decode cX11_find 129 = .ok (.aload_n 0, 1) := by decide +kernel
theorem dX11_find_130 : decode cX11_find 130 = .ok (.iconst 0, 1) := by decide +kernel
theorem dX11_find_131 : decode cX11_find 131 = .ok (.putfield 197, 3) := by decide +kernel
theorem dX11_find_134 : decode cX11_find 134 = .ok (.iload_n 1, 1) := by decide +kernel
theorem dX11_find_135 : decode cX11_find 135 = .ok (.ireturn, 1) := by decide +kernel
theorem dJ9_max_7cf53_0 : decode cJ9_max_7cf53 0 = .ok (.iload_n 0, 1) := by decide +kernel
theorem dJ9_max_7cf53_1 : decode cJ9_max_7cf53 1 = .ok (.iload_n 1, 1) := by decide +kernel
theorem dJ9_max_7cf53_2 : decode cJ9_max_7cf53 2 = .ok (.if_icmp .lt 7, 3) := by decide +kernel
theorem dJ9_max_7cf53_5 : decode cJ9_max_7cf53 5 = .ok (.iload_n 0, 1) := by decide +kernel
theorem dJ9_max_7cf53_6 : decode cJ9_max_7cf53 6 = .ok (.goto 4, 3) := by decide +kernel
theorem dJ9_max_7cf53_9 : decode cJ9_max_7cf53 9 = .ok (.iload_n 1, 1) := by decide +kernel
theorem dJ9_max_7cf53_10 : decode cJ9_max_7cf53 10 = .ok (.ireturn, 1) := by decide +kernel
theorem dJ9_min_7cf53_0 : decode cJ9_min_7cf53 0 = .ok (.iload_n 0, 1) := by decide +kernel
theorem dJ9_min_7cf53_1 : decode cJ9_min_7cf53 1 = .ok (.iload_n 1, 1) := by decide +kernel
theorem dJ9_min_7cf53_2 : decode cJ9_min_7cf53 2 = .ok (.if_icmp .gt 7, 3) := by decide +kernel
theorem dJ9_min_7cf53_5 : decode cJ9_min_7cf53 5 = .ok (.iload_n 0, 1) := by decide +kernel
theorem dJ9_min_7cf53_6 : decode cJ9_min_7cf53 6 = .ok (.goto 4, 3) := by decide +kernel
theorem dJ9_min_7cf53_9 : decode cJ9_min_7cf53 9 = .ok (.iload_n 1, 1) := by decide +kernel
theorem dJ9_min_7cf53_10 : decode cJ9_min_7cf53 10 = .ok (.ireturn, 1) := by decide +kernel
theorem dJ7_fill_d0a16_0 : decode cJ7_fill_d0a16 0 = .ok (.iconst 0, 1) := by decide +kernel
theorem dJ7_fill_d0a16_1 : decode cJ7_fill_d0a16 1 = .ok (.istore_n 3, 1) := by decide +kernel
theorem dJ7_fill_d0a16_2 : decode cJ7_fill_d0a16 2 = .ok (.aload_n 0, 1) := by decide +kernel
theorem dJ7_fill_d0a16_3 : decode cJ7_fill_d0a16 3 = .ok (.arraylength, 1) := by decide +kernel
theorem dJ7_fill_d0a16_4 : decode cJ7_fill_d0a16 4 = .ok (.istore 4, 2) := by decide +kernel
theorem dJ7_fill_d0a16_6 : decode cJ7_fill_d0a16 6 = .ok (.iload_n 3, 1) := by decide +kernel
theorem dJ7_fill_d0a16_7 : decode cJ7_fill_d0a16 7 = .ok (.iload 4, 2) := by decide +kernel
theorem dJ7_fill_d0a16_9 : decode cJ7_fill_d0a16 9 = .ok (.if_icmp .ge 13, 3) := by decide +kernel
theorem dJ7_fill_d0a16_12 : decode cJ7_fill_d0a16 12 = .ok (.aload_n 0, 1) := by decide +kernel
theorem dJ7_fill_d0a16_13 : decode cJ7_fill_d0a16 13 = .ok (.iload_n 3, 1) := by decide +kernel
theorem dJ7_fill_d0a16_14 : decode cJ7_fill_d0a16 14 = .ok (.lload_n 1, 1) := by decide +kernel
theorem dJ7_fill_d0a16_15 : decode cJ7_fill_d0a16 15 = .ok (.lastore, 1) := by decide +kernel
theorem dJ7_fill_d0a16_16 : decode cJ7_fill_d0a16 16 = .ok (.iinc 3 1, 3) := by decide +kernel
theorem dJ7_fill_d0a16_19 : decode cJ7_fill_d0a16 19 = .ok (.goto (-13), 3) := by decide +kernel
theorem dJ7_fill_d0a16_22 : decode cJ7_fill_d0a16 22 = .ok (.return_, 1) := by decide +kernel
theorem dJ7_fill_53178_0 : decode cJ7_fill_53178 0 = .ok (.iconst 0, 1) := by decide +kernel
theorem dJ7_fill_53178_1 : decode cJ7_fill_53178 1 = .ok (.istore_n 2, 1) := by decide +kernel
theorem dJ7_fill_53178_2 : decode cJ7_fill_53178 2 = .ok (.aload_n 0, 1) := by decide +kernel
theorem dJ7_fill_53178_3 : decode cJ7_fill_53178 3 = .ok (.arraylength, 1) := by decide +kernel
theorem dJ7_fill_53178_4 : decode cJ7_fill_53178 4 = .ok (.istore_n 3, 1) := by decide +kernel
theorem dJ7_fill_53178_5 : decode cJ7_fill_53178 5 = .ok (.iload_n 2, 1) := by decide +kernel
theorem dJ7_fill_53178_6 : decode cJ7_fill_53178 6 = .ok (.iload_n 3, 1) := by decide +kernel
theorem dJ7_fill_53178_7 : decode cJ7_fill_53178 7 = .ok (.if_icmp .ge 13, 3) := by decide +kernel
theorem dJ7_fill_53178_10 : decode cJ7_fill_53178 10 = .ok (.aload_n 0, 1) := by decide +kernel
theorem dJ7_fill_53178_11 : decode cJ7_fill_53178 11 = .ok (.iload_n 2, 1) := by decide +kernel
theorem dJ7_fill_53178_12 : decode cJ7_fill_53178 12 = .ok (.iload_n 1, 1) := by decide +kernel
theorem dJ7_fill_53178_13 : decode cJ7_fill_53178 13 = .ok (.iastore, 1) := by decide +kernel
theorem dJ7_fill_53178_14 : decode cJ7_fill_53178 14 = .ok (.iinc 2 1, 3) := by decide +kernel
theorem dJ7_fill_53178_17 : decode cJ7_fill_53178 17 = .ok (.goto (-12), 3) := by decide +kernel
theorem dJ7_fill_53178_20 : decode cJ7_fill_53178 20 = .ok (.return_, 1) := by decide +kernel
theorem dJ7_fill_031fb_0 : decode cJ7_fill_031fb 0 = .ok (.iconst 0, 1) := by decide +kernel
theorem dJ7_fill_031fb_1 : decode cJ7_fill_031fb 1 = .ok (.istore_n 2, 1) := by decide +kernel
theorem dJ7_fill_031fb_2 : decode cJ7_fill_031fb 2 = .ok (.aload_n 0, 1) := by decide +kernel
theorem dJ7_fill_031fb_3 : decode cJ7_fill_031fb 3 = .ok (.arraylength, 1) := by decide +kernel
theorem dJ7_fill_031fb_4 : decode cJ7_fill_031fb 4 = .ok (.istore_n 3, 1) := by decide +kernel
theorem dJ7_fill_031fb_5 : decode cJ7_fill_031fb 5 = .ok (.iload_n 2, 1) := by decide +kernel
theorem dJ7_fill_031fb_6 : decode cJ7_fill_031fb 6 = .ok (.iload_n 3, 1) := by decide +kernel
theorem dJ7_fill_031fb_7 : decode cJ7_fill_031fb 7 = .ok (.if_icmp .ge 13, 3) := by decide +kernel
theorem dJ7_fill_031fb_10 : decode cJ7_fill_031fb 10 = .ok (.aload_n 0, 1) := by decide +kernel
theorem dJ7_fill_031fb_11 : decode cJ7_fill_031fb 11 = .ok (.iload_n 2, 1) := by decide +kernel
theorem dJ7_fill_031fb_12 : decode cJ7_fill_031fb 12 = .ok (.iload_n 1, 1) := by decide +kernel
theorem dJ7_fill_031fb_13 : decode cJ7_fill_031fb 13 = .ok (.bastore, 1) := by decide +kernel
theorem dJ7_fill_031fb_14 : decode cJ7_fill_031fb 14 = .ok (.iinc 2 1, 3) := by decide +kernel
theorem dJ7_fill_031fb_17 : decode cJ7_fill_031fb 17 = .ok (.goto (-12), 3) := by decide +kernel
theorem dJ7_fill_031fb_20 : decode cJ7_fill_031fb 20 = .ok (.return_, 1) := by decide +kernel
theorem dJ7_copyOf_59c91_0 : decode cJ7_copyOf_59c91 0 = .ok (.iload_n 1, 1) := by decide +kernel
theorem dJ7_copyOf_59c91_1 : decode cJ7_copyOf_59c91 1 = .ok (.aload_n 0, 1) := by decide +kernel
theorem dJ7_copyOf_59c91_2 : decode cJ7_copyOf_59c91 2 = .ok (.arraylength, 1) := by decide +kernel
theorem dJ7_copyOf_59c91_3 : decode cJ7_copyOf_59c91 3 = .ok (.if_icmp .ne 11, 3) := by decide +kernel
theorem dJ7_copyOf_59c91_6 : decode cJ7_copyOf_59c91 6 = .ok (.aload_n 0, 1) := by decide +kernel
theorem dJ7_copyOf_59c91_7 : decode cJ7_copyOf_59c91 7 = .ok (.invokevirtual 316, 3) := by decide +kernel
theorem dJ7_copyOf_59c91_10 : decode cJ7_copyOf_59c91 10 = .ok (.checkcast 317, 3) := by decide +kernel
theorem dJ7_copyOf_59c91_13 : decode cJ7_copyOf_59c91 13 = .ok (.areturn, 1) := by decide +kernel
theorem dJ7_copyOf_59c91_14 : decode cJ7_copyOf_59c91 14 = .ok (.iload_n 1, 1) := by decide +kernel
theorem dJ7_copyOf_59c91_15 : decode cJ7_copyOf_59c91 15 = .ok (.newarray .int, 2) := by decide +kernel
theorem dJ7_copyOf_59c91_17 : decode cJ7_copyOf_59c91 17 = .ok (.astore_n 2, 1) := by decide +kernel
theorem dJ7_copyOf_59c91_18 : decode cJ7_copyOf_59c91 18 = .ok (.aload_n 0, 1) := by decide +kernel
theorem dJ7_copyOf_59c91_19 : decode cJ7_copyOf_59c91 19 = .ok (.iconst 0, 1) := by decide +kernel
theorem dJ7_copyOf_59c91_20 : decode cJ7_copyOf_59c91 20 = .ok (.aload_n 2, 1) := by decide +kernel
theorem dJ7_copyOf_59c91_21 : decode cJ7_copyOf_59c91 21 = .ok (.iconst 0, 1) := by decide +kernel
theorem dJ7_copyOf_59c91_22 : decode cJ7_copyOf_59c91 22 = .ok (.aload_n 0, 1) := by decide +kernel
theorem dJ7_copyOf_59c91_23 : decode cJ7_copyOf_59c91 23 = .ok (.arraylength, 1) := by decide +kernel
theorem dJ7_copyOf_59c91_24 : decode cJ7_copyOf_59c91 24 = .ok (.iload_n 1, 1) := by decide +kernel
theorem dJ7_copyOf_59c91_25 : decode cJ7_copyOf_59c91 25 = .ok (.invokestatic 304, 3) := by decide +kernel
theorem dJ7_copyOf_59c91_28 : decode cJ7_copyOf_59c91 28 = .ok (.invokestatic 150, 3) := by decide +kernel
theorem dJ7_copyOf_59c91_31 : decode cJ7_copyOf_59c91 31 = .ok (.aload_n 2, 1) := by decide +kernel
theorem dJ7_copyOf_59c91_32 : decode cJ7_copyOf_59c91 32 = .ok (.areturn, 1) := by decide +kernel
theorem dL_law_0 : decode cL_law 0 = .ok (.new 7, 3) := by decide +kernel
theorem dL_law_3 : decode cL_law 3 = .ok (.dup, 1) := by decide +kernel
theorem dL_law_4 : decode cL_law 4 = .ok (.invokespecial 9, 3) := by decide +kernel
theorem dL_law_7 : decode cL_law 7 = .ok (.astore_n 1, 1) := by decide +kernel
theorem dL_law_8 : decode cL_law 8 = .ok (.new 10, 3) := by decide +kernel
theorem dL_law_11 : decode cL_law 11 = .ok (.dup, 1) := by decide +kernel
theorem dL_law_12 : decode cL_law 12 = .ok (.invokespecial 12, 3) := by decide +kernel
theorem dL_law_15 : decode cL_law 15 = .ok (.astore_n 2, 1) := by decide +kernel
theorem dL_law_16 : decode cL_law 16 = .ok (.iconst 0, 1) := by decide +kernel
theorem dL_law_17 : decode cL_law 17 = .ok (.istore_n 3, 1) := by decide +kernel
theorem dL_law_18 : decode cL_law 18 = .ok (.iload_n 3, 1) := by decide +kernel
theorem dL_law_19 : decode cL_law 19 = .ok (.aload_n 0, 1) := by decide +kernel
theorem dL_law_20 : decode cL_law 20 = .ok (.arraylength, 1) := by decide +kernel
theorem dL_law_21 : decode cL_law 21 = .ok (.iconst 5, 1) := by decide +kernel
theorem dL_law_22 : decode cL_law 22 = .ok (.isub, 1) := by decide +kernel
theorem dL_law_23 : decode cL_law 23 = .ok (.if_icmp .gt 620, 3) := by decide +kernel
theorem dL_law_26 : decode cL_law 26 = .ok (.aload_n 0, 1) := by decide +kernel
theorem dL_law_27 : decode cL_law 27 = .ok (.iload_n 3, 1) := by decide +kernel
theorem dL_law_28 : decode cL_law 28 = .ok (.iaload, 1) := by decide +kernel
theorem dL_law_29 : decode cL_law 29 = .ok (.bipush 31, 2) := by decide +kernel
theorem dL_law_31 : decode cL_law 31 = .ok (.iand, 1) := by decide +kernel
theorem dL_law_32 : decode cL_law 32 = .ok (.tableswitch 605 0 16 #[84, 177, 190, 203, 226, 259, 292, 335, 378, 401, 414, 447, 480, 513, 536, 559, 592], 84) := by decide +kernel
theorem dL_law_116 : decode cL_law 116 = .ok (.aload_n 1, 1) := by decide +kernel
theorem dL_law_117 : decode cL_law 117 = .ok (.aload_n 0, 1) := by decide +kernel
theorem dL_law_118 : decode cL_law 118 = .ok (.iload_n 3, 1) := by decide +kernel
theorem dL_law_119 : decode cL_law 119 = .ok (.iconst 1, 1) := by decide +kernel
theorem dL_law_120 : decode cL_law 120 = .ok (.iadd, 1) := by decide +kernel
theorem dL_law_121 : decode cL_law 121 = .ok (.iaload, 1) := by decide +kernel
theorem dL_law_122 : decode cL_law 122 = .ok (.i2l, 1) := by decide +kernel
theorem dL_law_123 : decode cL_law 123 = .ok (.bipush 32, 2) := by decide +kernel
theorem dL_law_125 : decode cL_law 125 = .ok (.lshl, 1) := by decide +kernel
theorem dL_law_126 : decode cL_law 126 = .ok (.aload_n 0, 1) := by decide +kernel
theorem dL_law_127 : decode cL_law 127 = .ok (.iload_n 3, 1) := by decide +kernel
theorem dL_law_128 : decode cL_law 128 = .ok (.iconst 2, 1) := by decide +kernel
theorem dL_law_129 : decode cL_law 129 = .ok (.iadd, 1) := by decide +kernel
theorem dL_law_130 : decode cL_law 130 = .ok (.iaload, 1) := by decide +kernel
theorem dL_law_131 : decode cL_law 131 = .ok (.i2l, 1) := by decide +kernel
theorem dL_law_132 : decode cL_law 132 = .ok (.ldc2_w 13, 3) := by decide +kernel
theorem dL_law_135 : decode cL_law 135 = .ok (.land, 1) := by decide +kernel
theorem dL_law_136 : decode cL_law 136 = .ok (.lor, 1) := by decide +kernel
theorem dL_law_137 : decode cL_law 137 = .ok (.aload_n 0, 1) := by decide +kernel
theorem dL_law_138 : decode cL_law 138 = .ok (.iload_n 3, 1) := by decide +kernel
theorem dL_law_139 : decode cL_law 139 = .ok (.iconst 3, 1) := by decide +kernel
theorem dL_law_140 : decode cL_law 140 = .ok (.iadd, 1) := by decide +kernel
theorem dL_law_141 : decode cL_law 141 = .ok (.iaload, 1) := by decide +kernel
theorem dL_law_142 : decode cL_law 142 = .ok (.i2l, 1) := by decide +kernel
theorem dL_law_143 : decode cL_law 143 = .ok (.bipush 32, 2) := by decide +kernel
theorem dL_law_145 : decode cL_law 145 = .ok (.lshl, 1) := by decide +kernel
theorem dL_law_146 : decode cL_law 146 = .ok (.aload_n 0, 1) := by decide +kernel
theorem dL_law_147 : decode cL_law 147 = .ok (.iload_n 3, 1) := by decide +kernel
theorem dL_law_148 : decode cL_law 148 = .ok (.iconst 4, 1) := by decide +kernel
theorem dL_law_149 : decode cL_law 149 = .ok (.iadd, 1) := by decide +kernel
theorem dL_law_150 : decode cL_law 150 = .ok (.iaload, 1) := by decide +kernel
theorem dL_law_151 : decode cL_law 151 = .ok (.i2l, 1) := by decide +kernel
theorem dL_law_152 : decode cL_law 152 = .ok (.ldc2_w 13, 3) := by decide +kernel
theorem dL_law_155 : decode cL_law 155 = .ok (.land, 1) := by decide +kernel
theorem dL_law_156 : decode cL_law 156 = .ok (.lor, 1) := by decide +kernel
theorem dL_law_157 : decode cL_law 157 = .ok (.invokevirtual 15, 3) := by decide +kernel
theorem dL_law_160 : decode cL_law 160 = .ok (.aload_n 2, 1) := by decide +kernel
theorem dL_law_161 : decode cL_law 161 = .ok (.aload_n 0, 1) := by decide +kernel
theorem dL_law_162 : decode cL_law 162 = .ok (.iload_n 3, 1) := by decide +kernel
theorem dL_law_163 : decode cL_law 163 = .ok (.iconst 1, 1) := by decide +kernel
theorem dL_law_164 : decode cL_law 164 = .ok (.iadd, 1) := by decide +kernel
theorem dL_law_165 : decode cL_law 165 = .ok (.iaload, 1) := by decide +kernel
theorem dL_law_166 : decode cL_law 166 = .ok (.i2l, 1) := by decide +kernel
theorem dL_law_167 : decode cL_law 167 = .ok (.bipush 32, 2) := by decide +kernel
theorem dL_law_169 : decode cL_law 169 = .ok (.lshl, 1) := by decide +kernel
theorem dL_law_170 : decode cL_law 170 = .ok (.aload_n 0, 1) := by decide +kernel
theorem dL_law_171 : decode cL_law 171 = .ok (.iload_n 3, 1) := by decide +kernel
theorem dL_law_172 : decode cL_law 172 = .ok (.iconst 2, 1) := by decide +kernel
theorem dL_law_173 : decode cL_law 173 = .ok (.iadd, 1) := by decide +kernel
theorem dL_law_174 : decode cL_law 174 = .ok (.iaload, 1) := by decide +kernel
theorem dL_law_175 : decode cL_law 175 = .ok (.i2l, 1) := by decide +kernel
theorem dL_law_176 : decode cL_law 176 = .ok (.ldc2_w 13, 3) := by decide +kernel
theorem dL_law_179 : decode cL_law 179 = .ok (.land, 1) := by decide +kernel
theorem dL_law_180 : decode cL_law 180 = .ok (.lor, 1) := by decide +kernel
theorem dL_law_181 : decode cL_law 181 = .ok (.aload_n 0, 1) := by decide +kernel
theorem dL_law_182 : decode cL_law 182 = .ok (.iload_n 3, 1) := by decide +kernel
theorem dL_law_183 : decode cL_law 183 = .ok (.iconst 3, 1) := by decide +kernel
theorem dL_law_184 : decode cL_law 184 = .ok (.iadd, 1) := by decide +kernel
theorem dL_law_185 : decode cL_law 185 = .ok (.iaload, 1) := by decide +kernel
theorem dL_law_186 : decode cL_law 186 = .ok (.i2l, 1) := by decide +kernel
theorem dL_law_187 : decode cL_law 187 = .ok (.bipush 32, 2) := by decide +kernel
theorem dL_law_189 : decode cL_law 189 = .ok (.lshl, 1) := by decide +kernel
theorem dL_law_190 : decode cL_law 190 = .ok (.aload_n 0, 1) := by decide +kernel
theorem dL_law_191 : decode cL_law 191 = .ok (.iload_n 3, 1) := by decide +kernel
theorem dL_law_192 : decode cL_law 192 = .ok (.iconst 4, 1) := by decide +kernel
theorem dL_law_193 : decode cL_law 193 = .ok (.iadd, 1) := by decide +kernel
theorem dL_law_194 : decode cL_law 194 = .ok (.iaload, 1) := by decide +kernel
theorem dL_law_195 : decode cL_law 195 = .ok (.i2l, 1) := by decide +kernel
theorem dL_law_196 : decode cL_law 196 = .ok (.ldc2_w 13, 3) := by decide +kernel
theorem dL_law_199 : decode cL_law 199 = .ok (.land, 1) := by decide +kernel
theorem dL_law_200 : decode cL_law 200 = .ok (.lor, 1) := by decide +kernel
theorem dL_law_201 : decode cL_law 201 = .ok (.invokevirtual 19, 3) := by decide +kernel
theorem dL_law_204 : decode cL_law 204 = .ok (.if_icmp .eq 433, 3) := by decide +kernel
theorem dL_law_207 : decode cL_law 207 = .ok (.iconst 0, 1) := by decide +kernel
theorem dL_law_208 : decode cL_law 208 = .ok (.ireturn, 1) := by decide +kernel
theorem dL_law_209 : decode cL_law 209 = .ok (.aload_n 1, 1) := by decide +kernel
theorem dL_law_210 : decode cL_law 210 = .ok (.invokevirtual 20, 3) := by decide +kernel
theorem dL_law_213 : decode cL_law 213 = .ok (.aload_n 2, 1) := by decide +kernel
theorem dL_law_214 : decode cL_law 214 = .ok (.invokevirtual 24, 3) := by decide +kernel
theorem dL_law_217 : decode cL_law 217 = .ok (.if_icmp .eq 420, 3) := by decide +kernel
theorem dL_law_220 : decode cL_law 220 = .ok (.iconst 0, 1) := by decide +kernel
theorem dL_law_221 : decode cL_law 221 = .ok (.ireturn, 1) := by decide +kernel
theorem dL_law_222 : decode cL_law 222 = .ok (.aload_n 1, 1) := by decide +kernel
theorem dL_law_223 : decode cL_law 223 = .ok (.invokevirtual 25, 3) := by decide +kernel
theorem dL_law_226 : decode cL_law 226 = .ok (.aload_n 2, 1) := by decide +kernel
theorem dL_law_227 : decode cL_law 227 = .ok (.invokevirtual 28, 3) := by decide +kernel
theorem dL_law_230 : decode cL_law 230 = .ok (.if_icmp .eq 407, 3) := by decide +kernel
theorem dL_law_233 : decode cL_law 233 = .ok (.iconst 0, 1) := by decide +kernel
theorem dL_law_234 : decode cL_law 234 = .ok (.ireturn, 1) := by decide +kernel
theorem dL_law_235 : decode cL_law 235 = .ok (.aload_n 1, 1) := by decide +kernel
theorem dL_law_236 : decode cL_law 236 = .ok (.aload_n 0, 1) := by decide +kernel
theorem dL_law_237 : decode cL_law 237 = .ok (.iload_n 3, 1) := by decide +kernel
theorem dL_law_238 : decode cL_law 238 = .ok (.iconst 1, 1) := by decide +kernel
theorem dL_law_239 : decode cL_law 239 = .ok (.iadd, 1) := by decide +kernel
theorem dL_law_240 : decode cL_law 240 = .ok (.iaload, 1) := by decide +kernel
theorem dL_law_241 : decode cL_law 241 = .ok (.invokevirtual 29, 3) := by decide +kernel
theorem dL_law_244 : decode cL_law 244 = .ok (.aload_n 2, 1) := by decide +kernel
theorem dL_law_245 : decode cL_law 245 = .ok (.aload_n 0, 1) := by decide +kernel
theorem dL_law_246 : decode cL_law 246 = .ok (.iload_n 3, 1) := by decide +kernel
theorem dL_law_247 : decode cL_law 247 = .ok (.iconst 1, 1) := by decide +kernel
theorem dL_law_248 : decode cL_law 248 = .ok (.iadd, 1) := by decide +kernel
theorem dL_law_249 : decode cL_law 249 = .ok (.iaload, 1) := by decide +kernel
theorem dL_law_250 : decode cL_law 250 = .ok (.invokevirtual 33, 3) := by decide +kernel
theorem dL_law_253 : decode cL_law 253 = .ok (.if_icmp .eq 384, 3) := by decide +kernel
theorem dL_law_256 : decode cL_law 256 = .ok (.iconst 0, 1) := by decide +kernel
theorem dL_law_257 : decode cL_law 257 = .ok (.ireturn, 1) := by decide +kernel
theorem dL_law_258 : decode cL_law 258 = .ok (.aload_n 1, 1) := by decide +kernel
theorem dL_law_259 : decode cL_law 259 = .ok (.aload_n 0, 1) := by decide +kernel
theorem dL_law_260 : decode cL_law 260 = .ok (.iload_n 3, 1) := by decide +kernel
theorem dL_law_261 : decode cL_law 261 = .ok (.iconst 1, 1) := by decide +kernel
theorem dL_law_262 : decode cL_law 262 = .ok (.iadd, 1) := by decide +kernel
theorem dL_law_263 : decode cL_law 263 = .ok (.iaload, 1) := by decide +kernel
theorem dL_law_264 : decode cL_law 264 = .ok (.aload_n 0, 1) := by decide +kernel
theorem dL_law_265 : decode cL_law 265 = .ok (.iload_n 3, 1) := by decide +kernel
theorem dL_law_266 : decode cL_law 266 = .ok (.iconst 2, 1) := by decide +kernel
theorem dL_law_267 : decode cL_law 267 = .ok (.iadd, 1) := by decide +kernel
theorem dL_law_268 : decode cL_law 268 = .ok (.iaload, 1) := by decide +kernel
theorem dL_law_269 : decode cL_law 269 = .ok (.invokevirtual 34, 3) := by decide +kernel
theorem dL_law_272 : decode cL_law 272 = .ok (.aload_n 2, 1) := by decide +kernel
theorem dL_law_273 : decode cL_law 273 = .ok (.aload_n 0, 1) := by decide +kernel
theorem dL_law_274 : decode cL_law 274 = .ok (.iload_n 3, 1) := by decide +kernel
theorem dL_law_275 : decode cL_law 275 = .ok (.iconst 1, 1) := by decide +kernel
theorem dL_law_276 : decode cL_law 276 = .ok (.iadd, 1) := by decide +kernel
theorem dL_law_277 : decode cL_law 277 = .ok (.iaload, 1) := by decide +kernel
theorem dL_law_278 : decode cL_law 278 = .ok (.aload_n 0, 1) := by decide +kernel
theorem dL_law_279 : decode cL_law 279 = .ok (.iload_n 3, 1) := by decide +kernel
theorem dL_law_280 : decode cL_law 280 = .ok (.iconst 2, 1) := by decide +kernel
theorem dL_law_281 : decode cL_law 281 = .ok (.iadd, 1) := by decide +kernel
theorem dL_law_282 : decode cL_law 282 = .ok (.iaload, 1) := by decide +kernel
theorem dL_law_283 : decode cL_law 283 = .ok (.invokevirtual 38, 3) := by decide +kernel
theorem dL_law_286 : decode cL_law 286 = .ok (.if_icmp .eq 351, 3) := by decide +kernel
theorem dL_law_289 : decode cL_law 289 = .ok (.iconst 0, 1) := by decide +kernel
theorem dL_law_290 : decode cL_law 290 = .ok (.ireturn, 1) := by decide +kernel
theorem dL_law_291 : decode cL_law 291 = .ok (.aload_n 1, 1) := by decide +kernel
theorem dL_law_292 : decode cL_law 292 = .ok (.aload_n 0, 1) := by decide +kernel
theorem dL_law_293 : decode cL_law 293 = .ok (.iload_n 3, 1) := by decide +kernel
theorem dL_law_294 : decode cL_law 294 = .ok (.iconst 1, 1) := by decide +kernel
theorem dL_law_295 : decode cL_law 295 = .ok (.iadd, 1) := by decide +kernel
theorem dL_law_296 : decode cL_law 296 = .ok (.iaload, 1) := by decide +kernel
theorem dL_law_297 : decode cL_law 297 = .ok (.aload_n 0, 1) := by decide +kernel
theorem dL_law_298 : decode cL_law 298 = .ok (.iload_n 3, 1) := by decide +kernel
theorem dL_law_299 : decode cL_law 299 = .ok (.iconst 2, 1) := by decide +kernel
theorem dL_law_300 : decode cL_law 300 = .ok (.iadd, 1) := by decide +kernel
theorem dL_law_301 : decode cL_law 301 = .ok (.iaload, 1) := by decide +kernel
theorem dL_law_302 : decode cL_law 302 = .ok (.invokevirtual 39, 3) := by decide +kernel
theorem dL_law_305 : decode cL_law 305 = .ok (.aload_n 2, 1) := by decide +kernel
theorem dL_law_306 : decode cL_law 306 = .ok (.aload_n 0, 1) := by decide +kernel
theorem dL_law_307 : decode cL_law 307 = .ok (.iload_n 3, 1) := by decide +kernel
theorem dL_law_308 : decode cL_law 308 = .ok (.iconst 1, 1) := by decide +kernel
theorem dL_law_309 : decode cL_law 309 = .ok (.iadd, 1) := by decide +kernel
theorem dL_law_310 : decode cL_law 310 = .ok (.iaload, 1) := by decide +kernel
theorem dL_law_311 : decode cL_law 311 = .ok (.aload_n 0, 1) := by decide +kernel
theorem dL_law_312 : decode cL_law 312 = .ok (.iload_n 3, 1) := by decide +kernel
theorem dL_law_313 : decode cL_law 313 = .ok (.iconst 2, 1) := by decide +kernel
theorem dL_law_314 : decode cL_law 314 = .ok (.iadd, 1) := by decide +kernel
theorem dL_law_315 : decode cL_law 315 = .ok (.iaload, 1) := by decide +kernel
theorem dL_law_316 : decode cL_law 316 = .ok (.invokevirtual 42, 3) := by decide +kernel
theorem dL_law_319 : decode cL_law 319 = .ok (.if_icmp .eq 318, 3) := by decide +kernel
theorem dL_law_322 : decode cL_law 322 = .ok (.iconst 0, 1) := by decide +kernel
theorem dL_law_323 : decode cL_law 323 = .ok (.ireturn, 1) := by decide +kernel
theorem dL_law_324 : decode cL_law 324 = .ok (.aload_n 1, 1) := by decide +kernel
theorem dL_law_325 : decode cL_law 325 = .ok (.aload_n 0, 1) := by decide +kernel
theorem dL_law_326 : decode cL_law 326 = .ok (.iload_n 3, 1) := by decide +kernel
theorem dL_law_327 : decode cL_law 327 = .ok (.iconst 1, 1) := by decide +kernel
theorem dL_law_328 : decode cL_law 328 = .ok (.iadd, 1) := by decide +kernel
theorem dL_law_329 : decode cL_law 329 = .ok (.iaload, 1) := by decide +kernel
theorem dL_law_330 : decode cL_law 330 = .ok (.aload_n 0, 1) := by decide +kernel
theorem dL_law_331 : decode cL_law 331 = .ok (.iload_n 3, 1) := by decide +kernel
theorem dL_law_332 : decode cL_law 332 = .ok (.iconst 2, 1) := by decide +kernel
theorem dL_law_333 : decode cL_law 333 = .ok (.iadd, 1) := by decide +kernel
theorem dL_law_334 : decode cL_law 334 = .ok (.iaload, 1) := by decide +kernel
theorem dL_law_335 : decode cL_law 335 = .ok (.aload_n 0, 1) := by decide +kernel
theorem dL_law_336 : decode cL_law 336 = .ok (.iload_n 3, 1) := by decide +kernel
theorem dL_law_337 : decode cL_law 337 = .ok (.iconst 3, 1) := by decide +kernel
theorem dL_law_338 : decode cL_law 338 = .ok (.iadd, 1) := by decide +kernel
theorem dL_law_339 : decode cL_law 339 = .ok (.iaload, 1) := by decide +kernel
theorem dL_law_340 : decode cL_law 340 = .ok (.invokevirtual 43, 3) := by decide +kernel
theorem dL_law_343 : decode cL_law 343 = .ok (.aload_n 2, 1) := by decide +kernel
theorem dL_law_344 : decode cL_law 344 = .ok (.aload_n 0, 1) := by decide +kernel
theorem dL_law_345 : decode cL_law 345 = .ok (.iload_n 3, 1) := by decide +kernel
theorem dL_law_346 : decode cL_law 346 = .ok (.iconst 1, 1) := by decide +kernel
theorem dL_law_347 : decode cL_law 347 = .ok (.iadd, 1) := by decide +kernel
theorem dL_law_348 : decode cL_law 348 = .ok (.iaload, 1) := by decide +kernel
theorem dL_law_349 : decode cL_law 349 = .ok (.aload_n 0, 1) := by decide +kernel
theorem dL_law_350 : decode cL_law 350 = .ok (.iload_n 3, 1) := by decide +kernel
theorem dL_law_351 : decode cL_law 351 = .ok (.iconst 2, 1) := by decide +kernel
theorem dL_law_352 : decode cL_law 352 = .ok (.iadd, 1) := by decide +kernel
theorem dL_law_353 : decode cL_law 353 = .ok (.iaload, 1) := by decide +kernel
theorem dL_law_354 : decode cL_law 354 = .ok (.aload_n 0, 1) := by decide +kernel
theorem dL_law_355 : decode cL_law 355 = .ok (.iload_n 3, 1) := by decide +kernel
theorem dL_law_356 : decode cL_law 356 = .ok (.iconst 3, 1) := by decide +kernel
theorem dL_law_357 : decode cL_law 357 = .ok (.iadd, 1) := by decide +kernel
theorem dL_law_358 : decode cL_law 358 = .ok (.iaload, 1) := by decide +kernel
theorem dL_law_359 : decode cL_law 359 = .ok (.invokevirtual 47, 3) := by decide +kernel
theorem dL_law_362 : decode cL_law 362 = .ok (.if_icmp .eq 275, 3) := by decide +kernel
theorem dL_law_365 : decode cL_law 365 = .ok (.iconst 0, 1) := by decide +kernel
theorem dL_law_366 : decode cL_law 366 = .ok (.ireturn, 1) := by decide +kernel
theorem dL_law_367 : decode cL_law 367 = .ok (.aload_n 1, 1) := by decide +kernel
theorem dL_law_368 : decode cL_law 368 = .ok (.aload_n 0, 1) := by decide +kernel
theorem dL_law_369 : decode cL_law 369 = .ok (.iload_n 3, 1) := by decide +kernel
theorem dL_law_370 : decode cL_law 370 = .ok (.iconst 1, 1) := by decide +kernel
theorem dL_law_371 : decode cL_law 371 = .ok (.iadd, 1) := by decide +kernel
theorem dL_law_372 : decode cL_law 372 = .ok (.iaload, 1) := by decide +kernel
theorem dL_law_373 : decode cL_law 373 = .ok (.aload_n 0, 1) := by decide +kernel
theorem dL_law_374 : decode cL_law 374 = .ok (.iload_n 3, 1) := by decide +kernel
theorem dL_law_375 : decode cL_law 375 = .ok (.iconst 2, 1) := by decide +kernel
theorem dL_law_376 : decode cL_law 376 = .ok (.iadd, 1) := by decide +kernel
theorem dL_law_377 : decode cL_law 377 = .ok (.iaload, 1) := by decide +kernel
theorem dL_law_378 : decode cL_law 378 = .ok (.aload_n 0, 1) := by decide +kernel
theorem dL_law_379 : decode cL_law 379 = .ok (.iload_n 3, 1) := by decide +kernel
theorem dL_law_380 : decode cL_law 380 = .ok (.iconst 3, 1) := by decide +kernel
theorem dL_law_381 : decode cL_law 381 = .ok (.iadd, 1) := by decide +kernel
theorem dL_law_382 : decode cL_law 382 = .ok (.iaload, 1) := by decide +kernel
theorem dL_law_383 : decode cL_law 383 = .ok (.invokevirtual 48, 3) := by decide +kernel
theorem dL_law_386 : decode cL_law 386 = .ok (.aload_n 2, 1) := by decide +kernel
theorem dL_law_387 : decode cL_law 387 = .ok (.aload_n 0, 1) := by decide +kernel
theorem dL_law_388 : decode cL_law 388 = .ok (.iload_n 3, 1) := by decide +kernel
theorem dL_law_389 : decode cL_law 389 = .ok (.iconst 1, 1) := by decide +kernel
theorem dL_law_390 : decode cL_law 390 = .ok (.iadd, 1) := by decide +kernel
theorem dL_law_391 : decode cL_law 391 = .ok (.iaload, 1) := by decide +kernel
theorem dL_law_392 : decode cL_law 392 = .ok (.aload_n 0, 1) := by decide +kernel
theorem dL_law_393 : decode cL_law 393 = .ok (.iload_n 3, 1) := by decide +kernel
theorem dL_law_394 : decode cL_law 394 = .ok (.iconst 2, 1) := by decide +kernel
theorem dL_law_395 : decode cL_law 395 = .ok (.iadd, 1) := by decide +kernel
theorem dL_law_396 : decode cL_law 396 = .ok (.iaload, 1) := by decide +kernel
theorem dL_law_397 : decode cL_law 397 = .ok (.aload_n 0, 1) := by decide +kernel
theorem dL_law_398 : decode cL_law 398 = .ok (.iload_n 3, 1) := by decide +kernel
theorem dL_law_399 : decode cL_law 399 = .ok (.iconst 3, 1) := by decide +kernel
theorem dL_law_400 : decode cL_law 400 = .ok (.iadd, 1) := by decide +kernel
theorem dL_law_401 : decode cL_law 401 = .ok (.iaload, 1) := by decide +kernel
theorem dL_law_402 : decode cL_law 402 = .ok (.invokevirtual 51, 3) := by decide +kernel
theorem dL_law_405 : decode cL_law 405 = .ok (.if_icmp .eq 232, 3) := by decide +kernel
theorem dL_law_408 : decode cL_law 408 = .ok (.iconst 0, 1) := by decide +kernel
theorem dL_law_409 : decode cL_law 409 = .ok (.ireturn, 1) := by decide +kernel
theorem dL_law_410 : decode cL_law 410 = .ok (.aload_n 1, 1) := by decide +kernel
theorem dL_law_411 : decode cL_law 411 = .ok (.aload_n 0, 1) := by decide +kernel
theorem dL_law_412 : decode cL_law 412 = .ok (.iload_n 3, 1) := by decide +kernel
theorem dL_law_413 : decode cL_law 413 = .ok (.iconst 1, 1) := by decide +kernel
theorem dL_law_414 : decode cL_law 414 = .ok (.iadd, 1) := by decide +kernel
theorem dL_law_415 : decode cL_law 415 = .ok (.iaload, 1) := by decide +kernel
theorem dL_law_416 : decode cL_law 416 = .ok (.invokevirtual 52, 3) := by decide +kernel
theorem dL_law_419 : decode cL_law 419 = .ok (.aload_n 2, 1) := by decide +kernel
theorem dL_law_420 : decode cL_law 420 = .ok (.aload_n 0, 1) := by decide +kernel
theorem dL_law_421 : decode cL_law 421 = .ok (.iload_n 3, 1) := by decide +kernel
theorem dL_law_422 : decode cL_law 422 = .ok (.iconst 1, 1) := by decide +kernel
theorem dL_law_423 : decode cL_law 423 = .ok (.iadd, 1) := by decide +kernel
theorem dL_law_424 : decode cL_law 424 = .ok (.iaload, 1) := by decide +kernel
theorem dL_law_425 : decode cL_law 425 = .ok (.invokevirtual 55, 3) := by decide +kernel
theorem dL_law_428 : decode cL_law 428 = .ok (.if_icmp .eq 209, 3) := by decide +kernel
theorem dL_law_431 : decode cL_law 431 = .ok (.iconst 0, 1) := by decide +kernel
theorem dL_law_432 : decode cL_law 432 = .ok (.ireturn, 1) := by decide +kernel
theorem dL_law_433 : decode cL_law 433 = .ok (.aload_n 1, 1) := by decide +kernel
theorem dL_law_434 : decode cL_law 434 = .ok (.invokevirtual 56, 3) := by decide +kernel
theorem dL_law_437 : decode cL_law 437 = .ok (.aload_n 2, 1) := by decide +kernel
theorem dL_law_438 : decode cL_law 438 = .ok (.invokevirtual 59, 3) := by decide +kernel
theorem dL_law_441 : decode cL_law 441 = .ok (.if_icmp .eq 196, 3) := by decide +kernel
theorem dL_law_444 : decode cL_law 444 = .ok (.iconst 0, 1) := by decide +kernel
theorem dL_law_445 : decode cL_law 445 = .ok (.ireturn, 1) := by decide +kernel
theorem dL_law_446 : decode cL_law 446 = .ok (.aload_n 1, 1) := by decide +kernel
theorem dL_law_447 : decode cL_law 447 = .ok (.aload_n 0, 1) := by decide +kernel
theorem dL_law_448 : decode cL_law 448 = .ok (.iload_n 3, 1) := by decide +kernel
theorem dL_law_449 : decode cL_law 449 = .ok (.iconst 1, 1) := by decide +kernel
theorem dL_law_450 : decode cL_law 450 = .ok (.iadd, 1) := by decide +kernel
theorem dL_law_451 : decode cL_law 451 = .ok (.iaload, 1) := by decide +kernel
theorem dL_law_452 : decode cL_law 452 = .ok (.aload_n 0, 1) := by decide +kernel
theorem dL_law_453 : decode cL_law 453 = .ok (.iload_n 3, 1) := by decide +kernel
theorem dL_law_454 : decode cL_law 454 = .ok (.iconst 2, 1) := by decide +kernel
theorem dL_law_455 : decode cL_law 455 = .ok (.iadd, 1) := by decide +kernel
theorem dL_law_456 : decode cL_law 456 = .ok (.iaload, 1) := by decide +kernel
theorem dL_law_457 : decode cL_law 457 = .ok (.invokevirtual 60, 3) := by decide +kernel
theorem dL_law_460 : decode cL_law 460 = .ok (.aload_n 2, 1) := by decide +kernel
theorem dL_law_461 : decode cL_law 461 = .ok (.aload_n 0, 1) := by decide +kernel
theorem dL_law_462 : decode cL_law 462 = .ok (.iload_n 3, 1) := by decide +kernel
theorem dL_law_463 : decode cL_law 463 = .ok (.iconst 1, 1) := by decide +kernel
theorem dL_law_464 : decode cL_law 464 = .ok (.iadd, 1) := by decide +kernel
theorem dL_law_465 : decode cL_law 465 = .ok (.iaload, 1) := by decide +kernel
theorem dL_law_466 : decode cL_law 466 = .ok (.aload_n 0, 1) := by decide +kernel
theorem dL_law_467 : decode cL_law 467 = .ok (.iload_n 3, 1) := by decide +kernel
theorem dL_law_468 : decode cL_law 468 = .ok (.iconst 2, 1) := by decide +kernel
theorem dL_law_469 : decode cL_law 469 = .ok (.iadd, 1) := by decide +kernel
theorem dL_law_470 : decode cL_law 470 = .ok (.iaload, 1) := by decide +kernel
theorem dL_law_471 : decode cL_law 471 = .ok (.invokevirtual 63, 3) := by decide +kernel
theorem dL_law_474 : decode cL_law 474 = .ok (.if_icmp .eq 163, 3) := by decide +kernel
theorem dL_law_477 : decode cL_law 477 = .ok (.iconst 0, 1) := by decide +kernel
theorem dL_law_478 : decode cL_law 478 = .ok (.ireturn, 1) := by decide +kernel
theorem dL_law_479 : decode cL_law 479 = .ok (.aload_n 1, 1) := by decide +kernel
theorem dL_law_480 : decode cL_law 480 = .ok (.aload_n 0, 1) := by decide +kernel
theorem dL_law_481 : decode cL_law 481 = .ok (.iload_n 3, 1) := by decide +kernel
theorem dL_law_482 : decode cL_law 482 = .ok (.iconst 1, 1) := by decide +kernel
theorem dL_law_483 : decode cL_law 483 = .ok (.iadd, 1) := by decide +kernel
theorem dL_law_484 : decode cL_law 484 = .ok (.iaload, 1) := by decide +kernel
theorem dL_law_485 : decode cL_law 485 = .ok (.aload_n 0, 1) := by decide +kernel
theorem dL_law_486 : decode cL_law 486 = .ok (.iload_n 3, 1) := by decide +kernel
theorem dL_law_487 : decode cL_law 487 = .ok (.iconst 2, 1) := by decide +kernel
theorem dL_law_488 : decode cL_law 488 = .ok (.iadd, 1) := by decide +kernel
theorem dL_law_489 : decode cL_law 489 = .ok (.iaload, 1) := by decide +kernel
theorem dL_law_490 : decode cL_law 490 = .ok (.invokevirtual 64, 3) := by decide +kernel
theorem dL_law_493 : decode cL_law 493 = .ok (.aload_n 2, 1) := by decide +kernel
theorem dL_law_494 : decode cL_law 494 = .ok (.aload_n 0, 1) := by decide +kernel
theorem dL_law_495 : decode cL_law 495 = .ok (.iload_n 3, 1) := by decide +kernel
theorem dL_law_496 : decode cL_law 496 = .ok (.iconst 1, 1) := by decide +kernel
theorem dL_law_497 : decode cL_law 497 = .ok (.iadd, 1) := by decide +kernel
theorem dL_law_498 : decode cL_law 498 = .ok (.iaload, 1) := by decide +kernel
theorem dL_law_499 : decode cL_law 499 = .ok (.aload_n 0, 1) := by decide +kernel
theorem dL_law_500 : decode cL_law 500 = .ok (.iload_n 3, 1) := by decide +kernel
theorem dL_law_501 : decode cL_law 501 = .ok (.iconst 2, 1) := by decide +kernel
theorem dL_law_502 : decode cL_law 502 = .ok (.iadd, 1) := by decide +kernel
theorem dL_law_503 : decode cL_law 503 = .ok (.iaload, 1) := by decide +kernel
theorem dL_law_504 : decode cL_law 504 = .ok (.invokevirtual 67, 3) := by decide +kernel
theorem dL_law_507 : decode cL_law 507 = .ok (.if_icmp .eq 130, 3) := by decide +kernel
theorem dL_law_510 : decode cL_law 510 = .ok (.iconst 0, 1) := by decide +kernel
theorem dL_law_511 : decode cL_law 511 = .ok (.ireturn, 1) := by decide +kernel
theorem dL_law_512 : decode cL_law 512 = .ok (.aload_n 1, 1) := by decide +kernel
theorem dL_law_513 : decode cL_law 513 = .ok (.aload_n 0, 1) := by decide +kernel
theorem dL_law_514 : decode cL_law 514 = .ok (.iload_n 3, 1) := by decide +kernel
theorem dL_law_515 : decode cL_law 515 = .ok (.iconst 1, 1) := by decide +kernel
theorem dL_law_516 : decode cL_law 516 = .ok (.iadd, 1) := by decide +kernel
theorem dL_law_517 : decode cL_law 517 = .ok (.iaload, 1) := by decide +kernel
theorem dL_law_518 : decode cL_law 518 = .ok (.aload_n 0, 1) := by decide +kernel
theorem dL_law_519 : decode cL_law 519 = .ok (.iload_n 3, 1) := by decide +kernel
theorem dL_law_520 : decode cL_law 520 = .ok (.iconst 2, 1) := by decide +kernel
theorem dL_law_521 : decode cL_law 521 = .ok (.iadd, 1) := by decide +kernel
theorem dL_law_522 : decode cL_law 522 = .ok (.iaload, 1) := by decide +kernel
theorem dL_law_523 : decode cL_law 523 = .ok (.invokevirtual 68, 3) := by decide +kernel
theorem dL_law_526 : decode cL_law 526 = .ok (.aload_n 2, 1) := by decide +kernel
theorem dL_law_527 : decode cL_law 527 = .ok (.aload_n 0, 1) := by decide +kernel
theorem dL_law_528 : decode cL_law 528 = .ok (.iload_n 3, 1) := by decide +kernel
theorem dL_law_529 : decode cL_law 529 = .ok (.iconst 1, 1) := by decide +kernel
theorem dL_law_530 : decode cL_law 530 = .ok (.iadd, 1) := by decide +kernel
theorem dL_law_531 : decode cL_law 531 = .ok (.iaload, 1) := by decide +kernel
theorem dL_law_532 : decode cL_law 532 = .ok (.aload_n 0, 1) := by decide +kernel
theorem dL_law_533 : decode cL_law 533 = .ok (.iload_n 3, 1) := by decide +kernel
theorem dL_law_534 : decode cL_law 534 = .ok (.iconst 2, 1) := by decide +kernel
theorem dL_law_535 : decode cL_law 535 = .ok (.iadd, 1) := by decide +kernel
theorem dL_law_536 : decode cL_law 536 = .ok (.iaload, 1) := by decide +kernel
theorem dL_law_537 : decode cL_law 537 = .ok (.invokevirtual 71, 3) := by decide +kernel
theorem dL_law_540 : decode cL_law 540 = .ok (.if_icmp .eq 97, 3) := by decide +kernel
theorem dL_law_543 : decode cL_law 543 = .ok (.iconst 0, 1) := by decide +kernel
theorem dL_law_544 : decode cL_law 544 = .ok (.ireturn, 1) := by decide +kernel
theorem dL_law_545 : decode cL_law 545 = .ok (.aload_n 1, 1) := by decide +kernel
theorem dL_law_546 : decode cL_law 546 = .ok (.aload_n 0, 1) := by decide +kernel
theorem dL_law_547 : decode cL_law 547 = .ok (.iload_n 3, 1) := by decide +kernel
theorem dL_law_548 : decode cL_law 548 = .ok (.iconst 1, 1) := by decide +kernel
theorem dL_law_549 : decode cL_law 549 = .ok (.iadd, 1) := by decide +kernel
theorem dL_law_550 : decode cL_law 550 = .ok (.iaload, 1) := by decide +kernel
theorem dL_law_551 : decode cL_law 551 = .ok (.invokevirtual 72, 3) := by decide +kernel
theorem dL_law_554 : decode cL_law 554 = .ok (.aload_n 2, 1) := by decide +kernel
theorem dL_law_555 : decode cL_law 555 = .ok (.aload_n 0, 1) := by decide +kernel
theorem dL_law_556 : decode cL_law 556 = .ok (.iload_n 3, 1) := by decide +kernel
theorem dL_law_557 : decode cL_law 557 = .ok (.iconst 1, 1) := by decide +kernel
theorem dL_law_558 : decode cL_law 558 = .ok (.iadd, 1) := by decide +kernel
theorem dL_law_559 : decode cL_law 559 = .ok (.iaload, 1) := by decide +kernel
theorem dL_law_560 : decode cL_law 560 = .ok (.invokevirtual 75, 3) := by decide +kernel
theorem dL_law_563 : decode cL_law 563 = .ok (.if_icmp .eq 74, 3) := by decide +kernel
theorem dL_law_566 : decode cL_law 566 = .ok (.iconst 0, 1) := by decide +kernel
theorem dL_law_567 : decode cL_law 567 = .ok (.ireturn, 1) := by decide +kernel
theorem dL_law_568 : decode cL_law 568 = .ok (.aload_n 1, 1) := by decide +kernel
theorem dL_law_569 : decode cL_law 569 = .ok (.aload_n 0, 1) := by decide +kernel
theorem dL_law_570 : decode cL_law 570 = .ok (.iload_n 3, 1) := by decide +kernel
theorem dL_law_571 : decode cL_law 571 = .ok (.iconst 1, 1) := by decide +kernel
theorem dL_law_572 : decode cL_law 572 = .ok (.iadd, 1) := by decide +kernel
theorem dL_law_573 : decode cL_law 573 = .ok (.iaload, 1) := by decide +kernel
theorem dL_law_574 : decode cL_law 574 = .ok (.invokevirtual 76, 3) := by decide +kernel
theorem dL_law_577 : decode cL_law 577 = .ok (.aload_n 2, 1) := by decide +kernel
theorem dL_law_578 : decode cL_law 578 = .ok (.aload_n 0, 1) := by decide +kernel
theorem dL_law_579 : decode cL_law 579 = .ok (.iload_n 3, 1) := by decide +kernel
theorem dL_law_580 : decode cL_law 580 = .ok (.iconst 1, 1) := by decide +kernel
theorem dL_law_581 : decode cL_law 581 = .ok (.iadd, 1) := by decide +kernel
theorem dL_law_582 : decode cL_law 582 = .ok (.iaload, 1) := by decide +kernel
theorem dL_law_583 : decode cL_law 583 = .ok (.invokevirtual 79, 3) := by decide +kernel
theorem dL_law_586 : decode cL_law 586 = .ok (.if_icmp .eq 51, 3) := by decide +kernel
theorem dL_law_589 : decode cL_law 589 = .ok (.iconst 0, 1) := by decide +kernel
theorem dL_law_590 : decode cL_law 590 = .ok (.ireturn, 1) := by decide +kernel
theorem dL_law_591 : decode cL_law 591 = .ok (.aload_n 1, 1) := by decide +kernel
theorem dL_law_592 : decode cL_law 592 = .ok (.aload_n 0, 1) := by decide +kernel
theorem dL_law_593 : decode cL_law 593 = .ok (.iload_n 3, 1) := by decide +kernel
theorem dL_law_594 : decode cL_law 594 = .ok (.iconst 1, 1) := by decide +kernel
theorem dL_law_595 : decode cL_law 595 = .ok (.iadd, 1) := by decide +kernel
theorem dL_law_596 : decode cL_law 596 = .ok (.iaload, 1) := by decide +kernel
theorem dL_law_597 : decode cL_law 597 = .ok (.aload_n 0, 1) := by decide +kernel
theorem dL_law_598 : decode cL_law 598 = .ok (.iload_n 3, 1) := by decide +kernel
theorem dL_law_599 : decode cL_law 599 = .ok (.iconst 2, 1) := by decide +kernel
theorem dL_law_600 : decode cL_law 600 = .ok (.iadd, 1) := by decide +kernel
theorem dL_law_601 : decode cL_law 601 = .ok (.iaload, 1) := by decide +kernel
theorem dL_law_602 : decode cL_law 602 = .ok (.invokevirtual 80, 3) := by decide +kernel
theorem dL_law_605 : decode cL_law 605 = .ok (.aload_n 2, 1) := by decide +kernel
theorem dL_law_606 : decode cL_law 606 = .ok (.aload_n 0, 1) := by decide +kernel
theorem dL_law_607 : decode cL_law 607 = .ok (.iload_n 3, 1) := by decide +kernel
theorem dL_law_608 : decode cL_law 608 = .ok (.iconst 1, 1) := by decide +kernel
theorem dL_law_609 : decode cL_law 609 = .ok (.iadd, 1) := by decide +kernel
theorem dL_law_610 : decode cL_law 610 = .ok (.iaload, 1) := by decide +kernel
theorem dL_law_611 : decode cL_law 611 = .ok (.aload_n 0, 1) := by decide +kernel
theorem dL_law_612 : decode cL_law 612 = .ok (.iload_n 3, 1) := by decide +kernel
theorem dL_law_613 : decode cL_law 613 = .ok (.iconst 2, 1) := by decide +kernel
theorem dL_law_614 : decode cL_law 614 = .ok (.iadd, 1) := by decide +kernel
theorem dL_law_615 : decode cL_law 615 = .ok (.iaload, 1) := by decide +kernel
theorem dL_law_616 : decode cL_law 616 = .ok (.invokevirtual 83, 3) := by decide +kernel
theorem dL_law_619 : decode cL_law 619 = .ok (.if_icmp .eq 18, 3) := by decide +kernel
theorem dL_law_622 : decode cL_law 622 = .ok (.iconst 0, 1) := by decide +kernel
theorem dL_law_623 : decode cL_law 623 = .ok (.ireturn, 1) := by decide +kernel
theorem dL_law_624 : decode cL_law 624 = .ok (.aload_n 1, 1) := by decide +kernel
theorem dL_law_625 : decode cL_law 625 = .ok (.invokevirtual 84, 3) := by decide +kernel
theorem dL_law_628 : decode cL_law 628 = .ok (.aload_n 2, 1) := by decide +kernel
theorem dL_law_629 : decode cL_law 629 = .ok (.invokevirtual 87, 3) := by decide +kernel
theorem dL_law_632 : decode cL_law 632 = .ok (.if_icmp .eq 5, 3) := by decide +kernel
theorem dL_law_635 : decode cL_law 635 = .ok (.iconst 0, 1) := by decide +kernel
theorem dL_law_636 : decode cL_law 636 = .ok (.ireturn, 1) := by decide +kernel
theorem dL_law_637 : decode cL_law 637 = .ok (.iinc 3 5, 3) := by decide +kernel
theorem dL_law_640 : decode cL_law 640 = .ok (.goto (-622), 3) := by decide +kernel
theorem dL_law_643 : decode cL_law 643 = .ok (.iconst 1, 1) := by decide +kernel
theorem dL_law_644 : decode cL_law 644 = .ok (.ireturn, 1) := by decide +kernel
