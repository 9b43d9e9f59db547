theorem dX10_init_0 : decode cX10_init 0 = .ok (.aload_n 0, 1) := by decide +kernel
theorem dX10_init_1 : decode cX10_init 1 = .ok (.invokespecial 1, 3) := by decide +kernel
theorem dX10_init_4 : decode cX10_init 4 = .ok (.aload_n 0, 1) := by decide +kernel
theorem dX10_init_5 : decode cX10_init 5 = .ok (.iconst (-1), 1) := by decide +kernel
theorem dX10_init_6 : decode cX10_init 6 = .ok (.putfield 9, 3) := by decide +kernel
theorem dX10_init_9 : decode cX10_init 9 = .ok (.aload_n 0, 1) := by decide +kernel
theorem dX10_init_10 : decode cX10_init 10 = .ok (.sipush 600, 3) := by decide +kernel
theorem dX10_init_13 : decode cX10_init 13 = .ok (.newarray .int, 2) := by decide +kernel
theorem dX10_init_15 : decode cX10_init 15 = .ok (.putfield 13, 3) := by decide +kernel
theorem dX10_init_18 : decode cX10_init 18 = .ok (.aload_n 0, 1) := by decide +kernel
theorem dX10_init_19 : decode cX10_init 19 = .ok (.iconst 3, 1) := by decide +kernel
theorem dX10_init_20 : decode cX10_init 20 = .ok (.newarray .int, 2) := by decide +kernel
theorem dX10_init_22 : decode cX10_init 22 = .ok (.putfield 17, 3) := by decide +kernel
theorem dX10_init_25 : decode cX10_init 25 = .ok (.aload_n 0, 1) := by decide +kernel
theorem dX10_init_26 : decode cX10_init 26 = .ok (.bipush 7, 2) := by decide +kernel
theorem dX10_init_28 : decode cX10_init 28 = .ok (.newarray .int, 2) := by decide +kernel
theorem dX10_init_30 : decode cX10_init 30 = .ok (.putfield 20, 3) := by decide +kernel
theorem dX10_init_33 : decode cX10_init 33 = .ok (.aload_n 0, 1) := by decide +kernel
theorem dX10_init_34 : decode cX10_init 34 = .ok (.bipush 7, 2) := by decide +kernel
theorem dX10_init_36 : decode cX10_init 36 = .ok (.newarray .int, 2) := by decide +kernel
theorem dX10_init_38 : decode cX10_init 38 = .ok (.putfield 23, 3) := by decide +kernel
theorem dX10_init_41 : decode cX10_init 41 = .ok (.aload_n 0, 1) := by decide +kernel
theorem dX10_init_42 : decode cX10_init 42 = .ok (.iconst 2, 1) := by decide +kernel
theorem dX10_init_43 : decode cX10_init 43 = .ok (.newarray .int, 2) := by decide +kernel
theorem dX10_init_45 : decode cX10_init 45 = .ok (.putfield 26, 3) := by decide +kernel
theorem dX10_init_48 : decode cX10_init 48 = .ok (.aload_n 0, 1) := by decide +kernel
theorem dX10_init_49 : decode cX10_init 49 = .ok (.iconst 2, 1) := by decide +kernel
theorem dX10_init_50 : decode cX10_init 50 = .ok (.newarray .int, 2) := by decide +kernel
theorem dX10_init_52 : decode cX10_init 52 = .ok (.putfield 29, 3) := by decide +kernel
theorem dX10_init_55 : decode cX10_init 55 = .ok (.aload_n 0, 1) := by decide +kernel
theorem dX10_init_56 : decode cX10_init 56 = .ok (.bipush 6, 2) := by decide +kernel
theorem dX10_init_58 : decode cX10_init 58 = .ok (.newarray .int, 2) := by decide +kernel
theorem dX10_init_60 : decode cX10_init 60 = .ok (.putfield 32, 3) := by decide +kernel
theorem dX10_init_63 : decode cX10_init 63 = .ok (.aload_n 0, 1) := by decide +kernel
theorem dX10_init_64 : decode cX10_init 64 = .ok (.bipush 6, 2) := by decide +kernel
theorem dX10_init_66 : decode cX10_init 66 = .ok (.newarray .int, 2) := by decide +kernel
theorem dX10_init_68 : decode cX10_init 68 = .ok (.putfield 35, 3) := by decide +kernel
theorem dX10_init_71 : decode cX10_init 71 = .ok (.aload_n 0, 1) := by decide +kernel
theorem dX10_init_72 : decode cX10_init 72 = .ok (.bipush 26, 2) := by decide +kernel
theorem dX10_init_74 : decode cX10_init 74 = .ok (.newarray .int, 2) := by decide +kernel
theorem dX10_init_76 : decode cX10_init 76 = .ok (.putfield 38, 3) := by decide +kernel
theorem dX10_init_79 : decode cX10_init 79 = .ok (.aload_n 0, 1) := by decide +kernel
theorem dX10_init_80 : decode cX10_init 80 = .ok (.bipush 26, 2) := by decide +kernel
theorem dX10_init_82 : decode cX10_init 82 = .ok (.newarray .int, 2) := by decide +kernel
theorem dX10_init_84 : decode cX10_init 84 = .ok (.putfield 41, 3) := by decide +kernel
theorem dX10_init_87 : decode cX10_init 87 = .ok (.aload_n 0, 1) := by decide +kernel
theorem dX10_init_88 : decode cX10_init 88 = .ok (.iconst 4, 1) := by decide +kernel
theorem dX10_init_89 : decode cX10_init 89 = .ok (.iconst 2, 1) := by decide +kernel
theorem dX10_init_90 : decode cX10_init 90 = .ok (.multianewarray 44 2, 4) := by decide +kernel
theorem dX10_init_94 : decode cX10_init 94 = .ok (.putfield 46, 3) := by decide +kernel
theorem dX10_init_97 : decode cX10_init 97 = .ok (.aload_n 0, 1) := by decide +kernel
theorem dX10_init_98 : decode cX10_init 98 = .ok (.iconst 4, 1) := by decide +kernel
theorem dX10_init_99 : decode cX10_init 99 = .ok (.iconst 2, 1) := by decide +kernel
theorem dX10_init_100 : decode cX10_init 100 = .ok (.multianewarray 44 2, 4) := by decide +kernel
theorem dX10_init_104 : decode cX10_init 104 = .ok (.putfield 49, 3) := by decide +kernel
theorem dX10_init_107 : decode cX10_init 107 = .ok (.aload_n 0, 1) := by decide +kernel
theorem dX10_init_108 : decode cX10_init 108 = .ok (.iconst 3, 1) := by decide +kernel
theorem dX10_init_109 : decode cX10_init 109 = .ok (.newarray .int, 2) := by decide +kernel
theorem dX10_init_111 : decode cX10_init 111 = .ok (.putfield 52, 3) := by decide +kernel
theorem dX10_init_114 : decode cX10_init 114 = .ok (.aload_n 0, 1) := by decide +kernel
theorem dX10_init_115 : decode cX10_init 115 = .ok (.iconst 3, 1) := by decide +kernel
theorem dX10_init_116 : decode cX10_init 116 = .ok (.sipush 320, 3) := by decide +kernel
theorem dX10_init_119 : decode cX10_init 119 = .ok (.multianewarray 44 2, 4) := by decide +kernel
theorem dX10_init_123 : decode cX10_init 123 = .ok (.putfield 55, 3) := by decide +kernel
theorem dX10_init_126 : decode cX10_init 126 = .ok (.aload_n 0, 1) := by decide +kernel
theorem dX10_init_127 : decode cX10_init 127 = .ok (.sipush 320, 3) := by decide +kernel
theorem dX10_init_130 : decode cX10_init 130 = .ok (.newarray .int, 2) := by decide +kernel
theorem dX10_init_132 : decode cX10_init 132 = .ok (.putfield 58, 3) := by decide +kernel
theorem dX10_init_135 : decode cX10_init 135 = .ok (.aload_n 0, 1) := by decide +kernel
theorem dX10_init_136 : decode cX10_init 136 = .ok (.sipush 160, 3) := by decide +kernel
theorem dX10_init_139 : decode cX10_init 139 = .ok (.newarray .int, 2) := by decide +kernel
theorem dX10_init_141 : decode cX10_init 141 = .ok (.putfield 61, 3) := by decide +kernel
theorem dX10_init_144 : decode cX10_init 144 = .ok (.aload_n 0, 1) := by decide +kernel
theorem dX10_init_145 : decode cX10_init 145 = .ok (.bipush 12, 2) := by decide +kernel
theorem dX10_init_147 : decode cX10_init 147 = .ok (.newarray .int, 2) := by decide +kernel
theorem dX10_init_149 : decode cX10_init 149 = .ok (.putfield 64, 3) := by decide +kernel
theorem dX10_init_152 : decode cX10_init 152 = .ok (.aload_n 0, 1) := by decide +kernel
theorem dX10_init_153 : decode cX10_init 153 = .ok (.bipush 12, 2) := by decide +kernel
theorem dX10_init_155 : decode cX10_init 155 = .ok (.iconst 2, 1) := by decide +kernel
theorem dX10_init_156 : decode cX10_init 156 = .ok (.multianewarray 44 2, 4) := by decide +kernel
theorem dX10_init_160 : decode cX10_init 160 = .ok (.putfield 67, 3) := by decide +kernel
theorem dX10_init_163 : decode cX10_init 163 = .ok (.aload_n 0, 1) := by decide +kernel
theorem dX10_init_164 : decode cX10_init 164 = .ok (.bipush 12, 2) := by decide +kernel
theorem dX10_init_166 : decode cX10_init 166 = .ok (.iconst 2, 1) := by decide +kernel
theorem dX10_init_167 : decode cX10_init 167 = .ok (.multianewarray 44 2, 4) := by decide +kernel
theorem dX10_init_171 : decode cX10_init 171 = .ok (.putfield 70, 3) := by decide +kernel
theorem dX10_init_174 : decode cX10_init 174 = .ok (.aload_n 0, 1) := by decide +kernel
theorem dX10_init_175 : decode cX10_init 175 = .ok (.bipush 20, 2) := by decide +kernel
theorem dX10_init_177 : decode cX10_init 177 = .ok (.bipush 26, 2) := by decide +kernel
theorem dX10_init_179 : decode cX10_init 179 = .ok (.multianewarray 44 2, 4) := by decide +kernel
theorem dX10_init_183 : decode cX10_init 183 = .ok (.putfield 73, 3) := by decide +kernel
theorem dX10_init_186 : decode cX10_init 186 = .ok (.aload_n 0, 1) := by decide +kernel
theorem dX10_init_187 : decode cX10_init 187 = .ok (.iconst 3, 1) := by decide +kernel
theorem dX10_init_188 : decode cX10_init 188 = .ok (.sipush 547, 3) := by decide +kernel
theorem dX10_init_191 : decode cX10_init 191 = .ok (.multianewarray 44 2, 4) := by decide +kernel
theorem dX10_init_195 : decode cX10_init 195 = .ok (.putfield 76, 3) := by decide +kernel
theorem dX10_init_198 : decode cX10_init 198 = .ok (.aload_n 0, 1) := by decide +kernel
theorem dX10_init_199 : decode cX10_init 199 = .ok (.iconst 2, 1) := by decide +kernel
theorem dX10_init_200 : decode cX10_init 200 = .ok (.bipush 99, 2) := by decide +kernel
theorem dX10_init_202 : decode cX10_init 202 = .ok (.bipush 6, 2) := by decide +kernel
theorem dX10_init_204 : decode cX10_init 204 = .ok (.multianewarray 79 3, 4) := by decide +kernel
theorem dX10_init_208 : decode cX10_init 208 = .ok (.putfield 81, 3) := by decide +kernel
theorem dX10_init_211 : decode cX10_init 211 = .ok (.aload_n 0, 1) := by decide +kernel
theorem dX10_init_212 : decode cX10_init 212 = .ok (.iconst 2, 1) := by decide +kernel
theorem dX10_init_213 : decode cX10_init 213 = .ok (.bipush 10, 2) := by decide +kernel
theorem dX10_init_215 : decode cX10_init 215 = .ok (.multianewarray 44 2, 4) := by decide +kernel
theorem dX10_init_219 : decode cX10_init 219 = .ok (.putfield 84, 3) := by decide +kernel
theorem dX10_init_222 : decode cX10_init 222 = .ok (.aload_n 0, 1) := by decide +kernel
theorem dX10_init_223 : decode cX10_init 223 = .ok (.iconst 2, 1) := by decide +kernel
theorem dX10_init_224 : decode cX10_init 224 = .ok (.bipush 10, 2) := by decide +kernel
theorem dX10_init_226 : decode cX10_init 226 = .ok (.multianewarray 44 2, 4) := by decide +kernel
theorem dX10_init_230 : decode cX10_init 230 = .ok (.putfield 87, 3) := by decide +kernel
theorem dX10_init_233 : decode cX10_init 233 = .ok (.aload_n 0, 1) := by decide +kernel
theorem dX10_init_234 : decode cX10_init 234 = .ok (.iconst 2, 1) := by decide +kernel
theorem dX10_init_235 : decode cX10_init 235 = .ok (.newarray .int, 2) := by decide +kernel
theorem dX10_init_237 : decode cX10_init 237 = .ok (.putfield 90, 3) := by decide +kernel
theorem dX10_init_240 : decode cX10_init 240 = .ok (.aload_n 0, 1) := by decide +kernel
theorem dX10_init_241 : decode cX10_init 241 = .ok (.iconst 2, 1) := by decide +kernel
theorem dX10_init_242 : decode cX10_init 242 = .ok (.newarray .int, 2) := by decide +kernel
theorem dX10_init_244 : decode cX10_init 244 = .ok (.putfield 93, 3) := by decide +kernel
theorem dX10_init_247 : decode cX10_init 247 = .ok (.aload_n 0, 1) := by decide +kernel
theorem dX10_init_248 : decode cX10_init 248 = .ok (.iconst 2, 1) := by decide +kernel
theorem dX10_init_249 : decode cX10_init 249 = .ok (.newarray .int, 2) := by decide +kernel
theorem dX10_init_251 : decode cX10_init 251 = .ok (.putfield 96, 3) := by decide +kernel
theorem dX10_init_254 : decode cX10_init 254 = .ok (.aload_n 0, 1) := by decide +kernel
theorem dX10_init_255 : decode cX10_init 255 = .ok (.iconst 2, 1) := by decide +kernel
theorem dX10_init_256 : decode cX10_init 256 = .ok (.newarray .int, 2) := by decide +kernel
theorem dX10_init_258 : decode cX10_init 258 = .ok (.putfield 99, 3) := by decide +kernel
theorem dX10_init_261 : decode cX10_init 261 = .ok (.aload_n 0, 1) := by decide +kernel
theorem dX10_init_262 : decode cX10_init 262 = .ok (.iconst 2, 1) := by decide +kernel
theorem dX10_init_263 : decode cX10_init 263 = .ok (.newarray .int, 2) := by decide +kernel
theorem dX10_init_265 : decode cX10_init 265 = .ok (.putfield 102, 3) := by decide +kernel
theorem dX10_init_268 : decode cX10_init 268 = .ok (.aload_n 0, 1) := by decide +kernel
theorem dX10_init_269 : decode cX10_init 269 = .ok (.iconst 2, 1) := by decide +kernel
theorem dX10_init_270 : decode cX10_init 270 = .ok (.newarray .int, 2) := by decide +kernel
theorem dX10_init_272 : decode cX10_init 272 = .ok (.putfield 105, 3) := by decide +kernel
theorem dX10_init_275 : decode cX10_init 275 = .ok (.aload_n 0, 1) := by decide +kernel
theorem dX10_init_276 : decode cX10_init 276 = .ok (.iconst 2, 1) := by decide +kernel
theorem dX10_init_277 : decode cX10_init 277 = .ok (.newarray .int, 2) := by decide +kernel
theorem dX10_init_279 : decode cX10_init 279 = .ok (.putfield 108, 3) := by decide +kernel
theorem dX10_init_282 : decode cX10_init 282 = .ok (.aload_n 0, 1) := by decide +kernel
theorem dX10_init_283 : decode cX10_init 283 = .ok (.iconst 2, 1) := by decide +kernel
theorem dX10_init_284 : decode cX10_init 284 = .ok (.bipush 21, 2) := by decide +kernel
theorem dX10_init_286 : decode cX10_init 286 = .ok (.bipush 21, 2) := by decide +kernel
theorem dX10_init_288 : decode cX10_init 288 = .ok (.multianewarray 79 3, 4) := by decide +kernel
theorem dX10_init_292 : decode cX10_init 292 = .ok (.putfield 111, 3) := by decide +kernel
theorem dX10_init_295 : decode cX10_init 295 = .ok (.aload_n 0, 1) := by decide +kernel
theorem dX10_init_296 : decode cX10_init 296 = .ok (.bipush 21, 2) := by decide +kernel
theorem dX10_init_298 : decode cX10_init 298 = .ok (.newarray .int, 2) := by decide +kernel
theorem dX10_init_300 : decode cX10_init 300 = .ok (.putfield 114, 3) := by decide +kernel
theorem dX10_init_303 : decode cX10_init 303 = .ok (.aload_n 0, 1) := by decide +kernel
theorem dX10_init_304 : decode cX10_init 304 = .ok (.bipush 99, 2) := by decide +kernel
theorem dX10_init_306 : decode cX10_init 306 = .ok (.newarray .int, 2) := by decide +kernel
theorem dX10_init_308 : decode cX10_init 308 = .ok (.putfield 117, 3) := by decide +kernel
theorem dX10_init_311 : decode cX10_init 311 = .ok (.aload_n 0, 1) := by decide +kernel
theorem dX10_init_312 : decode cX10_init 312 = .ok (.bipush 26, 2) := by decide +kernel
theorem dX10_init_314 : decode cX10_init 314 = .ok (.newarray .int, 2) := by decide +kernel
theorem dX10_init_316 : decode cX10_init 316 = .ok (.putfield 120, 3) := by decide +kernel
theorem dX10_init_319 : decode cX10_init 319 = .ok (.aload_n 0, 1) := by decide +kernel
theorem dX10_init_320 : decode cX10_init 320 = .ok (.invokevirtual 123, 3) := by decide +kernel
theorem dX10_init_323 : decode cX10_init 323 = .ok (.aload_n 0, 1) := by decide +kernel
theorem dX10_init_324 : decode cX10_init 324 = .ok (.invokevirtual 126, 3) := by decide +kernel
theorem dX10_init_327 : decode cX10_init 327 = .ok (.return_, 1) := by decide +kernel
theorem dX10_tellsNothing_0 : decode cX10_tellsNothing 0 = .ok (.aload_n 0, 1) := by decide +kernel
theorem dX10_tellsNothing_1 : decode cX10_tellsNothing 1 = .ok (.getfield 20, 3) := by decide +kernel
theorem dX10_tellsNothing_4 : decode cX10_tellsNothing 4 = .ok (.iconst 0, 1) := by decide +kernel
theorem dX10_tellsNothing_5 : decode cX10_tellsNothing 5 = .ok (.bipush 40, 2) := by decide +kernel
theorem dX10_tellsNothing_7 : decode cX10_tellsNothing 7 = .ok (.iastore, 1) := by decide +kernel
theorem dX10_tellsNothing_8 : decode cX10_tellsNothing 8 = .ok (.iconst 1, 1) := by decide +kernel
theorem dX10_tellsNothing_9 : decode cX10_tellsNothing 9 = .ok (.istore_n 1, 1) := by decide +kernel
theorem dX10_tellsNothing_10 : decode cX10_tellsNothing 10 = .ok (.iload_n 1, 1) := by decide +kernel
theorem dX10_tellsNothing_11 : decode cX10_tellsNothing 11 = .ok (.iconst 5, 1) := by decide +kernel
theorem dX10_tellsNothing_12 : decode cX10_tellsNothing 12 = .ok (.if_icmp .ge 16, 3) := by decide +kernel
theorem dX10_tellsNothing_15 : decode cX10_tellsNothing 15 = .ok (.aload_n 0, 1) := by decide +kernel
theorem dX10_tellsNothing_16 : decode cX10_tellsNothing 16 = .ok (.getfield 20, 3) := by decide +kernel
theorem dX10_tellsNothing_19 : decode cX10_tellsNothing 19 = .ok (.iload_n 1, 1) := by decide +kernel
theorem dX10_tellsNothing_20 : decode cX10_tellsNothing 20 = .ok (.iconst 0, 1) := by decide +kernel
theorem dX10_tellsNothing_21 : decode cX10_tellsNothing 21 = .ok (.iastore, 1) := by decide +kernel
theorem dX10_tellsNothing_22 : decode cX10_tellsNothing 22 = .ok (.iinc 1 1, 3) := by decide +kernel
theorem dX10_tellsNothing_25 : decode cX10_tellsNothing 25 = .ok (.goto (-15), 3) := by decide +kernel
theorem dX10_tellsNothing_28 : decode cX10_tellsNothing 28 = .ok (.aload_n 0, 1) := by decide +kernel
theorem dX10_tellsNothing_29 : decode cX10_tellsNothing 29 = .ok (.getfield 20, 3) := by decide +kernel
theorem dX10_tellsNothing_32 : decode cX10_tellsNothing 32 = .ok (.iconst 5, 1) := by decide +kernel
theorem dX10_tellsNothing_33 : decode cX10_tellsNothing 33 = .ok (.bipush 20, 2) := by decide +kernel
theorem dX10_tellsNothing_35 : decode cX10_tellsNothing 35 = .ok (.iastore, 1) := by decide +kernel
theorem dX10_tellsNothing_36 : decode cX10_tellsNothing 36 = .ok (.aload_n 0, 1) := by decide +kernel
theorem dX10_tellsNothing_37 : decode cX10_tellsNothing 37 = .ok (.getfield 20, 3) := by decide +kernel
theorem dX10_tellsNothing_40 : decode cX10_tellsNothing 40 = .ok (.bipush 6, 2) := by decide +kernel
theorem dX10_tellsNothing_42 : decode cX10_tellsNothing 42 = .ok (.bipush 6, 2) := by decide +kernel
theorem dX10_tellsNothing_44 : decode cX10_tellsNothing 44 = .ok (.iastore, 1) := by decide +kernel
theorem dX10_tellsNothing_45 : decode cX10_tellsNothing 45 = .ok (.iconst 0, 1) := by decide +kernel
theorem dX10_tellsNothing_46 : decode cX10_tellsNothing 46 = .ok (.istore_n 1, 1) := by decide +kernel
theorem dX10_tellsNothing_47 : decode cX10_tellsNothing 47 = .ok (.iload_n 1, 1) := by decide +kernel
theorem dX10_tellsNothing_48 : decode cX10_tellsNothing 48 = .ok (.bipush 26, 2) := by decide +kernel
theorem dX10_tellsNothing_50 : decode cX10_tellsNothing 50 = .ok (.if_icmp .ge 16, 3) := by decide +kernel
theorem dX10_tellsNothing_53 : decode cX10_tellsNothing 53 = .ok (.aload_n 0, 1) := by decide +kernel
theorem dX10_tellsNothing_54 : decode cX10_tellsNothing 54 = .ok (.getfield 38, 3) := by decide +kernel
theorem dX10_tellsNothing_57 : decode cX10_tellsNothing 57 = .ok (.iload_n 1, 1) := by decide +kernel
theorem dX10_tellsNothing_58 : decode cX10_tellsNothing 58 = .ok (.iconst 0, 1) := by decide +kernel
theorem dX10_tellsNothing_59 : decode cX10_tellsNothing 59 = .ok (.iastore, 1) := by decide +kernel
theorem dX10_tellsNothing_60 : decode cX10_tellsNothing 60 = .ok (.iinc 1 1, 3) := by decide +kernel
theorem dX10_tellsNothing_63 : decode cX10_tellsNothing 63 = .ok (.goto (-16), 3) := by decide +kernel
theorem dX10_tellsNothing_66 : decode cX10_tellsNothing 66 = .ok (.aload_n 0, 1) := by decide +kernel
theorem dX10_tellsNothing_67 : decode cX10_tellsNothing 67 = .ok (.getfield 38, 3) := by decide +kernel
theorem dX10_tellsNothing_70 : decode cX10_tellsNothing 70 = .ok (.bipush 25, 2) := by decide +kernel
theorem dX10_tellsNothing_72 : decode cX10_tellsNothing 72 = .ok (.iconst 4, 1) := by decide +kernel
theorem dX10_tellsNothing_73 : decode cX10_tellsNothing 73 = .ok (.iastore, 1) := by decide +kernel
theorem dX10_tellsNothing_74 : decode cX10_tellsNothing 74 = .ok (.aload_n 0, 1) := by decide +kernel
theorem dX10_tellsNothing_75 : decode cX10_tellsNothing 75 = .ok (.iconst 0, 1) := by decide +kernel
theorem dX10_tellsNothing_76 : decode cX10_tellsNothing 76 = .ok (.putfield 129, 3) := by decide +kernel
theorem dX10_tellsNothing_79 : decode cX10_tellsNothing 79 = .ok (.return_, 1) := by decide +kernel
theorem dX10_thrown_0 : decode cX10_thrown 0 = .ok (.aload_n 0, 1) := by decide +kernel
theorem dX10_thrown_1 : decode cX10_thrown 1 = .ok (.getfield 133, 3) := by decide +kernel
theorem dX10_thrown_4 : decode cX10_thrown 4 = .ok (.ireturn, 1) := by decide +kernel
theorem dX10_bad_0 : decode cX10_bad 0 = .ok (.iload_n 1, 1) := by decide +kernel
theorem dX10_bad_1 : decode cX10_bad 1 = .ok (.ifCond .eq 25, 3) := by decide +kernel
theorem dX10_bad_4 : decode cX10_bad 4 = .ok (.aload_n 0, 1) := by decide +kernel
theorem dX10_bad_5 : decode cX10_bad 5 = .ok (.getfield 133, 3) := by decide +kernel
theorem dX10_bad_8 : decode cX10_bad 8 = .ok (.ifCond .ne 18, 3) := by decide +kernel
theorem dX10_bad_11 : decode cX10_bad 11 = .ok (.aload_n 0, 1) := by decide +kernel
theorem dX10_bad_12 : decode cX10_bad 12 = .ok (.iload_n 2, 1) := by decide +kernel
theorem dX10_bad_13 : decode cX10_bad 13 = .ok (.putfield 133, 3) := by decide +kernel
theorem dX10_bad_16 : decode cX10_bad 16 = .ok (.aload_n 0, 1) := by decide +kernel
theorem dX10_bad_17 : decode cX10_bad 17 = .ok (.getfield 17, 3) := by decide +kernel
theorem dX10_bad_20 : decode cX10_bad 20 = .ok (.iload_n 3, 1) := by decide +kernel
theorem dX10_bad_21 : decode cX10_bad 21 = .ok (.dup2, 1) := by decide +kernel
theorem dX10_bad_22 : decode cX10_bad 22 = .ok (.iaload, 1) := by decide +kernel
theorem dX10_bad_23 : decode cX10_bad 23 = .ok (.iconst 1, 1) := by decide +kernel
theorem dX10_bad_24 : decode cX10_bad 24 = .ok (.iadd, 1) := by decide +kernel
theorem dX10_bad_25 : decode cX10_bad 25 = .ok (.iastore, 1) := by decide +kernel
theorem dX10_bad_26 : decode cX10_bad 26 = .ok (.aload_n 0, 1) := by decide +kernel
theorem dX10_bad_27 : decode cX10_bad 27 = .ok (.getfield 133, 3) := by decide +kernel
theorem dX10_bad_30 : decode cX10_bad 30 = .ok (.ifCond .eq 7, 3) := by decide +kernel
theorem dX10_bad_33 : decode cX10_bad 33 = .ok (.iconst 1, 1) := by decide +kernel
theorem dX10_bad_34 : decode cX10_bad 34 = .ok (.goto 4, 3) := by decide +kernel
theorem dX10_bad_37 : decode cX10_bad 37 = .ok (.iconst 0, 1) := by decide +kernel
theorem dX10_bad_38 : decode cX10_bad 38 = .ok (.ireturn, 1) := by decide +kernel
theorem dX10_in_0 : decode cX10_in 0 = .ok (.iload_n 0, 1) := by decide +kernel
theorem dX10_in_1 : decode cX10_in 1 = .ok (.iload_n 1, 1) := by decide +kernel
theorem dX10_in_2 : decode cX10_in 2 = .ok (.if_icmp .lt 12, 3) := by decide +kernel
theorem dX10_in_5 : decode cX10_in 5 = .ok (.iload_n 0, 1) := by decide +kernel
theorem dX10_in_6 : decode cX10_in 6 = .ok (.iload_n 2, 1) := by decide +kernel
theorem dX10_in_7 : decode cX10_in 7 = .ok (.if_icmp .gt 7, 3) := by decide +kernel
theorem dX10_in_10 : decode cX10_in 10 = .ok (.iconst 1, 1) := by decide +kernel
theorem dX10_in_11 : decode cX10_in 11 = .ok (.goto 4, 3) := by decide +kernel
theorem dX10_in_14 : decode cX10_in 14 = .ok (.iconst 0, 1) := by decide +kernel
theorem dX10_in_15 : decode cX10_in 15 = .ok (.ireturn, 1) := by decide +kernel
theorem dX10_less_0 : decode cX10_less 0 = .ok (.iload_n 0, 1) := by decide +kernel
theorem dX10_less_1 : decode cX10_less 1 = .ok (.iload_n 1, 1) := by decide +kernel
theorem dX10_less_2 : decode cX10_less 2 = .ok (.if_icmp .ge 7, 3) := by decide +kernel
theorem dX10_less_5 : decode cX10_less 5 = .ok (.iload_n 0, 1) := by decide +kernel
theorem dX10_less_6 : decode cX10_less 6 = .ok (.goto 4, 3) := by decide +kernel
theorem dX10_less_9 : decode cX10_less 9 = .ok (.iload_n 1, 1) := by decide +kernel
theorem dX10_less_10 : decode cX10_less 10 = .ok (.ireturn, 1) := by decide +kernel
theorem dX10_more_0 : decode cX10_more 0 = .ok (.iload_n 0, 1) := by decide +kernel
theorem dX10_more_1 : decode cX10_more 1 = .ok (.iload_n 1, 1) := by decide +kernel
theorem dX10_more_2 : decode cX10_more 2 = .ok (.if_icmp .le 7, 3) := by decide +kernel
theorem dX10_more_5 : decode cX10_more 5 = .ok (.iload_n 0, 1) := by decide +kernel
theorem dX10_more_6 : decode cX10_more 6 = .ok (.goto 4, 3) := by decide +kernel
theorem dX10_more_9 : decode cX10_more 9 = .ok (.iload_n 1, 1) := by decide +kernel
theorem dX10_more_10 : decode cX10_more 10 = .ok (.ireturn, 1) := by decide +kernel
theorem dX10_far_0 : decode cX10_far 0 = .ok (.iload_n 0, 1) := by decide +kernel
theorem dX10_far_1 : decode cX10_far 1 = .ok (.iload_n 1, 1) := by decide +kernel
theorem dX10_far_2 : decode cX10_far 2 = .ok (.if_icmp .le 9, 3) := by decide +kernel
theorem dX10_far_5 : decode cX10_far 5 = .ok (.iload_n 0, 1) := by decide +kernel
theorem dX10_far_6 : decode cX10_far 6 = .ok (.iload_n 1, 1) := by decide +kernel
theorem dX10_far_7 : decode cX10_far 7 = .ok (.isub, 1) := by decide +kernel
theorem dX10_far_8 : decode cX10_far 8 = .ok (.goto 6, 3) := by decide +kernel
theorem dX10_far_11 : decode cX10_far 11 = .ok (.iload_n 1, 1) := by decide +kernel
theorem dX10_far_12 : decode cX10_far 12 = .ok (.iload_n 0, 1) := by decide +kernel
theorem dX10_far_13 : decode cX10_far 13 = .ok (.isub, 1) := by decide +kernel
theorem dX10_far_14 : decode cX10_far 14 = .ok (.ireturn, 1) := by decide +kernel
theorem dX10_feed_0 : decode cX10_feed 0 = .ok (.aload_n 0, 1) := by decide +kernel
theorem dX10_feed_1 : decode cX10_feed 1 = .ok (.iconst 0, 1) := by decide +kernel
theorem dX10_feed_2 : decode cX10_feed 2 = .ok (.putfield 133, 3) := by decide +kernel
theorem dX10_feed_5 : decode cX10_feed 5 = .ok (.aload_n 0, 1) := by decide +kernel
theorem dX10_feed_6 : decode cX10_feed 6 = .ok (.getfield 136, 3) := by decide +kernel
theorem dX10_feed_9 : decode cX10_feed 9 = .ok (.bipush 20, 2) := by decide +kernel
theorem dX10_feed_11 : decode cX10_feed 11 = .ok (.iadd, 1) := by decide +kernel
theorem dX10_feed_12 : decode cX10_feed 12 = .ok (.sipush 600, 3) := by decide +kernel
theorem dX10_feed_15 : decode cX10_feed 15 = .ok (.if_icmp .le 5, 3) := by decide +kernel
theorem dX10_feed_18 : decode cX10_feed 18 = .ok (.iconst (-1), 1) := by decide +kernel
theorem dX10_feed_19 : decode cX10_feed 19 = .ok (.ireturn, 1) := by decide +kernel
theorem dX10_feed_20 : decode cX10_feed 20 = .ok (.iconst 0, 1) := by decide +kernel
theorem dX10_feed_21 : decode cX10_feed 21 = .ok (.istore 6, 2) := by decide +kernel
theorem dX10_feed_23 : decode cX10_feed 23 = .ok (.iload 6, 2) := by decide +kernel
theorem dX10_feed_25 : decode cX10_feed 25 = .ok (.bipush 20, 2) := by decide +kernel
theorem dX10_feed_27 : decode cX10_feed 27 = .ok (.if_icmp .ge 93, 3) := by decide +kernel
theorem dX10_feed_30 : decode cX10_feed 30 = .ok (.iload 6, 2) := by decide +kernel
theorem dX10_feed_32 : decode cX10_feed 32 = .ok (.iconst 4, 1) := by decide +kernel
theorem dX10_feed_33 : decode cX10_feed 33 = .ok (.if_icmp .ge 7, 3) := by decide +kernel
theorem dX10_feed_36 : decode cX10_feed 36 = .ok (.iload_n 1, 1) := by decide +kernel
theorem dX10_feed_37 : decode cX10_feed 37 = .ok (.goto 39, 3) := by decide +kernel
theorem dX10_feed_40 : decode cX10_feed 40 = .ok (.iload 6, 2) := by decide +kernel
theorem dX10_feed_42 : decode cX10_feed 42 = .ok (.bipush 8, 2) := by decide +kernel
theorem dX10_feed_44 : decode cX10_feed 44 = .ok (.if_icmp .ge 7, 3) := by decide +kernel
theorem dX10_feed_47 : decode cX10_feed 47 = .ok (.iload_n 2, 1) := by decide +kernel
theorem dX10_feed_48 : decode cX10_feed 48 = .ok (.goto 28, 3) := by decide +kernel
theorem dX10_feed_51 : decode cX10_feed 51 = .ok (.iload 6, 2) := by decide +kernel
theorem dX10_feed_53 : decode cX10_feed 53 = .ok (.bipush 12, 2) := by decide +kernel
theorem dX10_feed_55 : decode cX10_feed 55 = .ok (.if_icmp .ge 7, 3) := by decide +kernel
theorem dX10_feed_58 : decode cX10_feed 58 = .ok (.iload_n 3, 1) := by decide +kernel
theorem dX10_feed_59 : decode cX10_feed 59 = .ok (.goto 17, 3) := by decide +kernel
theorem dX10_feed_62 : decode cX10_feed 62 = .ok (.iload 6, 2) := by decide +kernel
theorem dX10_feed_64 : decode cX10_feed 64 = .ok (.bipush 16, 2) := by decide +kernel
theorem dX10_feed_66 : decode cX10_feed 66 = .ok (.if_icmp .ge 8, 3) := by decide +kernel
theorem dX10_feed_69 : decode cX10_feed 69 = .ok (.iload 4, 2) := by decide +kernel
theorem dX10_feed_71 : decode cX10_feed 71 = .ok (.goto 5, 3) := by decide +kernel
theorem dX10_feed_74 : decode cX10_feed 74 = .ok (.iload 5, 2) := by decide +kernel
theorem dX10_feed_76 : decode cX10_feed 76 = .ok (.istore 7, 2) := by decide +kernel
theorem dX10_feed_78 : decode cX10_feed 78 = .ok (.aload_n 0, 1) := by decide +kernel
theorem dX10_feed_79 : decode cX10_feed 79 = .ok (.getfield 13, 3) := by decide +kernel
theorem dX10_feed_82 : decode cX10_feed 82 = .ok (.aload_n 0, 1) := by decide +kernel
theorem dX10_feed_83 : decode cX10_feed 83 = .ok (.getfield 136, 3) := by decide +kernel
theorem dX10_feed_86 : decode cX10_feed 86 = .ok (.iload 7, 2) := by decide +kernel
theorem dX10_feed_88 : decode cX10_feed 88 = .ok (.bipush 24, 2) := by decide +kernel
theorem dX10_feed_90 : decode cX10_feed 90 = .ok (.bipush 8, 2) := by decide +kernel
theorem dX10_feed_92 : decode cX10_feed 92 = .ok (.iload 6, 2) := by decide +kernel
theorem dX10_feed_94 : decode cX10_feed 94 = .ok (.iconst 4, 1) := by decide +kernel
theorem dX10_feed_95 : decode cX10_feed 95 = .ok (.irem, 1) := by decide +kernel
theorem dX10_feed_96 : decode cX10_feed 96 = .ok (.imul, 1) := by decide +kernel
theorem dX10_feed_97 : decode cX10_feed 97 = .ok (.isub, 1) := by decide +kernel
theorem dX10_feed_98 : decode cX10_feed 98 = .ok (.ishr, 1) := by decide +kernel
theorem dX10_feed_99 : decode cX10_feed 99 = .ok (.sipush 255, 3) := by decide +kernel
theorem dX10_feed_102 : decode cX10_feed 102 = .ok (.iand, 1) := by decide +kernel
theorem dX10_feed_103 : decode cX10_feed 103 = .ok (.iastore, 1) := by decide +kernel
theorem dX10_feed_104 : decode cX10_feed 104 = .ok (.aload_n 0, 1) := by decide +kernel
theorem dX10_feed_105 : decode cX10_feed 105 = .ok (.dup, 1) := by decide +kernel
theorem dX10_feed_106 : decode cX10_feed 106 = .ok (.getfield 136, 3) := by decide +kernel
theorem dX10_feed_109 : decode cX10_feed 109 = .ok (.iconst 1, 1) := by decide +kernel
theorem dX10_feed_110 : decode cX10_feed 110 = .ok (.iadd, 1) := by decide +kernel
theorem dX10_feed_111 : decode cX10_feed 111 = .ok (.putfield 136, 3) := by decide +kernel
theorem dX10_feed_114 : decode cX10_feed 114 = .ok (.iinc 6 1, 3) := by decide +kernel
theorem dX10_feed_117 : decode cX10_feed 117 = .ok (.goto (-94), 3) := by decide +kernel
theorem dX10_feed_120 : decode cX10_feed 120 = .ok (.aload_n 0, 1) := by decide +kernel
theorem dX10_feed_121 : decode cX10_feed 121 = .ok (.getfield 136, 3) := by decide +kernel
theorem dX10_feed_124 : decode cX10_feed 124 = .ok (.ireturn, 1) := by decide +kernel
theorem dX10_byteAt_0 : decode cX10_byteAt 0 = .ok (.iload_n 1, 1) := by decide +kernel
theorem dX10_byteAt_1 : decode cX10_byteAt 1 = .ok (.aload_n 0, 1) := by decide +kernel
theorem dX10_byteAt_2 : decode cX10_byteAt 2 = .ok (.getfield 139, 3) := by decide +kernel
theorem dX10_byteAt_5 : decode cX10_byteAt 5 = .ok (.if_icmp .lt 7, 3) := by decide +kernel
theorem dX10_byteAt_8 : decode cX10_byteAt 8 = .ok (.iconst (-1), 1) := by decide +kernel
theorem dX10_byteAt_9 : decode cX10_byteAt 9 = .ok (.goto 9, 3) := by decide +kernel
theorem dX10_byteAt_12 : decode cX10_byteAt 12 = .ok (.aload_n 0, 1) := by decide +kernel
theorem dX10_byteAt_13 : decode cX10_byteAt 13 = .ok (.getfield 13, 3) := by decide +kernel
theorem dX10_byteAt_16 : decode cX10_byteAt 16 = .ok (.iload_n 1, 1) := by decide +kernel
theorem dX10_byteAt_17 : decode cX10_byteAt 17 = .ok (.iaload, 1) := by decide +kernel
theorem dX10_byteAt_18 : decode cX10_byteAt 18 = .ok (.ireturn, 1) := by decide +kernel
theorem dX10_blanks_0 : decode cX10_blanks 0 = .ok (.aload_n 0, 1) := by decide +kernel
theorem dX10_blanks_1 : decode cX10_blanks 1 = .ok (.aload_n 0, 1) := by decide +kernel
theorem dX10_blanks_2 : decode cX10_blanks 2 = .ok (.getfield 142, 3) := by decide +kernel
theorem dX10_blanks_5 : decode cX10_blanks 5 = .ok (.invokevirtual 145, 3) := by decide +kernel
theorem dX10_blanks_8 : decode cX10_blanks 8 = .ok (.bipush 32, 2) := by decide +kernel
theorem dX10_blanks_10 : decode cX10_blanks 10 = .ok (.if_icmp .ne 16, 3) := by decide +kernel
theorem dX10_blanks_13 : decode cX10_blanks 13 = .ok (.aload_n 0, 1) := by decide +kernel
theorem dX10_blanks_14 : decode cX10_blanks 14 = .ok (.dup, 1) := by decide +kernel
theorem dX10_blanks_15 : decode cX10_blanks 15 = .ok (.getfield 142, 3) := by decide +kernel
theorem dX10_blanks_18 : decode cX10_blanks 18 = .ok (.iconst 1, 1) := by decide +kernel
theorem dX10_blanks_19 : decode cX10_blanks 19 = .ok (.iadd, 1) := by decide +kernel
theorem dX10_blanks_20 : decode cX10_blanks 20 = .ok (.putfield 142, 3) := by decide +kernel
theorem dX10_blanks_23 : decode cX10_blanks 23 = .ok (.goto (-23), 3) := by decide +kernel
theorem dX10_blanks_26 : decode cX10_blanks 26 = .ok (.return_, 1) := by decide +kernel
theorem dX10_wrong_0 : decode cX10_wrong 0 = .ok (.aload_n 0, 1) := by decide +kernel
theorem dX10_wrong_1 : decode cX10_wrong 1 = .ok (.getfield 149, 3) := by decide +kernel
theorem dX10_wrong_4 : decode cX10_wrong 4 = .ok (.ifCond .ne 13, 3) := by decide +kernel
theorem dX10_wrong_7 : decode cX10_wrong 7 = .ok (.aload_n 0, 1) := by decide +kernel
theorem dX10_wrong_8 : decode cX10_wrong 8 = .ok (.iload_n 1, 1) := by decide +kernel
theorem dX10_wrong_9 : decode cX10_wrong 9 = .ok (.putfield 149, 3) := by decide +kernel
theorem dX10_wrong_12 : decode cX10_wrong 12 = .ok (.aload_n 0, 1) := by decide +kernel
theorem dX10_wrong_13 : decode cX10_wrong 13 = .ok (.iload_n 2, 1) := by decide +kernel
theorem dX10_wrong_14 : decode cX10_wrong 14 = .ok (.putfield 152, 3) := by decide +kernel
theorem dX10_wrong_17 : decode cX10_wrong 17 = .ok (.return_, 1) := by decide +kernel
theorem dX10_isDigit_0 : decode cX10_isDigit 0 = .ok (.iload_n 0, 1) := by decide +kernel
theorem dX10_isDigit_1 : decode cX10_isDigit 1 = .ok (.bipush 48, 2) := by decide +kernel
theorem dX10_isDigit_3 : decode cX10_isDigit 3 = .ok (.if_icmp .lt 13, 3) := by decide +kernel
theorem dX10_isDigit_6 : decode cX10_isDigit 6 = .ok (.iload_n 0, 1) := by decide +kernel
theorem dX10_isDigit_7 : decode cX10_isDigit 7 = .ok (.bipush 57, 2) := by decide +kernel
theorem dX10_isDigit_9 : decode cX10_isDigit 9 = .ok (.if_icmp .gt 7, 3) := by decide +kernel
theorem dX10_isDigit_12 : decode cX10_isDigit 12 = .ok (.iconst 1, 1) := by decide +kernel
theorem dX10_isDigit_13 : decode cX10_isDigit 13 = .ok (.goto 4, 3) := by decide +kernel
theorem dX10_isDigit_16 : decode cX10_isDigit 16 = .ok (.iconst 0, 1) := by decide +kernel
theorem dX10_isDigit_17 : decode cX10_isDigit 17 = .ok (.ireturn, 1) := by decide +kernel
theorem dX10_isSmall_0 : decode cX10_isSmall 0 = .ok (.iload_n 0, 1) := by decide +kernel
theorem dX10_isSmall_1 : decode cX10_isSmall 1 = .ok (.bipush 97, 2) := by decide +kernel
theorem dX10_isSmall_3 : decode cX10_isSmall 3 = .ok (.if_icmp .lt 13, 3) := by decide +kernel
theorem dX10_isSmall_6 : decode cX10_isSmall 6 = .ok (.iload_n 0, 1) := by decide +kernel
theorem dX10_isSmall_7 : decode cX10_isSmall 7 = .ok (.bipush 122, 2) := by decide +kernel
theorem dX10_isSmall_9 : decode cX10_isSmall 9 = .ok (.if_icmp .gt 7, 3) := by decide +kernel
theorem dX10_isSmall_12 : decode cX10_isSmall 12 = .ok (.iconst 1, 1) := by decide +kernel
theorem dX10_isSmall_13 : decode cX10_isSmall 13 = .ok (.goto 4, 3) := by decide +kernel
theorem dX10_isSmall_16 : decode cX10_isSmall 16 = .ok (.iconst 0, 1) := by decide +kernel
theorem dX10_isSmall_17 : decode cX10_isSmall 17 = .ok (.ireturn, 1) := by decide +kernel
theorem dX10_number_0 : decode cX10_number 0 = .ok (.aload_n 0, 1) := by decide +kernel
theorem dX10_number_1 : decode cX10_number 1 = .ok (.getfield 149, 3) := by decide +kernel
theorem dX10_number_4 : decode cX10_number 4 = .ok (.ifCond .eq 5, 3) := by decide +kernel
theorem dX10_number_7 : decode cX10_number 7 = .ok (.iconst 0, 1) := by decide +kernel
theorem dX10_number_8 : decode cX10_number 8 = .ok (.ireturn, 1) := by decide +kernel
theorem dX10_number_9 : decode cX10_number 9 = .ok (.aload_n 0, 1) := by decide +kernel
theorem dX10_number_10 : decode cX10_number 10 = .ok (.invokevirtual 155, 3) := by decide +kernel
theorem dX10_number_13 : decode cX10_number 13 = .ok (.aload_n 0, 1) := by decide +kernel
theorem dX10_number_14 : decode cX10_number 14 = .ok (.getfield 142, 3) := by decide +kernel
theorem dX10_number_17 : decode cX10_number 17 = .ok (.istore_n 3, 1) := by decide +kernel
theorem dX10_number_18 : decode cX10_number 18 = .ok (.iconst 0, 1) := by decide +kernel
theorem dX10_number_19 : decode cX10_number 19 = .ok (.istore 4, 2) := by decide +kernel
theorem dX10_number_21 : decode cX10_number 21 = .ok (.aload_n 0, 1) := by decide +kernel
theorem dX10_number_22 : decode cX10_number 22 = .ok (.aload_n 0, 1) := by decide +kernel
theorem dX10_number_23 : decode cX10_number 23 = .ok (.getfield 142, 3) := by decide +kernel
theorem dX10_number_26 : decode cX10_number 26 = .ok (.invokevirtual 145, 3) := by decide +kernel
theorem dX10_number_29 : decode cX10_number 29 = .ok (.invokestatic 158, 3) := by decide +kernel
theorem dX10_number_32 : decode cX10_number 32 = .ok (.ifCond .ne 12, 3) := by decide +kernel
theorem dX10_number_35 : decode cX10_number 35 = .ok (.aload_n 0, 1) := by decide +kernel
theorem dX10_number_36 : decode cX10_number 36 = .ok (.iconst 1, 1) := by decide +kernel
theorem dX10_number_37 : decode cX10_number 37 = .ok (.aload_n 0, 1) := by decide +kernel
theorem dX10_number_38 : decode cX10_number 38 = .ok (.getfield 142, 3) := by decide +kernel
theorem dX10_number_41 : decode cX10_number 41 = .ok (.invokevirtual 162, 3) := by decide +kernel
theorem dX10_number_44 : decode cX10_number 44 = .ok (.aload_n 0, 1) := by decide +kernel
theorem dX10_number_45 : decode cX10_number 45 = .ok (.aload_n 0, 1) := by decide +kernel
theorem dX10_number_46 : decode cX10_number 46 = .ok (.getfield 142, 3) := by decide +kernel
theorem dX10_number_49 : decode cX10_number 49 = .ok (.invokevirtual 145, 3) := by decide +kernel
theorem dX10_number_52 : decode cX10_number 52 = .ok (.invokestatic 158, 3) := by decide +kernel
theorem dX10_number_55 : decode cX10_number 55 = .ok (.ifCond .eq 51, 3) := by decide +kernel
theorem dX10_number_58 : decode cX10_number 58 = .ok (.bipush 10, 2) := by decide +kernel
theorem dX10_number_60 : decode cX10_number 60 = .ok (.iload 4, 2) := by decide +kernel
theorem dX10_number_62 : decode cX10_number 62 = .ok (.imul, 1) := by decide +kernel
theorem dX10_number_63 : decode cX10_number 63 = .ok (.aload_n 0, 1) := by decide +kernel
theorem dX10_number_64 : decode cX10_number 64 = .ok (.aload_n 0, 1) := by decide +kernel
theorem dX10_number_65 : decode cX10_number 65 = .ok (.getfield 142, 3) := by decide +kernel
theorem dX10_number_68 : decode cX10_number 68 = .ok (.invokevirtual 145, 3) := by decide +kernel
theorem dX10_number_71 : decode cX10_number 71 = .ok (.iadd, 1) := by decide +kernel
theorem dX10_number_72 : decode cX10_number 72 = .ok (.bipush 48, 2) := by decide +kernel
theorem dX10_number_74 : decode cX10_number 74 = .ok (.isub, 1) := by decide +kernel
theorem dX10_number_75 : decode cX10_number 75 = .ok (.istore 4, 2) := by decide +kernel
theorem dX10_number_77 : decode cX10_number 77 = .ok (.iload 4, 2) := by decide +kernel
theorem dX10_number_79 : decode cX10_number 79 = .ok (.ldc 166, 2) := by decide +kernel
theorem dX10_number_81 : decode cX10_number 81 = .ok (.if_icmp .le 8, 3) := by decide +kernel
theorem dX10_number_84 : decode cX10_number 84 = .ok (.ldc 166, 2) := by decide +kernel
theorem dX10_number_86 : decode cX10_number 86 = .ok (.goto 5, 3) := by decide +kernel
theorem dX10_number_89 : decode cX10_number 89 = .ok (.iload 4, 2) := by decide +kernel
theorem dX10_number_91 : decode cX10_number 91 = .ok (.istore 4, 2) := by decide +kernel
theorem dX10_number_93 : decode cX10_number 93 = .ok (.aload_n 0, 1) := by decide +kernel
theorem dX10_number_94 : decode cX10_number 94 = .ok (.dup, 1) := by decide +kernel
theorem dX10_number_95 : decode cX10_number 95 = .ok (.getfield 142, 3) := by decide +kernel
theorem dX10_number_98 : decode cX10_number 98 = .ok (.iconst 1, 1) := by decide +kernel
theorem dX10_number_99 : decode cX10_number 99 = .ok (.iadd, 1) := by decide +kernel
theorem dX10_number_100 : decode cX10_number 100 = .ok (.putfield 142, 3) := by decide +kernel
theorem dX10_number_103 : decode cX10_number 103 = .ok (.goto (-59), 3) := by decide +kernel
theorem dX10_number_106 : decode cX10_number 106 = .ok (.iload 4, 2) := by decide +kernel
theorem dX10_number_108 : decode cX10_number 108 = .ok (.iload_n 1, 1) := by decide +kernel
theorem dX10_number_109 : decode cX10_number 109 = .ok (.iload_n 2, 1) := by decide +kernel
theorem dX10_number_110 : decode cX10_number 110 = .ok (.invokestatic 167, 3) := by decide +kernel
theorem dX10_number_113 : decode cX10_number 113 = .ok (.ifCond .ne 9, 3) := by decide +kernel
theorem dX10_number_116 : decode cX10_number 116 = .ok (.aload_n 0, 1) := by decide +kernel
theorem dX10_number_117 : decode cX10_number 117 = .ok (.iconst 2, 1) := by decide +kernel
theorem dX10_number_118 : decode cX10_number 118 = .ok (.iload_n 3, 1) := by decide +kernel
theorem dX10_number_119 : decode cX10_number 119 = .ok (.invokevirtual 162, 3) := by decide +kernel
theorem dX10_number_122 : decode cX10_number 122 = .ok (.aload_n 0, 1) := by decide +kernel
theorem dX10_number_123 : decode cX10_number 123 = .ok (.getfield 149, 3) := by decide +kernel
theorem dX10_number_126 : decode cX10_number 126 = .ok (.ifCond .ne 8, 3) := by decide +kernel
theorem dX10_number_129 : decode cX10_number 129 = .ok (.iload 4, 2) := by decide +kernel
theorem dX10_number_131 : decode cX10_number 131 = .ok (.goto 4, 3) := by decide +kernel
theorem dX10_number_134 : decode cX10_number 134 = .ok (.iconst 0, 1) := by decide +kernel
theorem dX10_number_135 : decode cX10_number 135 = .ok (.ireturn, 1) := by decide +kernel
theorem dX10_wordHere_0 : decode cX10_wordHere 0 = .ok (.aload_n 0, 1) := by decide +kernel
theorem dX10_wordHere_1 : decode cX10_wordHere 1 = .ok (.invokevirtual 155, 3) := by decide +kernel
theorem dX10_wordHere_4 : decode cX10_wordHere 4 = .ok (.iconst 0, 1) := by decide +kernel
theorem dX10_wordHere_5 : decode cX10_wordHere 5 = .ok (.istore_n 1, 1) := by decide +kernel
theorem dX10_wordHere_6 : decode cX10_wordHere 6 = .ok (.iconst 0, 1) := by decide +kernel
theorem dX10_wordHere_7 : decode cX10_wordHere 7 = .ok (.istore_n 2, 1) := by decide +kernel
theorem dX10_wordHere_8 : decode cX10_wordHere 8 = .ok (.aload_n 0, 1) := by decide +kernel
theorem dX10_wordHere_9 : decode cX10_wordHere 9 = .ok (.aload_n 0, 1) := by decide +kernel
theorem dX10_wordHere_10 : decode cX10_wordHere 10 = .ok (.getfield 142, 3) := by decide +kernel
theorem dX10_wordHere_13 : decode cX10_wordHere 13 = .ok (.iload_n 2, 1) := by decide +kernel
theorem dX10_wordHere_14 : decode cX10_wordHere 14 = .ok (.iadd, 1) := by decide +kernel
theorem dX10_wordHere_15 : decode cX10_wordHere 15 = .ok (.invokevirtual 145, 3) := by decide +kernel
theorem dX10_wordHere_18 : decode cX10_wordHere 18 = .ok (.invokestatic 171, 3) := by decide +kernel
theorem dX10_wordHere_21 : decode cX10_wordHere 21 = .ok (.ifCond .eq 40, 3) := by decide +kernel
theorem dX10_wordHere_24 : decode cX10_wordHere 24 = .ok (.iload_n 2, 1) := by decide +kernel
theorem dX10_wordHere_25 : decode cX10_wordHere 25 = .ok (.bipush 6, 2) := by decide +kernel
theorem dX10_wordHere_27 : decode cX10_wordHere 27 = .ok (.if_icmp .ge 26, 3) := by decide +kernel
theorem dX10_wordHere_30 : decode cX10_wordHere 30 = .ok (.bipush 27, 2) := by decide +kernel
theorem dX10_wordHere_32 : decode cX10_wordHere 32 = .ok (.iload_n 1, 1) := by decide +kernel
theorem dX10_wordHere_33 : decode cX10_wordHere 33 = .ok (.imul, 1) := by decide +kernel
theorem dX10_wordHere_34 : decode cX10_wordHere 34 = .ok (.aload_n 0, 1) := by decide +kernel
theorem dX10_wordHere_35 : decode cX10_wordHere 35 = .ok (.aload_n 0, 1) := by decide +kernel
theorem dX10_wordHere_36 : decode cX10_wordHere 36 = .ok (.getfield 142, 3) := by decide +kernel
theorem dX10_wordHere_39 : decode cX10_wordHere 39 = .ok (.iload_n 2, 1) := by decide +kernel
theorem dX10_wordHere_40 : decode cX10_wordHere 40 = .ok (.iadd, 1) := by decide +kernel
theorem dX10_wordHere_41 : decode cX10_wordHere 41 = .ok (.invokevirtual 145, 3) := by decide +kernel
theorem dX10_wordHere_44 : decode cX10_wordHere 44 = .ok (.iadd, 1) := by decide +kernel
theorem dX10_wordHere_45 : decode cX10_wordHere 45 = .ok (.bipush 97, 2) := by decide +kernel
theorem dX10_wordHere_47 : decode cX10_wordHere 47 = .ok (.isub, 1) := by decide +kernel
theorem dX10_wordHere_48 : decode cX10_wordHere 48 = .ok (.iconst 1, 1) := by decide +kernel
theorem dX10_wordHere_49 : decode cX10_wordHere 49 = .ok (.iadd, 1) := by decide +kernel
theorem dX10_wordHere_50 : decode cX10_wordHere 50 = .ok (.goto 4, 3) := by decide +kernel
theorem dX10_wordHere_53 : decode cX10_wordHere 53 = .ok (.iload_n 1, 1) := by decide +kernel
theorem dX10_wordHere_54 : decode cX10_wordHere 54 = .ok (.istore_n 1, 1) := by decide +kernel
theorem dX10_wordHere_55 : decode cX10_wordHere 55 = .ok (.iinc 2 1, 3) := by decide +kernel
theorem dX10_wordHere_58 : decode cX10_wordHere 58 = .ok (.goto (-50), 3) := by decide +kernel
theorem dX10_wordHere_61 : decode cX10_wordHere 61 = .ok (.iload_n 2, 1) := by decide +kernel
theorem dX10_wordHere_62 : decode cX10_wordHere 62 = .ok (.bipush 6, 2) := by decide +kernel
theorem dX10_wordHere_64 : decode cX10_wordHere 64 = .ok (.if_icmp .le 7, 3) := by decide +kernel
theorem dX10_wordHere_67 : decode cX10_wordHere 67 = .ok (.iconst (-1), 1) := by decide +kernel
theorem dX10_wordHere_68 : decode cX10_wordHere 68 = .ok (.goto 4, 3) := by decide +kernel
theorem dX10_wordHere_71 : decode cX10_wordHere 71 = .ok (.iload_n 1, 1) := by decide +kernel
theorem dX10_wordHere_72 : decode cX10_wordHere 72 = .ok (.ireturn, 1) := by decide +kernel
theorem dX10_six_0 : decode cX10_six 0 = .ok (.bipush 27, 2) := by decide +kernel
theorem dX10_six_2 : decode cX10_six 2 = .ok (.bipush 27, 2) := by decide +kernel
theorem dX10_six_4 : decode cX10_six 4 = .ok (.iload_n 0, 1) := by decide +kernel
theorem dX10_six_5 : decode cX10_six 5 = .ok (.imul, 1) := by decide +kernel
theorem dX10_six_6 : decode cX10_six 6 = .ok (.iload_n 1, 1) := by decide +kernel
theorem dX10_six_7 : decode cX10_six 7 = .ok (.iadd, 1) := by decide +kernel
theorem dX10_six_8 : decode cX10_six 8 = .ok (.imul, 1) := by decide +kernel
theorem dX10_six_9 : decode cX10_six 9 = .ok (.iload_n 2, 1) := by decide +kernel
theorem dX10_six_10 : decode cX10_six 10 = .ok (.iadd, 1) := by decide +kernel
theorem dX10_six_11 : decode cX10_six 11 = .ok (.istore 6, 2) := by decide +kernel
theorem dX10_six_13 : decode cX10_six 13 = .ok (.iload_n 3, 1) := by decide +kernel
theorem dX10_six_14 : decode cX10_six 14 = .ok (.ifCond .ne 8, 3) := by decide +kernel
theorem dX10_six_17 : decode cX10_six 17 = .ok (.iload 6, 2) := by decide +kernel
theorem dX10_six_19 : decode cX10_six 19 = .ok (.goto 10, 3) := by decide +kernel
theorem dX10_six_22 : decode cX10_six 22 = .ok (.bipush 27, 2) := by decide +kernel
theorem dX10_six_24 : decode cX10_six 24 = .ok (.iload 6, 2) := by decide +kernel
theorem dX10_six_26 : decode cX10_six 26 = .ok (.imul, 1) := by decide +kernel
theorem dX10_six_27 : decode cX10_six 27 = .ok (.iload_n 3, 1) := by decide +kernel
theorem dX10_six_28 : decode cX10_six 28 = .ok (.iadd, 1) := by decide +kernel
theorem dX10_six_29 : decode cX10_six 29 = .ok (.istore 6, 2) := by decide +kernel
theorem dX10_six_31 : decode cX10_six 31 = .ok (.iload 4, 2) := by decide +kernel
theorem dX10_six_33 : decode cX10_six 33 = .ok (.ifCond .ne 8, 3) := by decide +kernel
theorem dX10_six_36 : decode cX10_six 36 = .ok (.iload 6, 2) := by decide +kernel
theorem dX10_six_38 : decode cX10_six 38 = .ok (.goto 11, 3) := by decide +kernel
theorem dX10_six_41 : decode cX10_six 41 = .ok (.bipush 27, 2) := by decide +kernel
theorem dX10_six_43 : decode cX10_six 43 = .ok (.iload 6, 2) := by decide +kernel
theorem dX10_six_45 : decode cX10_six 45 = .ok (.imul, 1) := by decide +kernel
theorem dX10_six_46 : decode cX10_six 46 = .ok (.iload 4, 2) := by decide +kernel
theorem dX10_six_48 : decode cX10_six 48 = .ok (.iadd, 1) := by decide +kernel
theorem dX10_six_49 : decode cX10_six 49 = .ok (.istore 6, 2) := by decide +kernel
theorem dX10_six_51 : decode cX10_six 51 = .ok (.iload 5, 2) := by decide +kernel
theorem dX10_six_53 : decode cX10_six 53 = .ok (.ifCond .ne 8, 3) := by decide +kernel
theorem dX10_six_56 : decode cX10_six 56 = .ok (.iload 6, 2) := by decide +kernel
theorem dX10_six_58 : decode cX10_six 58 = .ok (.goto 11, 3) := by decide +kernel
theorem dX10_six_61 : decode cX10_six 61 = .ok (.bipush 27, 2) := by decide +kernel
theorem dX10_six_63 : decode cX10_six 63 = .ok (.iload 6, 2) := by decide +kernel
theorem dX10_six_65 : decode cX10_six 65 = .ok (.imul, 1) := by decide +kernel
theorem dX10_six_66 : decode cX10_six 66 = .ok (.iload 5, 2) := by decide +kernel
theorem dX10_six_68 : decode cX10_six 68 = .ok (.iadd, 1) := by decide +kernel
theorem dX10_six_69 : decode cX10_six 69 = .ok (.ireturn, 1) := by decide +kernel
theorem dX10_isWord_0 : decode cX10_isWord 0 = .ok (.aload_n 0, 1) := by decide +kernel
theorem dX10_isWord_1 : decode cX10_isWord 1 = .ok (.getfield 149, 3) := by decide +kernel
theorem dX10_isWord_4 : decode cX10_isWord 4 = .ok (.ifCond .ne 26, 3) := by decide +kernel
theorem dX10_isWord_7 : decode cX10_isWord 7 = .ok (.aload_n 0, 1) := by decide +kernel
theorem dX10_isWord_8 : decode cX10_isWord 8 = .ok (.invokevirtual 174, 3) := by decide +kernel
theorem dX10_isWord_11 : decode cX10_isWord 11 = .ok (.iload_n 1, 1) := by decide +kernel
theorem dX10_isWord_12 : decode cX10_isWord 12 = .ok (.iload_n 2, 1) := by decide +kernel
theorem dX10_isWord_13 : decode cX10_isWord 13 = .ok (.iload_n 3, 1) := by decide +kernel
theorem dX10_isWord_14 : decode cX10_isWord 14 = .ok (.iload 4, 2) := by decide +kernel
theorem dX10_isWord_16 : decode cX10_isWord 16 = .ok (.iload 5, 2) := by decide +kernel
theorem dX10_isWord_18 : decode cX10_isWord 18 = .ok (.iload 6, 2) := by decide +kernel
theorem dX10_isWord_20 : decode cX10_isWord 20 = .ok (.invokestatic 178, 3) := by decide +kernel
theorem dX10_isWord_23 : decode cX10_isWord 23 = .ok (.if_icmp .ne 7, 3) := by decide +kernel
theorem dX10_isWord_26 : decode cX10_isWord 26 = .ok (.iconst 1, 1) := by decide +kernel
theorem dX10_isWord_27 : decode cX10_isWord 27 = .ok (.goto 4, 3) := by decide +kernel
theorem dX10_isWord_30 : decode cX10_isWord 30 = .ok (.iconst 0, 1) := by decide +kernel
theorem dX10_isWord_31 : decode cX10_isWord 31 = .ok (.ireturn, 1) := by decide +kernel
theorem dX10_skipWord_0 : decode cX10_skipWord 0 = .ok (.aload_n 0, 1) := by decide +kernel
theorem dX10_skipWord_1 : decode cX10_skipWord 1 = .ok (.aload_n 0, 1) := by decide +kernel
theorem dX10_skipWord_2 : decode cX10_skipWord 2 = .ok (.getfield 142, 3) := by decide +kernel
theorem dX10_skipWord_5 : decode cX10_skipWord 5 = .ok (.invokevirtual 145, 3) := by decide +kernel
theorem dX10_skipWord_8 : decode cX10_skipWord 8 = .ok (.invokestatic 171, 3) := by decide +kernel
theorem dX10_skipWord_11 : decode cX10_skipWord 11 = .ok (.ifCond .eq 16, 3) := by decide +kernel
theorem dX10_skipWord_14 : decode cX10_skipWord 14 = .ok (.aload_n 0, 1) := by decide +kernel
theorem dX10_skipWord_15 : decode cX10_skipWord 15 = .ok (.dup, 1) := by decide +kernel
theorem dX10_skipWord_16 : decode cX10_skipWord 16 = .ok (.getfield 142, 3) := by decide +kernel
theorem dX10_skipWord_19 : decode cX10_skipWord 19 = .ok (.iconst 1, 1) := by decide +kernel
theorem dX10_skipWord_20 : decode cX10_skipWord 20 = .ok (.iadd, 1) := by decide +kernel
theorem dX10_skipWord_21 : decode cX10_skipWord 21 = .ok (.putfield 142, 3) := by decide +kernel
theorem dX10_skipWord_24 : decode cX10_skipWord 24 = .ok (.goto (-24), 3) := by decide +kernel
theorem dX10_skipWord_27 : decode cX10_skipWord 27 = .ok (.return_, 1) := by decide +kernel
theorem dX10_takes_0 : decode cX10_takes 0 = .ok (.aload_n 0, 1) := by decide +kernel
theorem dX10_takes_1 : decode cX10_takes 1 = .ok (.iload_n 1, 1) := by decide +kernel
theorem dX10_takes_2 : decode cX10_takes 2 = .ok (.iload_n 2, 1) := by decide +kernel
theorem dX10_takes_3 : decode cX10_takes 3 = .ok (.iload_n 3, 1) := by decide +kernel
theorem dX10_takes_4 : decode cX10_takes 4 = .ok (.iload 4, 2) := by decide +kernel
theorem dX10_takes_6 : decode cX10_takes 6 = .ok (.iload 5, 2) := by decide +kernel
theorem dX10_takes_8 : decode cX10_takes 8 = .ok (.iload 6, 2) := by decide +kernel
theorem dX10_takes_10 : decode cX10_takes 10 = .ok (.invokevirtual 182, 3) := by decide +kernel
theorem dX10_takes_13 : decode cX10_takes 13 = .ok (.istore 7, 2) := by decide +kernel
theorem dX10_takes_15 : decode cX10_takes 15 = .ok (.iload 7, 2) := by decide +kernel
theorem dX10_takes_17 : decode cX10_takes 17 = .ok (.ifCond .eq 7, 3) := by decide +kernel
theorem dX10_takes_20 : decode cX10_takes 20 = .ok (.aload_n 0, 1) := by decide +kernel
theorem dX10_takes_21 : decode cX10_takes 21 = .ok (.invokevirtual 186, 3) := by decide +kernel
theorem dX10_takes_24 : decode cX10_takes 24 = .ok (.iload 7, 2) := by decide +kernel
theorem dX10_takes_26 : decode cX10_takes 26 = .ok (.ireturn, 1) := by decide +kernel
theorem dX10_sign_0 : decode cX10_sign 0 = .ok (.aload_n 0, 1) := by decide +kernel
theorem dX10_sign_1 : decode cX10_sign 1 = .ok (.getfield 149, 3) := by decide +kernel
theorem dX10_sign_4 : decode cX10_sign 4 = .ok (.ifCond .eq 4, 3) := by decide +kernel
theorem dX10_sign_7 : decode cX10_sign 7 = .ok (.return_, 1) := by decide +kernel
theorem dX10_sign_8 : decode cX10_sign 8 = .ok (.aload_n 0, 1) := by decide +kernel
theorem dX10_sign_9 : decode cX10_sign 9 = .ok (.invokevirtual 155, 3) := by decide +kernel
theorem dX10_sign_12 : decode cX10_sign 12 = .ok (.aload_n 0, 1) := by decide +kernel
theorem dX10_sign_13 : decode cX10_sign 13 = .ok (.aload_n 0, 1) := by decide +kernel
theorem dX10_sign_14 : decode cX10_sign 14 = .ok (.getfield 142, 3) := by decide +kernel
theorem dX10_sign_17 : decode cX10_sign 17 = .ok (.invokevirtual 145, 3) := by decide +kernel
theorem dX10_sign_20 : decode cX10_sign 20 = .ok (.iload_n 1, 1) := by decide +kernel
theorem dX10_sign_21 : decode cX10_sign 21 = .ok (.if_icmp .ne 16, 3) := by decide +kernel
theorem dX10_sign_24 : decode cX10_sign 24 = .ok (.aload_n 0, 1) := by decide +kernel
theorem dX10_sign_25 : decode cX10_sign 25 = .ok (.dup, 1) := by decide +kernel
theorem dX10_sign_26 : decode cX10_sign 26 = .ok (.getfield 142, 3) := by decide +kernel
theorem dX10_sign_29 : decode cX10_sign 29 = .ok (.iconst 1, 1) := by decide +kernel
theorem dX10_sign_30 : decode cX10_sign 30 = .ok (.iadd, 1) := by decide +kernel
theorem dX10_sign_31 : decode cX10_sign 31 = .ok (.putfield 142, 3) := by decide +kernel
theorem dX10_sign_34 : decode cX10_sign 34 = .ok (.goto 12, 3) := by decide +kernel
theorem dX10_sign_37 : decode cX10_sign 37 = .ok (.aload_n 0, 1) := by decide +kernel
theorem dX10_sign_38 : decode cX10_sign 38 = .ok (.iconst 1, 1) := by decide +kernel
theorem dX10_sign_39 : decode cX10_sign 39 = .ok (.aload_n 0, 1) := by decide +kernel
theorem dX10_sign_40 : decode cX10_sign 40 = .ok (.getfield 142, 3) := by decide +kernel
theorem dX10_sign_43 : decode cX10_sign 43 = .ok (.invokevirtual 162, 3) := by decide +kernel
theorem dX10_sign_46 : decode cX10_sign 46 = .ok (.return_, 1) := by decide +kernel
theorem dX10_takesSign_0 : decode cX10_takesSign 0 = .ok (.aload_n 0, 1) := by decide +kernel
theorem dX10_takesSign_1 : decode cX10_takesSign 1 = .ok (.getfield 149, 3) := by decide +kernel
theorem dX10_takesSign_4 : decode cX10_takesSign 4 = .ok (.ifCond .eq 5, 3) := by decide +kernel
theorem dX10_takesSign_7 : decode cX10_takesSign 7 = .ok (.iconst 0, 1) := by decide +kernel
theorem dX10_takesSign_8 : decode cX10_takesSign 8 = .ok (.ireturn, 1) := by decide +kernel
theorem dX10_takesSign_9 : decode cX10_takesSign 9 = .ok (.aload_n 0, 1) := by decide +kernel
theorem dX10_takesSign_10 : decode cX10_takesSign 10 = .ok (.invokevirtual 155, 3) := by decide +kernel
theorem dX10_takesSign_13 : decode cX10_takesSign 13 = .ok (.aload_n 0, 1) := by decide +kernel
theorem dX10_takesSign_14 : decode cX10_takesSign 14 = .ok (.aload_n 0, 1) := by decide +kernel
theorem dX10_takesSign_15 : decode cX10_takesSign 15 = .ok (.getfield 142, 3) := by decide +kernel
theorem dX10_takesSign_18 : decode cX10_takesSign 18 = .ok (.invokevirtual 145, 3) := by decide +kernel
theorem dX10_takesSign_21 : decode cX10_takesSign 21 = .ok (.iload_n 1, 1) := by decide +kernel
theorem dX10_takesSign_22 : decode cX10_takesSign 22 = .ok (.if_icmp .ne 7, 3) := by decide +kernel
theorem dX10_takesSign_25 : decode cX10_takesSign 25 = .ok (.iconst 1, 1) := by decide +kernel
theorem dX10_takesSign_26 : decode cX10_takesSign 26 = .ok (.goto 4, 3) := by decide +kernel
theorem dX10_takesSign_29 : decode cX10_takesSign 29 = .ok (.iconst 0, 1) := by decide +kernel
theorem dX10_takesSign_30 : decode cX10_takesSign 30 = .ok (.istore_n 2, 1) := by decide +kernel
theorem dX10_takesSign_31 : decode cX10_takesSign 31 = .ok (.iload_n 2, 1) := by decide +kernel
theorem dX10_takesSign_32 : decode cX10_takesSign 32 = .ok (.ifCond .eq 13, 3) := by decide +kernel
theorem dX10_takesSign_35 : decode cX10_takesSign 35 = .ok (.aload_n 0, 1) := by decide +kernel
theorem dX10_takesSign_36 : decode cX10_takesSign 36 = .ok (.dup, 1) := by decide +kernel
theorem dX10_takesSign_37 : decode cX10_takesSign 37 = .ok (.getfield 142, 3) := by decide +kernel
theorem dX10_takesSign_40 : decode cX10_takesSign 40 = .ok (.iconst 1, 1) := by decide +kernel
theorem dX10_takesSign_41 : decode cX10_takesSign 41 = .ok (.iadd, 1) := by decide +kernel
theorem dX10_takesSign_42 : decode cX10_takesSign 42 = .ok (.putfield 142, 3) := by decide +kernel
theorem dX10_takesSign_45 : decode cX10_takesSign 45 = .ok (.iload_n 2, 1) := by decide +kernel
theorem dX10_takesSign_46 : decode cX10_takesSign 46 = .ok (.ireturn, 1) := by decide +kernel
theorem dX10_starts_0 : decode cX10_starts 0 = .ok (.aload_n 0, 1) := by decide +kernel
theorem dX10_starts_1 : decode cX10_starts 1 = .ok (.iconst 0, 1) := by decide +kernel
theorem dX10_starts_2 : decode cX10_starts 2 = .ok (.putfield 136, 3) := by decide +kernel
theorem dX10_starts_5 : decode cX10_starts 5 = .ok (.aload_n 0, 1) := by decide +kernel
theorem dX10_starts_6 : decode cX10_starts 6 = .ok (.iload_n 1, 1) := by decide +kernel
theorem dX10_starts_7 : decode cX10_starts 7 = .ok (.putfield 139, 3) := by decide +kernel
theorem dX10_starts_10 : decode cX10_starts 10 = .ok (.aload_n 0, 1) := by decide +kernel
theorem dX10_starts_11 : decode cX10_starts 11 = .ok (.iconst 0, 1) := by decide +kernel
theorem dX10_starts_12 : decode cX10_starts 12 = .ok (.putfield 142, 3) := by decide +kernel
theorem dX10_starts_15 : decode cX10_starts 15 = .ok (.aload_n 0, 1) := by decide +kernel
theorem dX10_starts_16 : decode cX10_starts 16 = .ok (.iconst 0, 1) := by decide +kernel
theorem dX10_starts_17 : decode cX10_starts 17 = .ok (.putfield 149, 3) := by decide +kernel
theorem dX10_starts_20 : decode cX10_starts 20 = .ok (.aload_n 0, 1) := by decide +kernel
theorem dX10_starts_21 : decode cX10_starts 21 = .ok (.iconst (-1), 1) := by decide +kernel
theorem dX10_starts_22 : decode cX10_starts 22 = .ok (.putfield 152, 3) := by decide +kernel
theorem dX10_starts_25 : decode cX10_starts 25 = .ok (.aload_n 0, 1) := by decide +kernel
theorem dX10_starts_26 : decode cX10_starts 26 = .ok (.iconst 0, 1) := by decide +kernel
theorem dX10_starts_27 : decode cX10_starts 27 = .ok (.putfield 189, 3) := by decide +kernel
theorem dX10_starts_30 : decode cX10_starts 30 = .ok (.aload_n 0, 1) := by decide +kernel
theorem dX10_starts_31 : decode cX10_starts 31 = .ok (.iconst 0, 1) := by decide +kernel
theorem dX10_starts_32 : decode cX10_starts 32 = .ok (.putfield 192, 3) := by decide +kernel
theorem dX10_starts_35 : decode cX10_starts 35 = .ok (.aload_n 0, 1) := by decide +kernel
theorem dX10_starts_36 : decode cX10_starts 36 = .ok (.invokevirtual 155, 3) := by decide +kernel
theorem dX10_starts_39 : decode cX10_starts 39 = .ok (.return_, 1) := by decide +kernel
theorem dX10_ends_0 : decode cX10_ends 0 = .ok (.aload_n 0, 1) := by decide +kernel
theorem dX10_ends_1 : decode cX10_ends 1 = .ok (.aload_n 0, 1) := by decide +kernel
theorem dX10_ends_2 : decode cX10_ends 2 = .ok (.getfield 152, 3) := by decide +kernel
theorem dX10_ends_5 : decode cX10_ends 5 = .ok (.putfield 9, 3) := by decide +kernel
theorem dX10_ends_8 : decode cX10_ends 8 = .ok (.aload_n 0, 1) := by decide +kernel
theorem dX10_ends_9 : decode cX10_ends 9 = .ok (.getfield 149, 3) := by decide +kernel
theorem dX10_ends_12 : decode cX10_ends 12 = .ok (.bipush 10, 2) := by decide +kernel
theorem dX10_ends_14 : decode cX10_ends 14 = .ok (.isub, 1) := by decide +kernel
theorem dX10_ends_15 : decode cX10_ends 15 = .ok (.ireturn, 1) := by decide +kernel
theorem dX10_kindHere_0 : decode cX10_kindHere 0 = .ok (.aload_n 0, 1) := by decide +kernel
theorem dX10_kindHere_1 : decode cX10_kindHere 1 = .ok (.bipush 12, 2) := by decide +kernel
theorem dX10_kindHere_3 : decode cX10_kindHere 3 = .ok (.iconst 5, 1) := by decide +kernel
theorem dX10_kindHere_4 : decode cX10_kindHere 4 = .ok (.bipush 14, 2) := by decide +kernel
theorem dX10_kindHere_6 : decode cX10_kindHere 6 = .ok (.bipush 7, 2) := by decide +kernel
theorem dX10_kindHere_8 : decode cX10_kindHere 8 = .ok (.bipush 20, 2) := by decide +kernel
theorem dX10_kindHere_10 : decode cX10_kindHere 10 = .ok (.bipush 8, 2) := by decide +kernel
theorem dX10_kindHere_12 : decode cX10_kindHere 12 = .ok (.invokevirtual 182, 3) := by decide +kernel
theorem dX10_kindHere_15 : decode cX10_kindHere 15 = .ok (.ifCond .eq 5, 3) := by decide +kernel
theorem dX10_kindHere_18 : decode cX10_kindHere 18 = .ok (.iconst 0, 1) := by decide +kernel
theorem dX10_kindHere_19 : decode cX10_kindHere 19 = .ok (.ireturn, 1) := by decide +kernel
theorem dX10_kindHere_20 : decode cX10_kindHere 20 = .ok (.aload_n 0, 1) := by decide +kernel
theorem dX10_kindHere_21 : decode cX10_kindHere 21 = .ok (.iconst 3, 1) := by decide +kernel
theorem dX10_kindHere_22 : decode cX10_kindHere 22 = .ok (.iconst 1, 1) := by decide +kernel
theorem dX10_kindHere_23 : decode cX10_kindHere 23 = .ok (.bipush 18, 2) := by decide +kernel
theorem dX10_kindHere_25 : decode cX10_kindHere 25 = .ok (.iconst 0, 1) := by decide +kernel
theorem dX10_kindHere_26 : decode cX10_kindHere 26 = .ok (.iconst 0, 1) := by decide +kernel
theorem dX10_kindHere_27 : decode cX10_kindHere 27 = .ok (.iconst 0, 1) := by decide +kernel
theorem dX10_kindHere_28 : decode cX10_kindHere 28 = .ok (.invokevirtual 182, 3) := by decide +kernel
theorem dX10_kindHere_31 : decode cX10_kindHere 31 = .ok (.ifCond .eq 5, 3) := by decide +kernel
theorem dX10_kindHere_34 : decode cX10_kindHere 34 = .ok (.iconst 1, 1) := by decide +kernel
theorem dX10_kindHere_35 : decode cX10_kindHere 35 = .ok (.ireturn, 1) := by decide +kernel
theorem dX10_kindHere_36 : decode cX10_kindHere 36 = .ok (.aload_n 0, 1) := by decide +kernel
theorem dX10_kindHere_37 : decode cX10_kindHere 37 = .ok (.iconst 3, 1) := by decide +kernel
theorem dX10_kindHere_38 : decode cX10_kindHere 38 = .ok (.bipush 15, 2) := by decide +kernel
theorem dX10_kindHere_40 : decode cX10_kindHere 40 = .ok (.iconst 1, 1) := by decide +kernel
theorem dX10_kindHere_41 : decode cX10_kindHere 41 = .ok (.bipush 20, 2) := by decide +kernel
theorem dX10_kindHere_43 : decode cX10_kindHere 43 = .ok (.iconst 0, 1) := by decide +kernel
theorem dX10_kindHere_44 : decode cX10_kindHere 44 = .ok (.iconst 0, 1) := by decide +kernel
theorem dX10_kindHere_45 : decode cX10_kindHere 45 = .ok (.invokevirtual 182, 3) := by decide +kernel
theorem dX10_kindHere_48 : decode cX10_kindHere 48 = .ok (.ifCond .eq 5, 3) := by decide +kernel
theorem dX10_kindHere_51 : decode cX10_kindHere 51 = .ok (.iconst 2, 1) := by decide +kernel
theorem dX10_kindHere_52 : decode cX10_kindHere 52 = .ok (.ireturn, 1) := by decide +kernel
theorem dX10_kindHere_53 : decode cX10_kindHere 53 = .ok (.aload_n 0, 1) := by decide +kernel
theorem dX10_kindHere_54 : decode cX10_kindHere 54 = .ok (.iconst 2, 1) := by decide +kernel
theorem dX10_kindHere_55 : decode cX10_kindHere 55 = .ok (.iconst 5, 1) := by decide +kernel
theorem dX10_kindHere_56 : decode cX10_kindHere 56 = .ok (.bipush 14, 2) := by decide +kernel
theorem dX10_kindHere_58 : decode cX10_kindHere 58 = .ok (.iconst 4, 1) := by decide +kernel
theorem dX10_kindHere_59 : decode cX10_kindHere 59 = .ok (.iconst 0, 1) := by decide +kernel
theorem dX10_kindHere_60 : decode cX10_kindHere 60 = .ok (.iconst 0, 1) := by decide +kernel
theorem dX10_kindHere_61 : decode cX10_kindHere 61 = .ok (.invokevirtual 182, 3) := by decide +kernel
theorem dX10_kindHere_64 : decode cX10_kindHere 64 = .ok (.ifCond .eq 5, 3) := by decide +kernel
theorem dX10_kindHere_67 : decode cX10_kindHere 67 = .ok (.iconst 3, 1) := by decide +kernel
theorem dX10_kindHere_68 : decode cX10_kindHere 68 = .ok (.ireturn, 1) := by decide +kernel
theorem dX10_kindHere_69 : decode cX10_kindHere 69 = .ok (.aload_n 0, 1) := by decide +kernel
theorem dX10_kindHere_70 : decode cX10_kindHere 70 = .ok (.bipush 23, 2) := by decide +kernel
theorem dX10_kindHere_72 : decode cX10_kindHere 72 = .ok (.iconst 5, 1) := by decide +kernel
theorem dX10_kindHere_73 : decode cX10_kindHere 73 = .ok (.bipush 20, 2) := by decide +kernel
theorem dX10_kindHere_75 : decode cX10_kindHere 75 = .ok (.iconst 0, 1) := by decide +kernel
theorem dX10_kindHere_76 : decode cX10_kindHere 76 = .ok (.iconst 0, 1) := by decide +kernel
theorem dX10_kindHere_77 : decode cX10_kindHere 77 = .ok (.iconst 0, 1) := by decide +kernel
theorem dX10_kindHere_78 : decode cX10_kindHere 78 = .ok (.invokevirtual 182, 3) := by decide +kernel
theorem dX10_kindHere_81 : decode cX10_kindHere 81 = .ok (.ifCond .eq 5, 3) := by decide +kernel
theorem dX10_kindHere_84 : decode cX10_kindHere 84 = .ok (.iconst 4, 1) := by decide +kernel
theorem dX10_kindHere_85 : decode cX10_kindHere 85 = .ok (.ireturn, 1) := by decide +kernel
theorem dX10_kindHere_86 : decode cX10_kindHere 86 = .ok (.aload_n 0, 1) := by decide +kernel
theorem dX10_kindHere_87 : decode cX10_kindHere 87 = .ok (.bipush 18, 2) := by decide +kernel
theorem dX10_kindHere_89 : decode cX10_kindHere 89 = .ok (.iconst 5, 1) := by decide +kernel
theorem dX10_kindHere_90 : decode cX10_kindHere 90 = .ok (.iconst 1, 1) := by decide +kernel
theorem dX10_kindHere_91 : decode cX10_kindHere 91 = .ok (.iconst 3, 1) := by decide +kernel
theorem dX10_kindHere_92 : decode cX10_kindHere 92 = .ok (.bipush 8, 2) := by decide +kernel
theorem dX10_kindHere_94 : decode cX10_kindHere 94 = .ok (.iconst 0, 1) := by decide +kernel
theorem dX10_kindHere_95 : decode cX10_kindHere 95 = .ok (.invokevirtual 182, 3) := by decide +kernel
theorem dX10_kindHere_98 : decode cX10_kindHere 98 = .ok (.ifCond .eq 5, 3) := by decide +kernel
theorem dX10_kindHere_101 : decode cX10_kindHere 101 = .ok (.iconst 5, 1) := by decide +kernel
theorem dX10_kindHere_102 : decode cX10_kindHere 102 = .ok (.ireturn, 1) := by decide +kernel
theorem dX10_kindHere_103 : decode cX10_kindHere 103 = .ok (.aload_n 0, 1) := by decide +kernel
theorem dX10_kindHere_104 : decode cX10_kindHere 104 = .ok (.bipush 6, 2) := by decide +kernel
theorem dX10_kindHere_106 : decode cX10_kindHere 106 = .ok (.bipush 15, 2) := by decide +kernel
theorem dX10_kindHere_108 : decode cX10_kindHere 108 = .ok (.bipush 7, 2) := by decide +kernel
theorem dX10_kindHere_110 : decode cX10_kindHere 110 = .ok (.iconst 0, 1) := by decide +kernel
theorem dX10_kindHere_111 : decode cX10_kindHere 111 = .ok (.iconst 0, 1) := by decide +kernel
theorem dX10_kindHere_112 : decode cX10_kindHere 112 = .ok (.iconst 0, 1) := by decide +kernel
theorem dX10_kindHere_113 : decode cX10_kindHere 113 = .ok (.invokevirtual 182, 3) := by decide +kernel
theorem dX10_kindHere_116 : decode cX10_kindHere 116 = .ok (.ifCond .eq 6, 3) := by decide +kernel
theorem dX10_kindHere_119 : decode cX10_kindHere 119 = .ok (.bipush 6, 2) := by decide +kernel
theorem dX10_kindHere_121 : decode cX10_kindHere 121 = .ok (.ireturn, 1) := by decide +kernel
theorem dX10_kindHere_122 : decode cX10_kindHere 122 = .ok (.aload_n 0, 1) := by decide +kernel
theorem dX10_kindHere_123 : decode cX10_kindHere 123 = .ok (.iconst 2, 1) := by decide +kernel
theorem dX10_kindHere_124 : decode cX10_kindHere 124 = .ok (.bipush 12, 2) := by decide +kernel
theorem dX10_kindHere_126 : decode cX10_kindHere 126 = .ok (.bipush 9, 2) := by decide +kernel
theorem dX10_kindHere_128 : decode cX10_kindHere 128 = .ok (.bipush 14, 2) := by decide +kernel
theorem dX10_kindHere_130 : decode cX10_kindHere 130 = .ok (.iconst 4, 1) := by decide +kernel
theorem dX10_kindHere_131 : decode cX10_kindHere 131 = .ok (.iconst 0, 1) := by decide +kernel
theorem dX10_kindHere_132 : decode cX10_kindHere 132 = .ok (.invokevirtual 182, 3) := by decide +kernel
theorem dX10_kindHere_135 : decode cX10_kindHere 135 = .ok (.ifCond .eq 8, 3) := by decide +kernel
theorem dX10_kindHere_138 : decode cX10_kindHere 138 = .ok (.bipush 7, 2) := by decide +kernel
theorem dX10_kindHere_140 : decode cX10_kindHere 140 = .ok (.goto 4, 3) := by decide +kernel
theorem dX10_kindHere_143 : decode cX10_kindHere 143 = .ok (.iconst (-1), 1) := by decide +kernel
theorem dX10_kindHere_144 : decode cX10_kindHere 144 = .ok (.ireturn, 1) := by decide +kernel
theorem dX10_isFull_0 : decode cX10_isFull 0 = .ok (.iload_n 1, 1) := by decide +kernel
theorem dX10_isFull_1 : decode cX10_isFull 1 = .ok (.iconst 1, 1) := by decide +kernel
theorem dX10_isFull_2 : decode cX10_isFull 2 = .ok (.if_icmp .ne 13, 3) := by decide +kernel
theorem dX10_isFull_5 : decode cX10_isFull 5 = .ok (.aload_n 0, 1) := by decide +kernel
theorem dX10_isFull_6 : decode cX10_isFull 6 = .ok (.getfield 20, 3) := by decide +kernel
theorem dX10_isFull_9 : decode cX10_isFull 9 = .ok (.iconst 1, 1) := by decide +kernel
theorem dX10_isFull_10 : decode cX10_isFull 10 = .ok (.iaload, 1) := by decide +kernel
theorem dX10_isFull_11 : decode cX10_isFull 11 = .ok (.iconst 2, 1) := by decide +kernel
theorem dX10_isFull_12 : decode cX10_isFull 12 = .ok (.if_icmp .eq 50, 3) := by decide +kernel
theorem dX10_isFull_15 : decode cX10_isFull 15 = .ok (.iload_n 1, 1) := by decide +kernel
theorem dX10_isFull_16 : decode cX10_isFull 16 = .ok (.iconst 2, 1) := by decide +kernel
theorem dX10_isFull_17 : decode cX10_isFull 17 = .ok (.if_icmp .ne 14, 3) := by decide +kernel
theorem dX10_isFull_20 : decode cX10_isFull 20 = .ok (.aload_n 0, 1) := by decide +kernel
theorem dX10_isFull_21 : decode cX10_isFull 21 = .ok (.getfield 20, 3) := by decide +kernel
theorem dX10_isFull_24 : decode cX10_isFull 24 = .ok (.iconst 2, 1) := by decide +kernel
theorem dX10_isFull_25 : decode cX10_isFull 25 = .ok (.iaload, 1) := by decide +kernel
theorem dX10_isFull_26 : decode cX10_isFull 26 = .ok (.bipush 10, 2) := by decide +kernel
theorem dX10_isFull_28 : decode cX10_isFull 28 = .ok (.if_icmp .eq 34, 3) := by decide +kernel
theorem dX10_isFull_31 : decode cX10_isFull 31 = .ok (.iload_n 1, 1) := by decide +kernel
theorem dX10_isFull_32 : decode cX10_isFull 32 = .ok (.iconst 3, 1) := by decide +kernel
theorem dX10_isFull_33 : decode cX10_isFull 33 = .ok (.if_icmp .ne 14, 3) := by decide +kernel
theorem dX10_isFull_36 : decode cX10_isFull 36 = .ok (.aload_n 0, 1) := by decide +kernel
theorem dX10_isFull_37 : decode cX10_isFull 37 = .ok (.getfield 20, 3) := by decide +kernel
theorem dX10_isFull_40 : decode cX10_isFull 40 = .ok (.iconst 3, 1) := by decide +kernel
theorem dX10_isFull_41 : decode cX10_isFull 41 = .ok (.iaload, 1) := by decide +kernel
theorem dX10_isFull_42 : decode cX10_isFull 42 = .ok (.bipush 6, 2) := by decide +kernel
theorem dX10_isFull_44 : decode cX10_isFull 44 = .ok (.if_icmp .eq 18, 3) := by decide +kernel
theorem dX10_isFull_47 : decode cX10_isFull 47 = .ok (.iload_n 1, 1) := by decide +kernel
theorem dX10_isFull_48 : decode cX10_isFull 48 = .ok (.iconst 4, 1) := by decide +kernel
theorem dX10_isFull_49 : decode cX10_isFull 49 = .ok (.if_icmp .ne 17, 3) := by decide +kernel
theorem dX10_isFull_52 : decode cX10_isFull 52 = .ok (.aload_n 0, 1) := by decide +kernel
theorem dX10_isFull_53 : decode cX10_isFull 53 = .ok (.getfield 20, 3) := by decide +kernel
theorem dX10_isFull_56 : decode cX10_isFull 56 = .ok (.iconst 4, 1) := by decide +kernel
theorem dX10_isFull_57 : decode cX10_isFull 57 = .ok (.iaload, 1) := by decide +kernel
theorem dX10_isFull_58 : decode cX10_isFull 58 = .ok (.iconst 4, 1) := by decide +kernel
theorem dX10_isFull_59 : decode cX10_isFull 59 = .ok (.if_icmp .ne 7, 3) := by decide +kernel
theorem dX10_isFull_62 : decode cX10_isFull 62 = .ok (.iconst 1, 1) := by decide +kernel
theorem dX10_isFull_63 : decode cX10_isFull 63 = .ok (.goto 4, 3) := by decide +kernel
theorem dX10_isFull_66 : decode cX10_isFull 66 = .ok (.iconst 0, 1) := by decide +kernel
theorem dX10_isFull_67 : decode cX10_isFull 67 = .ok (.ireturn, 1) := by decide +kernel
theorem dX10_cellHere_0 : decode cX10_cellHere 0 = .ok (.aload_n 0, 1) := by decide +kernel
theorem dX10_cellHere_1 : decode cX10_cellHere 1 = .ok (.iconst 0, 1) := by decide +kernel
theorem dX10_cellHere_2 : decode cX10_cellHere 2 = .ok (.aload_n 0, 1) := by decide +kernel
theorem dX10_cellHere_3 : decode cX10_cellHere 3 = .ok (.getfield 20, 3) := by decide +kernel
theorem dX10_cellHere_6 : decode cX10_cellHere 6 = .ok (.iconst 0, 1) := by decide +kernel
theorem dX10_cellHere_7 : decode cX10_cellHere 7 = .ok (.iaload, 1) := by decide +kernel
theorem dX10_cellHere_8 : decode cX10_cellHere 8 = .ok (.iconst 1, 1) := by decide +kernel
theorem dX10_cellHere_9 : decode cX10_cellHere 9 = .ok (.isub, 1) := by decide +kernel
theorem dX10_cellHere_10 : decode cX10_cellHere 10 = .ok (.invokevirtual 195, 3) := by decide +kernel
theorem dX10_cellHere_13 : decode cX10_cellHere 13 = .ok (.ireturn, 1) := by decide +kernel
theorem dX10_clause_0 : decode cX10_clause 0 = .ok (.aload_n 0, 1) := by decide +kernel
theorem dX10_clause_1 : decode cX10_clause 1 = .ok (.invokevirtual 199, 3) := by decide +kernel
theorem dX10_clause_4 : decode cX10_clause 4 = .ok (.istore_n 1, 1) := by decide +kernel
theorem dX10_clause_5 : decode cX10_clause 5 = .ok (.iload_n 1, 1) := by decide +kernel
theorem dX10_clause_6 : decode cX10_clause 6 = .ok (.iconst (-1), 1) := by decide +kernel
theorem dX10_clause_7 : decode cX10_clause 7 = .ok (.if_icmp .ne 15, 3) := by decide +kernel
theorem dX10_clause_10 : decode cX10_clause 10 = .ok (.aload_n 0, 1) := by decide +kernel
theorem dX10_clause_11 : decode cX10_clause 11 = .ok (.iconst 1, 1) := by decide +kernel
theorem dX10_clause_12 : decode cX10_clause 12 = .ok (.aload_n 0, 1) := by decide +kernel
theorem dX10_clause_13 : decode cX10_clause 13 = .ok (.getfield 142, 3) := by decide +kernel
theorem dX10_clause_16 : decode cX10_clause 16 = .ok (.invokevirtual 162, 3) := by decide +kernel
theorem dX10_clause_19 : decode cX10_clause 19 = .ok (.goto 52, 3) := by decide +kernel
theorem dX10_clause_22 : decode cX10_clause 22 = .ok (.aload_n 0, 1) := by decide +kernel
theorem dX10_clause_23 : decode cX10_clause 23 = .ok (.getfield 189, 3) := by decide +kernel
theorem dX10_clause_26 : decode cX10_clause 26 = .ok (.bipush 60, 2) := by decide +kernel
theorem dX10_clause_28 : decode cX10_clause 28 = .ok (.if_icmp .eq 11, 3) := by decide +kernel
theorem dX10_clause_31 : decode cX10_clause 31 = .ok (.aload_n 0, 1) := by decide +kernel
theorem dX10_clause_32 : decode cX10_clause 32 = .ok (.iload_n 1, 1) := by decide +kernel
theorem dX10_clause_33 : decode cX10_clause 33 = .ok (.invokevirtual 202, 3) := by decide +kernel
theorem dX10_clause_36 : decode cX10_clause 36 = .ok (.ifCond .eq 15, 3) := by decide +kernel
theorem dX10_clause_39 : decode cX10_clause 39 = .ok (.aload_n 0, 1) := by decide +kernel
theorem dX10_clause_40 : decode cX10_clause 40 = .ok (.iconst 3, 1) := by decide +kernel
theorem dX10_clause_41 : decode cX10_clause 41 = .ok (.aload_n 0, 1) := by decide +kernel
theorem dX10_clause_42 : decode cX10_clause 42 = .ok (.getfield 142, 3) := by decide +kernel
theorem dX10_clause_45 : decode cX10_clause 45 = .ok (.invokevirtual 162, 3) := by decide +kernel
theorem dX10_clause_48 : decode cX10_clause 48 = .ok (.goto 23, 3) := by decide +kernel
theorem dX10_clause_51 : decode cX10_clause 51 = .ok (.iload_n 1, 1) := by decide +kernel
theorem dX10_clause_52 : decode cX10_clause 52 = .ok (.ifCond .ne 19, 3) := by decide +kernel
theorem dX10_clause_55 : decode cX10_clause 55 = .ok (.aload_n 0, 1) := by decide +kernel
theorem dX10_clause_56 : decode cX10_clause 56 = .ok (.getfield 189, 3) := by decide +kernel
theorem dX10_clause_59 : decode cX10_clause 59 = .ok (.ifCond .le 12, 3) := by decide +kernel
theorem dX10_clause_62 : decode cX10_clause 62 = .ok (.aload_n 0, 1) := by decide +kernel
theorem dX10_clause_63 : decode cX10_clause 63 = .ok (.iconst 4, 1) := by decide +kernel
theorem dX10_clause_64 : decode cX10_clause 64 = .ok (.aload_n 0, 1) := by decide +kernel
theorem dX10_clause_65 : decode cX10_clause 65 = .ok (.getfield 142, 3) := by decide +kernel
theorem dX10_clause_68 : decode cX10_clause 68 = .ok (.invokevirtual 162, 3) := by decide +kernel
theorem dX10_clause_71 : decode cX10_clause 71 = .ok (.aload_n 0, 1) := by decide +kernel
theorem dX10_clause_72 : decode cX10_clause 72 = .ok (.getfield 149, 3) := by decide +kernel
theorem dX10_clause_75 : decode cX10_clause 75 = .ok (.ifCond .eq 4, 3) := by decide +kernel
theorem dX10_clause_78 : decode cX10_clause 78 = .ok (.return_, 1) := by decide +kernel
theorem dX10_clause_79 : decode cX10_clause 79 = .ok (.aload_n 0, 1) := by decide +kernel
theorem dX10_clause_80 : decode cX10_clause 80 = .ok (.invokevirtual 186, 3) := by decide +kernel
theorem dX10_clause_83 : decode cX10_clause 83 = .ok (.aload_n 0, 1) := by decide +kernel
theorem dX10_clause_84 : decode cX10_clause 84 = .ok (.dup, 1) := by decide +kernel
theorem dX10_clause_85 : decode cX10_clause 85 = .ok (.getfield 189, 3) := by decide +kernel
theorem dX10_clause_88 : decode cX10_clause 88 = .ok (.iconst 1, 1) := by decide +kernel
theorem dX10_clause_89 : decode cX10_clause 89 = .ok (.iadd, 1) := by decide +kernel
theorem dX10_clause_90 : decode cX10_clause 90 = .ok (.putfield 189, 3) := by decide +kernel
theorem dX10_clause_93 : decode cX10_clause 93 = .ok (.iload_n 1, 1) := by decide +kernel
theorem dX10_clause_94 : decode cX10_clause 94 = .ok (.tableswitch 268 0 5 #[38, 64, 123, 166, 184, 224], 38) := by decide +kernel
theorem dX10_clause_132 : decode cX10_clause 132 = .ok (.aload_n 0, 1) := by decide +kernel
theorem dX10_clause_133 : decode cX10_clause 133 = .ok (.bipush 10, 2) := by decide +kernel
theorem dX10_clause_135 : decode cX10_clause 135 = .ok (.bipush 60, 2) := by decide +kernel
theorem dX10_clause_137 : decode cX10_clause 137 = .ok (.invokevirtual 195, 3) := by decide +kernel
theorem dX10_clause_140 : decode cX10_clause 140 = .ok (.istore_n 2, 1) := by decide +kernel
theorem dX10_clause_141 : decode cX10_clause 141 = .ok (.aload_n 0, 1) := by decide +kernel
theorem dX10_clause_142 : decode cX10_clause 142 = .ok (.getfield 149, 3) := by decide +kernel
theorem dX10_clause_145 : decode cX10_clause 145 = .ok (.ifCond .ne 254, 3) := by decide +kernel
theorem dX10_clause_148 : decode cX10_clause 148 = .ok (.aload_n 0, 1) := by decide +kernel
theorem dX10_clause_149 : decode cX10_clause 149 = .ok (.getfield 20, 3) := by decide +kernel
theorem dX10_clause_152 : decode cX10_clause 152 = .ok (.iconst 0, 1) := by decide +kernel
theorem dX10_clause_153 : decode cX10_clause 153 = .ok (.iload_n 2, 1) := by decide +kernel
theorem dX10_clause_154 : decode cX10_clause 154 = .ok (.iastore, 1) := by decide +kernel
theorem dX10_clause_155 : decode cX10_clause 155 = .ok (.goto 244, 3) := by decide +kernel
theorem dX10_clause_158 : decode cX10_clause 158 = .ok (.aload_n 0, 1) := by decide +kernel
theorem dX10_clause_159 : decode cX10_clause 159 = .ok (.getfield 20, 3) := by decide +kernel
theorem dX10_clause_162 : decode cX10_clause 162 = .ok (.iconst 1, 1) := by decide +kernel
theorem dX10_clause_163 : decode cX10_clause 163 = .ok (.iaload, 1) := by decide +kernel
theorem dX10_clause_164 : decode cX10_clause 164 = .ok (.istore_n 2, 1) := by decide +kernel
theorem dX10_clause_165 : decode cX10_clause 165 = .ok (.aload_n 0, 1) := by decide +kernel
theorem dX10_clause_166 : decode cX10_clause 166 = .ok (.getfield 26, 3) := by decide +kernel
theorem dX10_clause_169 : decode cX10_clause 169 = .ok (.iload_n 2, 1) := by decide +kernel
theorem dX10_clause_170 : decode cX10_clause 170 = .ok (.aload_n 0, 1) := by decide +kernel
theorem dX10_clause_171 : decode cX10_clause 171 = .ok (.bipush 17, 2) := by decide +kernel
theorem dX10_clause_173 : decode cX10_clause 173 = .ok (.bipush 99, 2) := by decide +kernel
theorem dX10_clause_175 : decode cX10_clause 175 = .ok (.invokevirtual 195, 3) := by decide +kernel
theorem dX10_clause_178 : decode cX10_clause 178 = .ok (.iastore, 1) := by decide +kernel
theorem dX10_clause_179 : decode cX10_clause 179 = .ok (.aload_n 0, 1) := by decide +kernel
theorem dX10_clause_180 : decode cX10_clause 180 = .ok (.getfield 38, 3) := by decide +kernel
theorem dX10_clause_183 : decode cX10_clause 183 = .ok (.iconst 0, 1) := by decide +kernel
theorem dX10_clause_184 : decode cX10_clause 184 = .ok (.iconst 2, 1) := by decide +kernel
theorem dX10_clause_185 : decode cX10_clause 185 = .ok (.iload_n 2, 1) := by decide +kernel
theorem dX10_clause_186 : decode cX10_clause 186 = .ok (.imul, 1) := by decide +kernel
theorem dX10_clause_187 : decode cX10_clause 187 = .ok (.iadd, 1) := by decide +kernel
theorem dX10_clause_188 : decode cX10_clause 188 = .ok (.aload_n 0, 1) := by decide +kernel
theorem dX10_clause_189 : decode cX10_clause 189 = .ok (.iconst 1, 1) := by decide +kernel
theorem dX10_clause_190 : decode cX10_clause 190 = .ok (.iconst 3, 1) := by decide +kernel
theorem dX10_clause_191 : decode cX10_clause 191 = .ok (.invokevirtual 195, 3) := by decide +kernel
theorem dX10_clause_194 : decode cX10_clause 194 = .ok (.iastore, 1) := by decide +kernel
theorem dX10_clause_195 : decode cX10_clause 195 = .ok (.aload_n 0, 1) := by decide +kernel
theorem dX10_clause_196 : decode cX10_clause 196 = .ok (.getfield 38, 3) := by decide +kernel
theorem dX10_clause_199 : decode cX10_clause 199 = .ok (.iconst 0, 1) := by decide +kernel
theorem dX10_clause_200 : decode cX10_clause 200 = .ok (.iconst 2, 1) := by decide +kernel
theorem dX10_clause_201 : decode cX10_clause 201 = .ok (.iload_n 2, 1) := by decide +kernel
theorem dX10_clause_202 : decode cX10_clause 202 = .ok (.imul, 1) := by decide +kernel
theorem dX10_clause_203 : decode cX10_clause 203 = .ok (.iadd, 1) := by decide +kernel
theorem dX10_clause_204 : decode cX10_clause 204 = .ok (.iconst 1, 1) := by decide +kernel
theorem dX10_clause_205 : decode cX10_clause 205 = .ok (.iadd, 1) := by decide +kernel
theorem dX10_clause_206 : decode cX10_clause 206 = .ok (.aload_n 0, 1) := by decide +kernel
theorem dX10_clause_207 : decode cX10_clause 207 = .ok (.iconst 0, 1) := by decide +kernel
theorem dX10_clause_208 : decode cX10_clause 208 = .ok (.bipush 9, 2) := by decide +kernel
theorem dX10_clause_210 : decode cX10_clause 210 = .ok (.invokevirtual 195, 3) := by decide +kernel
theorem dX10_clause_213 : decode cX10_clause 213 = .ok (.iastore, 1) := by decide +kernel
theorem dX10_clause_214 : decode cX10_clause 214 = .ok (.goto 185, 3) := by decide +kernel
theorem dX10_clause_217 : decode cX10_clause 217 = .ok (.aload_n 0, 1) := by decide +kernel
theorem dX10_clause_218 : decode cX10_clause 218 = .ok (.getfield 20, 3) := by decide +kernel
theorem dX10_clause_221 : decode cX10_clause 221 = .ok (.iconst 2, 1) := by decide +kernel
theorem dX10_clause_222 : decode cX10_clause 222 = .ok (.iaload, 1) := by decide +kernel
theorem dX10_clause_223 : decode cX10_clause 223 = .ok (.istore_n 2, 1) := by decide +kernel
theorem dX10_clause_224 : decode cX10_clause 224 = .ok (.aload_n 0, 1) := by decide +kernel
theorem dX10_clause_225 : decode cX10_clause 225 = .ok (.getfield 38, 3) := by decide +kernel
theorem dX10_clause_228 : decode cX10_clause 228 = .ok (.iconst 4, 1) := by decide +kernel
theorem dX10_clause_229 : decode cX10_clause 229 = .ok (.iconst 2, 1) := by decide +kernel
theorem dX10_clause_230 : decode cX10_clause 230 = .ok (.iload_n 2, 1) := by decide +kernel
theorem dX10_clause_231 : decode cX10_clause 231 = .ok (.imul, 1) := by decide +kernel
theorem dX10_clause_232 : decode cX10_clause 232 = .ok (.iadd, 1) := by decide +kernel
theorem dX10_clause_233 : decode cX10_clause 233 = .ok (.aload_n 0, 1) := by decide +kernel
theorem dX10_clause_234 : decode cX10_clause 234 = .ok (.invokevirtual 205, 3) := by decide +kernel
theorem dX10_clause_237 : decode cX10_clause 237 = .ok (.iastore, 1) := by decide +kernel
theorem dX10_clause_238 : decode cX10_clause 238 = .ok (.aload_n 0, 1) := by decide +kernel
theorem dX10_clause_239 : decode cX10_clause 239 = .ok (.getfield 38, 3) := by decide +kernel
theorem dX10_clause_242 : decode cX10_clause 242 = .ok (.iconst 4, 1) := by decide +kernel
theorem dX10_clause_243 : decode cX10_clause 243 = .ok (.iconst 2, 1) := by decide +kernel
theorem dX10_clause_244 : decode cX10_clause 244 = .ok (.iload_n 2, 1) := by decide +kernel
theorem dX10_clause_245 : decode cX10_clause 245 = .ok (.imul, 1) := by decide +kernel
theorem dX10_clause_246 : decode cX10_clause 246 = .ok (.iadd, 1) := by decide +kernel
theorem dX10_clause_247 : decode cX10_clause 247 = .ok (.iconst 1, 1) := by decide +kernel
theorem dX10_clause_248 : decode cX10_clause 248 = .ok (.iadd, 1) := by decide +kernel
theorem dX10_clause_249 : decode cX10_clause 249 = .ok (.aload_n 0, 1) := by decide +kernel
theorem dX10_clause_250 : decode cX10_clause 250 = .ok (.iconst 0, 1) := by decide +kernel
theorem dX10_clause_251 : decode cX10_clause 251 = .ok (.bipush 9, 2) := by decide +kernel
theorem dX10_clause_253 : decode cX10_clause 253 = .ok (.invokevirtual 195, 3) := by decide +kernel
theorem dX10_clause_256 : decode cX10_clause 256 = .ok (.iastore, 1) := by decide +kernel
theorem dX10_clause_257 : decode cX10_clause 257 = .ok (.goto 142, 3) := by decide +kernel
theorem dX10_clause_260 : decode cX10_clause 260 = .ok (.aload_n 0, 1) := by decide +kernel
theorem dX10_clause_261 : decode cX10_clause 261 = .ok (.getfield 32, 3) := by decide +kernel
theorem dX10_clause_264 : decode cX10_clause 264 = .ok (.aload_n 0, 1) := by decide +kernel
theorem dX10_clause_265 : decode cX10_clause 265 = .ok (.getfield 20, 3) := by decide +kernel
theorem dX10_clause_268 : decode cX10_clause 268 = .ok (.iconst 3, 1) := by decide +kernel
theorem dX10_clause_269 : decode cX10_clause 269 = .ok (.iaload, 1) := by decide +kernel
theorem dX10_clause_270 : decode cX10_clause 270 = .ok (.aload_n 0, 1) := by decide +kernel
theorem dX10_clause_271 : decode cX10_clause 271 = .ok (.invokevirtual 205, 3) := by decide +kernel
theorem dX10_clause_274 : decode cX10_clause 274 = .ok (.iastore, 1) := by decide +kernel
theorem dX10_clause_275 : decode cX10_clause 275 = .ok (.goto 124, 3) := by decide +kernel
theorem dX10_clause_278 : decode cX10_clause 278 = .ok (.aload_n 0, 1) := by decide +kernel
theorem dX10_clause_279 : decode cX10_clause 279 = .ok (.getfield 46, 3) := by decide +kernel
theorem dX10_clause_282 : decode cX10_clause 282 = .ok (.aload_n 0, 1) := by decide +kernel
theorem dX10_clause_283 : decode cX10_clause 283 = .ok (.getfield 20, 3) := by decide +kernel
theorem dX10_clause_286 : decode cX10_clause 286 = .ok (.iconst 4, 1) := by decide +kernel
theorem dX10_clause_287 : decode cX10_clause 287 = .ok (.iaload, 1) := by decide +kernel
theorem dX10_clause_288 : decode cX10_clause 288 = .ok (.aaload, 1) := by decide +kernel
theorem dX10_clause_289 : decode cX10_clause 289 = .ok (.astore_n 2, 1) := by decide +kernel
theorem dX10_clause_290 : decode cX10_clause 290 = .ok (.aload_n 2, 1) := by decide +kernel
theorem dX10_clause_291 : decode cX10_clause 291 = .ok (.iconst 0, 1) := by decide +kernel
theorem dX10_clause_292 : decode cX10_clause 292 = .ok (.aload_n 0, 1) := by decide +kernel
theorem dX10_clause_293 : decode cX10_clause 293 = .ok (.invokevirtual 205, 3) := by decide +kernel
theorem dX10_clause_296 : decode cX10_clause 296 = .ok (.iastore, 1) := by decide +kernel
theorem dX10_clause_297 : decode cX10_clause 297 = .ok (.aload_n 2, 1) := by decide +kernel
theorem dX10_clause_298 : decode cX10_clause 298 = .ok (.iconst 1, 1) := by decide +kernel
theorem dX10_clause_299 : decode cX10_clause 299 = .ok (.aload_n 0, 1) := by decide +kernel
theorem dX10_clause_300 : decode cX10_clause 300 = .ok (.aload_n 2, 1) := by decide +kernel
theorem dX10_clause_301 : decode cX10_clause 301 = .ok (.iconst 0, 1) := by decide +kernel
theorem dX10_clause_302 : decode cX10_clause 302 = .ok (.iaload, 1) := by decide +kernel
theorem dX10_clause_303 : decode cX10_clause 303 = .ok (.aload_n 0, 1) := by decide +kernel
theorem dX10_clause_304 : decode cX10_clause 304 = .ok (.getfield 20, 3) := by decide +kernel
theorem dX10_clause_307 : decode cX10_clause 307 = .ok (.iconst 0, 1) := by decide +kernel
theorem dX10_clause_308 : decode cX10_clause 308 = .ok (.iaload, 1) := by decide +kernel
theorem dX10_clause_309 : decode cX10_clause 309 = .ok (.iconst 1, 1) := by decide +kernel
theorem dX10_clause_310 : decode cX10_clause 310 = .ok (.isub, 1) := by decide +kernel
theorem dX10_clause_311 : decode cX10_clause 311 = .ok (.invokevirtual 195, 3) := by decide +kernel
theorem dX10_clause_314 : decode cX10_clause 314 = .ok (.iastore, 1) := by decide +kernel
theorem dX10_clause_315 : decode cX10_clause 315 = .ok (.goto 84, 3) := by decide +kernel
theorem dX10_clause_318 : decode cX10_clause 318 = .ok (.aload_n 0, 1) := by decide +kernel
theorem dX10_clause_319 : decode cX10_clause 319 = .ok (.iconst 1, 1) := by decide +kernel
theorem dX10_clause_320 : decode cX10_clause 320 = .ok (.bipush 40, 2) := by decide +kernel
theorem dX10_clause_322 : decode cX10_clause 322 = .ok (.invokevirtual 195, 3) := by decide +kernel
theorem dX10_clause_325 : decode cX10_clause 325 = .ok (.istore_n 2, 1) := by decide +kernel
theorem dX10_clause_326 : decode cX10_clause 326 = .ok (.aload_n 0, 1) := by decide +kernel
theorem dX10_clause_327 : decode cX10_clause 327 = .ok (.iconst 1, 1) := by decide +kernel
theorem dX10_clause_328 : decode cX10_clause 328 = .ok (.bipush 20, 2) := by decide +kernel
theorem dX10_clause_330 : decode cX10_clause 330 = .ok (.invokevirtual 195, 3) := by decide +kernel
theorem dX10_clause_333 : decode cX10_clause 333 = .ok (.istore_n 3, 1) := by decide +kernel
theorem dX10_clause_334 : decode cX10_clause 334 = .ok (.aload_n 0, 1) := by decide +kernel
theorem dX10_clause_335 : decode cX10_clause 335 = .ok (.getfield 149, 3) := by decide +kernel
theorem dX10_clause_338 : decode cX10_clause 338 = .ok (.ifCond .eq 6, 3) := by decide +kernel
theorem dX10_clause_341 : decode cX10_clause 341 = .ok (.goto 58, 3) := by decide +kernel
theorem dX10_clause_344 : decode cX10_clause 344 = .ok (.aload_n 0, 1) := by decide +kernel
theorem dX10_clause_345 : decode cX10_clause 345 = .ok (.getfield 20, 3) := by decide +kernel
theorem dX10_clause_348 : decode cX10_clause 348 = .ok (.iconst 5, 1) := by decide +kernel
theorem dX10_clause_349 : decode cX10_clause 349 = .ok (.iload_n 2, 1) := by decide +kernel
theorem dX10_clause_350 : decode cX10_clause 350 = .ok (.iastore, 1) := by decide +kernel
theorem dX10_clause_351 : decode cX10_clause 351 = .ok (.aload_n 0, 1) := by decide +kernel
theorem dX10_clause_352 : decode cX10_clause 352 = .ok (.getfield 20, 3) := by decide +kernel
theorem dX10_clause_355 : decode cX10_clause 355 = .ok (.bipush 6, 2) := by decide +kernel
theorem dX10_clause_357 : decode cX10_clause 357 = .ok (.iload_n 3, 1) := by decide +kernel
theorem dX10_clause_358 : decode cX10_clause 358 = .ok (.iastore, 1) := by decide +kernel
theorem dX10_clause_359 : decode cX10_clause 359 = .ok (.goto 40, 3) := by decide +kernel
theorem dX10_clause_362 : decode cX10_clause 362 = .ok (.aload_n 0, 1) := by decide +kernel
theorem dX10_clause_363 : decode cX10_clause 363 = .ok (.iconst 0, 1) := by decide +kernel
theorem dX10_clause_364 : decode cX10_clause 364 = .ok (.bipush 9, 2) := by decide +kernel
theorem dX10_clause_366 : decode cX10_clause 366 = .ok (.invokevirtual 195, 3) := by decide +kernel
theorem dX10_clause_369 : decode cX10_clause 369 = .ok (.istore_n 2, 1) := by decide +kernel
theorem dX10_clause_370 : decode cX10_clause 370 = .ok (.aload_n 0, 1) := by decide +kernel
theorem dX10_clause_371 : decode cX10_clause 371 = .ok (.getfield 149, 3) := by decide +kernel
theorem dX10_clause_374 : decode cX10_clause 374 = .ok (.ifCond .ne 25, 3) := by decide +kernel
theorem dX10_clause_377 : decode cX10_clause 377 = .ok (.aload_n 0, 1) := by decide +kernel
theorem dX10_clause_378 : decode cX10_clause 378 = .ok (.getfield 38, 3) := by decide +kernel
theorem dX10_clause_381 : decode cX10_clause 381 = .ok (.iload_n 1, 1) := by decide +kernel
theorem dX10_clause_382 : decode cX10_clause 382 = .ok (.bipush 6, 2) := by decide +kernel
theorem dX10_clause_384 : decode cX10_clause 384 = .ok (.if_icmp .ne 8, 3) := by decide +kernel
theorem dX10_clause_387 : decode cX10_clause 387 = .ok (.bipush 24, 2) := by decide +kernel
theorem dX10_clause_389 : decode cX10_clause 389 = .ok (.goto 5, 3) := by decide +kernel
theorem dX10_clause_392 : decode cX10_clause 392 = .ok (.bipush 25, 2) := by decide +kernel
theorem dX10_clause_394 : decode cX10_clause 394 = .ok (.iload_n 2, 1) := by decide +kernel
theorem dX10_clause_395 : decode cX10_clause 395 = .ok (.iastore, 1) := by decide +kernel
theorem dX10_clause_396 : decode cX10_clause 396 = .ok (.goto 3, 3) := by decide +kernel
theorem dX10_clause_399 : decode cX10_clause 399 = .ok (.iload_n 1, 1) := by decide +kernel
theorem dX10_clause_400 : decode cX10_clause 400 = .ok (.ifCond .le 29, 3) := by decide +kernel
theorem dX10_clause_403 : decode cX10_clause 403 = .ok (.iload_n 1, 1) := by decide +kernel
theorem dX10_clause_404 : decode cX10_clause 404 = .ok (.iconst 5, 1) := by decide +kernel
theorem dX10_clause_405 : decode cX10_clause 405 = .ok (.if_icmp .ge 24, 3) := by decide +kernel
theorem dX10_clause_408 : decode cX10_clause 408 = .ok (.aload_n 0, 1) := by decide +kernel
theorem dX10_clause_409 : decode cX10_clause 409 = .ok (.getfield 20, 3) := by decide +kernel
theorem dX10_clause_412 : decode cX10_clause 412 = .ok (.iload_n 1, 1) := by decide +kernel
theorem dX10_clause_413 : decode cX10_clause 413 = .ok (.dup2, 1) := by decide +kernel
theorem dX10_clause_414 : decode cX10_clause 414 = .ok (.iaload, 1) := by decide +kernel
theorem dX10_clause_415 : decode cX10_clause 415 = .ok (.aload_n 0, 1) := by decide +kernel
theorem dX10_clause_416 : decode cX10_clause 416 = .ok (.getfield 149, 3) := by decide +kernel
theorem dX10_clause_419 : decode cX10_clause 419 = .ok (.ifCond .ne 7, 3) := by decide +kernel
theorem dX10_clause_422 : decode cX10_clause 422 = .ok (.iconst 1, 1) := by decide +kernel
theorem dX10_clause_423 : decode cX10_clause 423 = .ok (.goto 4, 3) := by decide +kernel
theorem dX10_clause_426 : decode cX10_clause 426 = .ok (.iconst 0, 1) := by decide +kernel
theorem dX10_clause_427 : decode cX10_clause 427 = .ok (.iadd, 1) := by decide +kernel
theorem dX10_clause_428 : decode cX10_clause 428 = .ok (.iastore, 1) := by decide +kernel
theorem dX10_clause_429 : decode cX10_clause 429 = .ok (.aload_n 0, 1) := by decide +kernel
theorem dX10_clause_430 : decode cX10_clause 430 = .ok (.bipush 59, 2) := by decide +kernel
theorem dX10_clause_432 : decode cX10_clause 432 = .ok (.invokevirtual 208, 3) := by decide +kernel
theorem dX10_clause_435 : decode cX10_clause 435 = .ok (.return_, 1) := by decide +kernel
theorem dX10_road_0 : decode cX10_road 0 = .ok (.aload_n 0, 1) := by decide +kernel
theorem dX10_road_1 : decode cX10_road 1 = .ok (.iconst 0, 1) := by decide +kernel
theorem dX10_road_2 : decode cX10_road 2 = .ok (.putfield 133, 3) := by decide +kernel
theorem dX10_road_5 : decode cX10_road 5 = .ok (.aload_n 0, 1) := by decide +kernel
theorem dX10_road_6 : decode cX10_road 6 = .ok (.iload_n 1, 1) := by decide +kernel
theorem dX10_road_7 : decode cX10_road 7 = .ok (.iconst 0, 1) := by decide +kernel
theorem dX10_road_8 : decode cX10_road 8 = .ok (.aload_n 0, 1) := by decide +kernel
theorem dX10_road_9 : decode cX10_road 9 = .ok (.getfield 136, 3) := by decide +kernel
theorem dX10_road_12 : decode cX10_road 12 = .ok (.invokestatic 167, 3) := by decide +kernel
theorem dX10_road_15 : decode cX10_road 15 = .ok (.ifCond .ne 7, 3) := by decide +kernel
theorem dX10_road_18 : decode cX10_road 18 = .ok (.iconst 1, 1) := by decide +kernel
theorem dX10_road_19 : decode cX10_road 19 = .ok (.goto 4, 3) := by decide +kernel
theorem dX10_road_22 : decode cX10_road 22 = .ok (.iconst 0, 1) := by decide +kernel
theorem dX10_road_23 : decode cX10_road 23 = .ok (.iconst 1, 1) := by decide +kernel
theorem dX10_road_24 : decode cX10_road 24 = .ok (.iconst 1, 1) := by decide +kernel
theorem dX10_road_25 : decode cX10_road 25 = .ok (.invokevirtual 212, 3) := by decide +kernel
theorem dX10_road_28 : decode cX10_road 28 = .ok (.ifCond .eq 5, 3) := by decide +kernel
theorem dX10_road_31 : decode cX10_road 31 = .ok (.iconst 0, 1) := by decide +kernel
theorem dX10_road_32 : decode cX10_road 32 = .ok (.ireturn, 1) := by decide +kernel
theorem dX10_road_33 : decode cX10_road 33 = .ok (.aload_n 0, 1) := by decide +kernel
theorem dX10_road_34 : decode cX10_road 34 = .ok (.iload_n 1, 1) := by decide +kernel
theorem dX10_road_35 : decode cX10_road 35 = .ok (.invokevirtual 216, 3) := by decide +kernel
theorem dX10_road_38 : decode cX10_road 38 = .ok (.aload_n 0, 1) := by decide +kernel
theorem dX10_road_39 : decode cX10_road 39 = .ok (.invokevirtual 123, 3) := by decide +kernel
theorem dX10_road_42 : decode cX10_road 42 = .ok (.aload_n 0, 1) := by decide +kernel
theorem dX10_road_43 : decode cX10_road 43 = .ok (.getfield 149, 3) := by decide +kernel
theorem dX10_road_46 : decode cX10_road 46 = .ok (.ifCond .ne 25, 3) := by decide +kernel
theorem dX10_road_49 : decode cX10_road 49 = .ok (.aload_n 0, 1) := by decide +kernel
theorem dX10_road_50 : decode cX10_road 50 = .ok (.getfield 142, 3) := by decide +kernel
theorem dX10_road_53 : decode cX10_road 53 = .ok (.aload_n 0, 1) := by decide +kernel
theorem dX10_road_54 : decode cX10_road 54 = .ok (.getfield 139, 3) := by decide +kernel
theorem dX10_road_57 : decode cX10_road 57 = .ok (.if_icmp .ge 14, 3) := by decide +kernel
theorem dX10_road_60 : decode cX10_road 60 = .ok (.aload_n 0, 1) := by decide +kernel
theorem dX10_road_61 : decode cX10_road 61 = .ok (.invokevirtual 219, 3) := by decide +kernel
theorem dX10_road_64 : decode cX10_road 64 = .ok (.aload_n 0, 1) := by decide +kernel
theorem dX10_road_65 : decode cX10_road 65 = .ok (.invokevirtual 155, 3) := by decide +kernel
theorem dX10_road_68 : decode cX10_road 68 = .ok (.goto (-26), 3) := by decide +kernel
theorem dX10_road_71 : decode cX10_road 71 = .ok (.aload_n 0, 1) := by decide +kernel
theorem dX10_road_72 : decode cX10_road 72 = .ok (.getfield 149, 3) := by decide +kernel
theorem dX10_road_75 : decode cX10_road 75 = .ok (.ifCond .eq 8, 3) := by decide +kernel
theorem dX10_road_78 : decode cX10_road 78 = .ok (.aload_n 0, 1) := by decide +kernel
theorem dX10_road_79 : decode cX10_road 79 = .ok (.invokevirtual 222, 3) := by decide +kernel
theorem dX10_road_82 : decode cX10_road 82 = .ok (.ireturn, 1) := by decide +kernel
theorem dX10_road_83 : decode cX10_road 83 = .ok (.aload_n 0, 1) := by decide +kernel
theorem dX10_road_84 : decode cX10_road 84 = .ok (.iconst (-1), 1) := by decide +kernel
theorem dX10_road_85 : decode cX10_road 85 = .ok (.putfield 9, 3) := by decide +kernel
theorem dX10_road_88 : decode cX10_road 88 = .ok (.aload_n 0, 1) := by decide +kernel
theorem dX10_road_89 : decode cX10_road 89 = .ok (.invokevirtual 126, 3) := by decide +kernel
theorem dX10_road_92 : decode cX10_road 92 = .ok (.aload_n 0, 1) := by decide +kernel
theorem dX10_road_93 : decode cX10_road 93 = .ok (.getfield 23, 3) := by decide +kernel
theorem dX10_road_96 : decode cX10_road 96 = .ok (.iconst 1, 1) := by decide +kernel
theorem dX10_road_97 : decode cX10_road 97 = .ok (.iaload, 1) := by decide +kernel
theorem dX10_road_98 : decode cX10_road 98 = .ok (.ireturn, 1) := by decide +kernel
theorem dX10_copies_0 : decode cX10_copies 0 = .ok (.iconst 0, 1) := by decide +kernel
theorem dX10_copies_1 : decode cX10_copies 1 = .ok (.istore_n 3, 1) := by decide +kernel
theorem dX10_copies_2 : decode cX10_copies 2 = .ok (.iload_n 3, 1) := by decide +kernel
theorem dX10_copies_3 : decode cX10_copies 3 = .ok (.iload_n 2, 1) := by decide +kernel
theorem dX10_copies_4 : decode cX10_copies 4 = .ok (.if_icmp .ge 15, 3) := by decide +kernel
theorem dX10_copies_7 : decode cX10_copies 7 = .ok (.aload_n 1, 1) := by decide +kernel
theorem dX10_copies_8 : decode cX10_copies 8 = .ok (.iload_n 3, 1) := by decide +kernel
theorem dX10_copies_9 : decode cX10_copies 9 = .ok (.aload_n 0, 1) := by decide +kernel
theorem dX10_copies_10 : decode cX10_copies 10 = .ok (.iload_n 3, 1) := by decide +kernel
theorem dX10_copies_11 : decode cX10_copies 11 = .ok (.iaload, 1) := by decide +kernel
theorem dX10_copies_12 : decode cX10_copies 12 = .ok (.iastore, 1) := by decide +kernel
theorem dX10_copies_13 : decode cX10_copies 13 = .ok (.iinc 3 1, 3) := by decide +kernel
theorem dX10_copies_16 : decode cX10_copies 16 = .ok (.goto (-14), 3) := by decide +kernel
theorem dX10_copies_19 : decode cX10_copies 19 = .ok (.return_, 1) := by decide +kernel
theorem dX10_standsNow_0 : decode cX10_standsNow 0 = .ok (.aload_n 0, 1) := by decide +kernel
theorem dX10_standsNow_1 : decode cX10_standsNow 1 = .ok (.getfield 20, 3) := by decide +kernel
theorem dX10_standsNow_4 : decode cX10_standsNow 4 = .ok (.aload_n 0, 1) := by decide +kernel
theorem dX10_standsNow_5 : decode cX10_standsNow 5 = .ok (.getfield 23, 3) := by decide +kernel
theorem dX10_standsNow_8 : decode cX10_standsNow 8 = .ok (.bipush 7, 2) := by decide +kernel
theorem dX10_standsNow_10 : decode cX10_standsNow 10 = .ok (.invokestatic 225, 3) := by decide +kernel
theorem dX10_standsNow_13 : decode cX10_standsNow 13 = .ok (.aload_n 0, 1) := by decide +kernel
theorem dX10_standsNow_14 : decode cX10_standsNow 14 = .ok (.getfield 26, 3) := by decide +kernel
theorem dX10_standsNow_17 : decode cX10_standsNow 17 = .ok (.aload_n 0, 1) := by decide +kernel
theorem dX10_standsNow_18 : decode cX10_standsNow 18 = .ok (.getfield 29, 3) := by decide +kernel
theorem dX10_standsNow_21 : decode cX10_standsNow 21 = .ok (.iconst 2, 1) := by decide +kernel
theorem dX10_standsNow_22 : decode cX10_standsNow 22 = .ok (.invokestatic 225, 3) := by decide +kernel
theorem dX10_standsNow_25 : decode cX10_standsNow 25 = .ok (.aload_n 0, 1) := by decide +kernel
theorem dX10_standsNow_26 : decode cX10_standsNow 26 = .ok (.getfield 32, 3) := by decide +kernel
theorem dX10_standsNow_29 : decode cX10_standsNow 29 = .ok (.aload_n 0, 1) := by decide +kernel
theorem dX10_standsNow_30 : decode cX10_standsNow 30 = .ok (.getfield 35, 3) := by decide +kernel
theorem dX10_standsNow_33 : decode cX10_standsNow 33 = .ok (.bipush 6, 2) := by decide +kernel
theorem dX10_standsNow_35 : decode cX10_standsNow 35 = .ok (.invokestatic 225, 3) := by decide +kernel
theorem dX10_standsNow_38 : decode cX10_standsNow 38 = .ok (.aload_n 0, 1) := by decide +kernel
theorem dX10_standsNow_39 : decode cX10_standsNow 39 = .ok (.getfield 38, 3) := by decide +kernel
theorem dX10_standsNow_42 : decode cX10_standsNow 42 = .ok (.aload_n 0, 1) := by decide +kernel
theorem dX10_standsNow_43 : decode cX10_standsNow 43 = .ok (.getfield 41, 3) := by decide +kernel
theorem dX10_standsNow_46 : decode cX10_standsNow 46 = .ok (.bipush 26, 2) := by decide +kernel
theorem dX10_standsNow_48 : decode cX10_standsNow 48 = .ok (.invokestatic 225, 3) := by decide +kernel
theorem dX10_standsNow_51 : decode cX10_standsNow 51 = .ok (.iconst 0, 1) := by decide +kernel
theorem dX10_standsNow_52 : decode cX10_standsNow 52 = .ok (.istore_n 1, 1) := by decide +kernel
theorem dX10_standsNow_53 : decode cX10_standsNow 53 = .ok (.iload_n 1, 1) := by decide +kernel
theorem dX10_standsNow_54 : decode cX10_standsNow 54 = .ok (.iconst 4, 1) := by decide +kernel
theorem dX10_standsNow_55 : decode cX10_standsNow 55 = .ok (.if_icmp .ge 25, 3) := by decide +kernel
theorem dX10_standsNow_58 : decode cX10_standsNow 58 = .ok (.aload_n 0, 1) := by decide +kernel
theorem dX10_standsNow_59 : decode cX10_standsNow 59 = .ok (.getfield 46, 3) := by decide +kernel
theorem dX10_standsNow_62 : decode cX10_standsNow 62 = .ok (.iload_n 1, 1) := by decide +kernel
theorem dX10_standsNow_63 : decode cX10_standsNow 63 = .ok (.aaload, 1) := by decide +kernel
theorem dX10_standsNow_64 : decode cX10_standsNow 64 = .ok (.aload_n 0, 1) := by decide +kernel
theorem dX10_standsNow_65 : decode cX10_standsNow 65 = .ok (.getfield 49, 3) := by decide +kernel
theorem dX10_standsNow_68 : decode cX10_standsNow 68 = .ok (.iload_n 1, 1) := by decide +kernel
theorem dX10_standsNow_69 : decode cX10_standsNow 69 = .ok (.aaload, 1) := by decide +kernel
theorem dX10_standsNow_70 : decode cX10_standsNow 70 = .ok (.iconst 2, 1) := by decide +kernel
theorem dX10_standsNow_71 : decode cX10_standsNow 71 = .ok (.invokestatic 225, 3) := by decide +kernel
theorem dX10_standsNow_74 : decode cX10_standsNow 74 = .ok (.iinc 1 1, 3) := by decide +kernel
theorem dX10_standsNow_77 : decode cX10_standsNow 77 = .ok (.goto (-24), 3) := by decide +kernel
theorem dX10_standsNow_80 : decode cX10_standsNow 80 = .ok (.iconst 0, 1) := by decide +kernel
theorem dX10_standsNow_81 : decode cX10_standsNow 81 = .ok (.istore_n 1, 1) := by decide +kernel
theorem dX10_standsNow_82 : decode cX10_standsNow 82 = .ok (.iload_n 1, 1) := by decide +kernel
theorem dX10_standsNow_83 : decode cX10_standsNow 83 = .ok (.iconst 3, 1) := by decide +kernel
theorem dX10_standsNow_84 : decode cX10_standsNow 84 = .ok (.if_icmp .ge 16, 3) := by decide +kernel
theorem dX10_standsNow_87 : decode cX10_standsNow 87 = .ok (.aload_n 0, 1) := by decide +kernel
theorem dX10_standsNow_88 : decode cX10_standsNow 88 = .ok (.getfield 52, 3) := by decide +kernel
theorem dX10_standsNow_91 : decode cX10_standsNow 91 = .ok (.iload_n 1, 1) := by decide +kernel
theorem dX10_standsNow_92 : decode cX10_standsNow 92 = .ok (.iconst 0, 1) := by decide +kernel
theorem dX10_standsNow_93 : decode cX10_standsNow 93 = .ok (.iastore, 1) := by decide +kernel
theorem dX10_standsNow_94 : decode cX10_standsNow 94 = .ok (.iinc 1 1, 3) := by decide +kernel
theorem dX10_standsNow_97 : decode cX10_standsNow 97 = .ok (.goto (-15), 3) := by decide +kernel
theorem dX10_standsNow_100 : decode cX10_standsNow 100 = .ok (.aload_n 0, 1) := by decide +kernel
theorem dX10_standsNow_101 : decode cX10_standsNow 101 = .ok (.iconst 0, 1) := by decide +kernel
theorem dX10_standsNow_102 : decode cX10_standsNow 102 = .ok (.putfield 229, 3) := by decide +kernel
theorem dX10_standsNow_105 : decode cX10_standsNow 105 = .ok (.aload_n 0, 1) := by decide +kernel
theorem dX10_standsNow_106 : decode cX10_standsNow 106 = .ok (.iconst 0, 1) := by decide +kernel
theorem dX10_standsNow_107 : decode cX10_standsNow 107 = .ok (.putfield 232, 3) := by decide +kernel
theorem dX10_standsNow_110 : decode cX10_standsNow 110 = .ok (.aload_n 0, 1) := by decide +kernel
theorem dX10_standsNow_111 : decode cX10_standsNow 111 = .ok (.iconst 0, 1) := by decide +kernel
theorem dX10_standsNow_112 : decode cX10_standsNow 112 = .ok (.putfield 235, 3) := by decide +kernel
theorem dX10_standsNow_115 : decode cX10_standsNow 115 = .ok (.return_, 1) := by decide +kernel
theorem dX10_notes_0 : decode cX10_notes 0 = .ok (.aload_n 0, 1) := by decide +kernel
theorem dX10_notes_1 : decode cX10_notes 1 = .ok (.getfield 149, 3) := by decide +kernel
theorem dX10_notes_4 : decode cX10_notes 4 = .ok (.ifCond .eq 4, 3) := by decide +kernel
theorem dX10_notes_7 : decode cX10_notes 7 = .ok (.return_, 1) := by decide +kernel
theorem dX10_notes_8 : decode cX10_notes 8 = .ok (.aload_n 0, 1) := by decide +kernel
theorem dX10_notes_9 : decode cX10_notes 9 = .ok (.getfield 58, 3) := by decide +kernel
theorem dX10_notes_12 : decode cX10_notes 12 = .ok (.iconst 2, 1) := by decide +kernel
theorem dX10_notes_13 : decode cX10_notes 13 = .ok (.aload_n 0, 1) := by decide +kernel
theorem dX10_notes_14 : decode cX10_notes 14 = .ok (.getfield 238, 3) := by decide +kernel
theorem dX10_notes_17 : decode cX10_notes 17 = .ok (.imul, 1) := by decide +kernel
theorem dX10_notes_18 : decode cX10_notes 18 = .ok (.iload_n 1, 1) := by decide +kernel
theorem dX10_notes_19 : decode cX10_notes 19 = .ok (.iastore, 1) := by decide +kernel
theorem dX10_notes_20 : decode cX10_notes 20 = .ok (.aload_n 0, 1) := by decide +kernel
theorem dX10_notes_21 : decode cX10_notes 21 = .ok (.getfield 58, 3) := by decide +kernel
theorem dX10_notes_24 : decode cX10_notes 24 = .ok (.iconst 2, 1) := by decide +kernel
theorem dX10_notes_25 : decode cX10_notes 25 = .ok (.aload_n 0, 1) := by decide +kernel
theorem dX10_notes_26 : decode cX10_notes 26 = .ok (.getfield 238, 3) := by decide +kernel
theorem dX10_notes_29 : decode cX10_notes 29 = .ok (.imul, 1) := by decide +kernel
theorem dX10_notes_30 : decode cX10_notes 30 = .ok (.iconst 1, 1) := by decide +kernel
theorem dX10_notes_31 : decode cX10_notes 31 = .ok (.iadd, 1) := by decide +kernel
theorem dX10_notes_32 : decode cX10_notes 32 = .ok (.iload_n 2, 1) := by decide +kernel
theorem dX10_notes_33 : decode cX10_notes 33 = .ok (.iastore, 1) := by decide +kernel
theorem dX10_notes_34 : decode cX10_notes 34 = .ok (.aload_n 0, 1) := by decide +kernel
theorem dX10_notes_35 : decode cX10_notes 35 = .ok (.dup, 1) := by decide +kernel
theorem dX10_notes_36 : decode cX10_notes 36 = .ok (.getfield 238, 3) := by decide +kernel
theorem dX10_notes_39 : decode cX10_notes 39 = .ok (.iconst 1, 1) := by decide +kernel
theorem dX10_notes_40 : decode cX10_notes 40 = .ok (.iadd, 1) := by decide +kernel
theorem dX10_notes_41 : decode cX10_notes 41 = .ok (.putfield 238, 3) := by decide +kernel
theorem dX10_notes_44 : decode cX10_notes 44 = .ok (.return_, 1) := by decide +kernel
theorem dX10_opens_0 : decode cX10_opens 0 = .ok (.aload_n 0, 1) := by decide +kernel
theorem dX10_opens_1 : decode cX10_opens 1 = .ok (.getfield 149, 3) := by decide +kernel
theorem dX10_opens_4 : decode cX10_opens 4 = .ok (.ifCond .ne 24, 3) := by decide +kernel
theorem dX10_opens_7 : decode cX10_opens 7 = .ok (.aload_n 0, 1) := by decide +kernel
theorem dX10_opens_8 : decode cX10_opens 8 = .ok (.getfield 192, 3) := by decide +kernel
theorem dX10_opens_11 : decode cX10_opens 11 = .ok (.bipush 6, 2) := by decide +kernel
theorem dX10_opens_13 : decode cX10_opens 13 = .ok (.if_icmp .ne 15, 3) := by decide +kernel
theorem dX10_opens_16 : decode cX10_opens 16 = .ok (.aload_n 0, 1) := by decide +kernel
theorem dX10_opens_17 : decode cX10_opens 17 = .ok (.iconst 3, 1) := by decide +kernel
theorem dX10_opens_18 : decode cX10_opens 18 = .ok (.aload_n 0, 1) := by decide +kernel
theorem dX10_opens_19 : decode cX10_opens 19 = .ok (.getfield 142, 3) := by decide +kernel
theorem dX10_opens_22 : decode cX10_opens 22 = .ok (.invokevirtual 162, 3) := by decide +kernel
theorem dX10_opens_25 : decode cX10_opens 25 = .ok (.goto 20, 3) := by decide +kernel
theorem dX10_opens_28 : decode cX10_opens 28 = .ok (.aload_n 0, 1) := by decide +kernel
theorem dX10_opens_29 : decode cX10_opens 29 = .ok (.getfield 149, 3) := by decide +kernel
theorem dX10_opens_32 : decode cX10_opens 32 = .ok (.ifCond .ne 13, 3) := by decide +kernel
theorem dX10_opens_35 : decode cX10_opens 35 = .ok (.aload_n 0, 1) := by decide +kernel
theorem dX10_opens_36 : decode cX10_opens 36 = .ok (.dup, 1) := by decide +kernel
theorem dX10_opens_37 : decode cX10_opens 37 = .ok (.getfield 192, 3) := by decide +kernel
theorem dX10_opens_40 : decode cX10_opens 40 = .ok (.iconst 1, 1) := by decide +kernel
theorem dX10_opens_41 : decode cX10_opens 41 = .ok (.iadd, 1) := by decide +kernel
theorem dX10_opens_42 : decode cX10_opens 42 = .ok (.putfield 192, 3) := by decide +kernel
theorem dX10_opens_45 : decode cX10_opens 45 = .ok (.aload_n 0, 1) := by decide +kernel
theorem dX10_opens_46 : decode cX10_opens 46 = .ok (.getfield 149, 3) := by decide +kernel
theorem dX10_opens_49 : decode cX10_opens 49 = .ok (.ifCond .ne 7, 3) := by decide +kernel
theorem dX10_opens_52 : decode cX10_opens 52 = .ok (.iconst 1, 1) := by decide +kernel
theorem dX10_opens_53 : decode cX10_opens 53 = .ok (.goto 4, 3) := by decide +kernel
theorem dX10_opens_56 : decode cX10_opens 56 = .ok (.iconst 0, 1) := by decide +kernel
theorem dX10_opens_57 : decode cX10_opens 57 = .ok (.ireturn, 1) := by decide +kernel
theorem dX10_sum_0 : decode cX10_sum 0 = .ok (.aload_n 0, 1) := by decide +kernel
theorem dX10_sum_1 : decode cX10_sum 1 = .ok (.invokevirtual 241, 3) := by decide +kernel
theorem dX10_sum_4 : decode cX10_sum 4 = .ok (.aload_n 0, 1) := by decide +kernel
theorem dX10_sum_5 : decode cX10_sum 5 = .ok (.getfield 149, 3) := by decide +kernel
theorem dX10_sum_8 : decode cX10_sum 8 = .ok (.ifCond .ne 50, 3) := by decide +kernel
theorem dX10_sum_11 : decode cX10_sum 11 = .ok (.aload_n 0, 1) := by decide +kernel
theorem dX10_sum_12 : decode cX10_sum 12 = .ok (.bipush 43, 2) := by decide +kernel
theorem dX10_sum_14 : decode cX10_sum 14 = .ok (.invokevirtual 244, 3) := by decide +kernel
theorem dX10_sum_17 : decode cX10_sum 17 = .ok (.ifCond .eq 7, 3) := by decide +kernel
theorem dX10_sum_20 : decode cX10_sum 20 = .ok (.iconst 2, 1) := by decide +kernel
theorem dX10_sum_21 : decode cX10_sum 21 = .ok (.goto 17, 3) := by decide +kernel
theorem dX10_sum_24 : decode cX10_sum 24 = .ok (.aload_n 0, 1) := by decide +kernel
theorem dX10_sum_25 : decode cX10_sum 25 = .ok (.bipush 45, 2) := by decide +kernel
theorem dX10_sum_27 : decode cX10_sum 27 = .ok (.invokevirtual 244, 3) := by decide +kernel
theorem dX10_sum_30 : decode cX10_sum 30 = .ok (.ifCond .eq 7, 3) := by decide +kernel
theorem dX10_sum_33 : decode cX10_sum 33 = .ok (.iconst 3, 1) := by decide +kernel
theorem dX10_sum_34 : decode cX10_sum 34 = .ok (.goto 4, 3) := by decide +kernel
theorem dX10_sum_37 : decode cX10_sum 37 = .ok (.iconst (-1), 1) := by decide +kernel
theorem dX10_sum_38 : decode cX10_sum 38 = .ok (.istore_n 1, 1) := by decide +kernel
theorem dX10_sum_39 : decode cX10_sum 39 = .ok (.iload_n 1, 1) := by decide +kernel
theorem dX10_sum_40 : decode cX10_sum 40 = .ok (.iconst (-1), 1) := by decide +kernel
theorem dX10_sum_41 : decode cX10_sum 41 = .ok (.if_icmp .ne 4, 3) := by decide +kernel
theorem dX10_sum_44 : decode cX10_sum 44 = .ok (.return_, 1) := by decide +kernel
theorem dX10_sum_45 : decode cX10_sum 45 = .ok (.aload_n 0, 1) := by decide +kernel
theorem dX10_sum_46 : decode cX10_sum 46 = .ok (.invokevirtual 241, 3) := by decide +kernel
theorem dX10_sum_49 : decode cX10_sum 49 = .ok (.aload_n 0, 1) := by decide +kernel
theorem dX10_sum_50 : decode cX10_sum 50 = .ok (.iload_n 1, 1) := by decide +kernel
theorem dX10_sum_51 : decode cX10_sum 51 = .ok (.iconst 0, 1) := by decide +kernel
theorem dX10_sum_52 : decode cX10_sum 52 = .ok (.invokevirtual 247, 3) := by decide +kernel
theorem dX10_sum_55 : decode cX10_sum 55 = .ok (.goto (-51), 3) := by decide +kernel
theorem dX10_sum_58 : decode cX10_sum 58 = .ok (.return_, 1) := by decide +kernel
theorem dX10_product_0 : decode cX10_product 0 = .ok (.aload_n 0, 1) := by decide +kernel
theorem dX10_product_1 : decode cX10_product 1 = .ok (.invokevirtual 250, 3) := by decide +kernel
theorem dX10_product_4 : decode cX10_product 4 = .ok (.aload_n 0, 1) := by decide +kernel
theorem dX10_product_5 : decode cX10_product 5 = .ok (.getfield 149, 3) := by decide +kernel
theorem dX10_product_8 : decode cX10_product 8 = .ok (.ifCond .ne 50, 3) := by decide +kernel
theorem dX10_product_11 : decode cX10_product 11 = .ok (.aload_n 0, 1) := by decide +kernel
theorem dX10_product_12 : decode cX10_product 12 = .ok (.bipush 42, 2) := by decide +kernel
theorem dX10_product_14 : decode cX10_product 14 = .ok (.invokevirtual 244, 3) := by decide +kernel
theorem dX10_product_17 : decode cX10_product 17 = .ok (.ifCond .eq 7, 3) := by decide +kernel
theorem dX10_product_20 : decode cX10_product 20 = .ok (.iconst 4, 1) := by decide +kernel
theorem dX10_product_21 : decode cX10_product 21 = .ok (.goto 17, 3) := by decide +kernel
theorem dX10_product_24 : decode cX10_product 24 = .ok (.aload_n 0, 1) := by decide +kernel
theorem dX10_product_25 : decode cX10_product 25 = .ok (.bipush 47, 2) := by decide +kernel
theorem dX10_product_27 : decode cX10_product 27 = .ok (.invokevirtual 244, 3) := by decide +kernel
theorem dX10_product_30 : decode cX10_product 30 = .ok (.ifCond .eq 7, 3) := by decide +kernel
theorem dX10_product_33 : decode cX10_product 33 = .ok (.iconst 5, 1) := by decide +kernel
theorem dX10_product_34 : decode cX10_product 34 = .ok (.goto 4, 3) := by decide +kernel
theorem dX10_product_37 : decode cX10_product 37 = .ok (.iconst (-1), 1) := by decide +kernel
theorem dX10_product_38 : decode cX10_product 38 = .ok (.istore_n 1, 1) := by decide +kernel
theorem dX10_product_39 : decode cX10_product 39 = .ok (.iload_n 1, 1) := by decide +kernel
theorem dX10_product_40 : decode cX10_product 40 = .ok (.iconst (-1), 1) := by decide +kernel
theorem dX10_product_41 : decode cX10_product 41 = .ok (.if_icmp .ne 4, 3) := by decide +kernel
theorem dX10_product_44 : decode cX10_product 44 = .ok (.return_, 1) := by decide +kernel
theorem dX10_product_45 : decode cX10_product 45 = .ok (.aload_n 0, 1) := by decide +kernel
theorem dX10_product_46 : decode cX10_product 46 = .ok (.invokevirtual 250, 3) := by decide +kernel
theorem dX10_product_49 : decode cX10_product 49 = .ok (.aload_n 0, 1) := by decide +kernel
theorem dX10_product_50 : decode cX10_product 50 = .ok (.iload_n 1, 1) := by decide +kernel
theorem dX10_product_51 : decode cX10_product 51 = .ok (.iconst 0, 1) := by decide +kernel
theorem dX10_product_52 : decode cX10_product 52 = .ok (.invokevirtual 247, 3) := by decide +kernel
theorem dX10_product_55 : decode cX10_product 55 = .ok (.goto (-51), 3) := by decide +kernel
theorem dX10_product_58 : decode cX10_product 58 = .ok (.return_, 1) := by decide +kernel
theorem dX10_knownHere_0 : decode cX10_knownHere 0 = .ok (.aload_n 0, 1) := by decide +kernel
theorem dX10_knownHere_1 : decode cX10_knownHere 1 = .ok (.bipush 18, 2) := by decide +kernel
theorem dX10_knownHere_3 : decode cX10_knownHere 3 = .ok (.iconst 5, 1) := by decide +kernel
theorem dX10_knownHere_4 : decode cX10_knownHere 4 = .ok (.iconst 1, 1) := by decide +kernel
theorem dX10_knownHere_5 : decode cX10_knownHere 5 = .ok (.iconst 3, 1) := by decide +kernel
theorem dX10_knownHere_6 : decode cX10_knownHere 6 = .ok (.bipush 8, 2) := by decide +kernel
theorem dX10_knownHere_8 : decode cX10_knownHere 8 = .ok (.iconst 0, 1) := by decide +kernel
theorem dX10_knownHere_9 : decode cX10_knownHere 9 = .ok (.invokevirtual 253, 3) := by decide +kernel
theorem dX10_knownHere_12 : decode cX10_knownHere 12 = .ok (.ifCond .eq 5, 3) := by decide +kernel
theorem dX10_knownHere_15 : decode cX10_knownHere 15 = .ok (.iconst 0, 1) := by decide +kernel
theorem dX10_knownHere_16 : decode cX10_knownHere 16 = .ok (.ireturn, 1) := by decide +kernel
theorem dX10_knownHere_17 : decode cX10_knownHere 17 = .ok (.aload_n 0, 1) := by decide +kernel
theorem dX10_knownHere_18 : decode cX10_knownHere 18 = .ok (.bipush 6, 2) := by decide +kernel
theorem dX10_knownHere_20 : decode cX10_knownHere 20 = .ok (.bipush 15, 2) := by decide +kernel
theorem dX10_knownHere_22 : decode cX10_knownHere 22 = .ok (.bipush 7, 2) := by decide +kernel
theorem dX10_knownHere_24 : decode cX10_knownHere 24 = .ok (.iconst 0, 1) := by decide +kernel
theorem dX10_knownHere_25 : decode cX10_knownHere 25 = .ok (.iconst 0, 1) := by decide +kernel
theorem dX10_knownHere_26 : decode cX10_knownHere 26 = .ok (.iconst 0, 1) := by decide +kernel
theorem dX10_knownHere_27 : decode cX10_knownHere 27 = .ok (.invokevirtual 253, 3) := by decide +kernel
theorem dX10_knownHere_30 : decode cX10_knownHere 30 = .ok (.ifCond .eq 5, 3) := by decide +kernel
theorem dX10_knownHere_33 : decode cX10_knownHere 33 = .ok (.iconst 1, 1) := by decide +kernel
theorem dX10_knownHere_34 : decode cX10_knownHere 34 = .ok (.ireturn, 1) := by decide +kernel
theorem dX10_knownHere_35 : decode cX10_knownHere 35 = .ok (.aload_n 0, 1) := by decide +kernel
theorem dX10_knownHere_36 : decode cX10_knownHere 36 = .ok (.iconst 2, 1) := by decide +kernel
theorem dX10_knownHere_37 : decode cX10_knownHere 37 = .ok (.bipush 12, 2) := by decide +kernel
theorem dX10_knownHere_39 : decode cX10_knownHere 39 = .ok (.bipush 9, 2) := by decide +kernel
theorem dX10_knownHere_41 : decode cX10_knownHere 41 = .ok (.bipush 14, 2) := by decide +kernel
theorem dX10_knownHere_43 : decode cX10_knownHere 43 = .ok (.iconst 4, 1) := by decide +kernel
theorem dX10_knownHere_44 : decode cX10_knownHere 44 = .ok (.iconst 0, 1) := by decide +kernel
theorem dX10_knownHere_45 : decode cX10_knownHere 45 = .ok (.invokevirtual 253, 3) := by decide +kernel
theorem dX10_knownHere_48 : decode cX10_knownHere 48 = .ok (.ifCond .eq 5, 3) := by decide +kernel
theorem dX10_knownHere_51 : decode cX10_knownHere 51 = .ok (.iconst 2, 1) := by decide +kernel
theorem dX10_knownHere_52 : decode cX10_knownHere 52 = .ok (.ireturn, 1) := by decide +kernel
theorem dX10_knownHere_53 : decode cX10_knownHere 53 = .ok (.aload_n 0, 1) := by decide +kernel
theorem dX10_knownHere_54 : decode cX10_knownHere 54 = .ok (.iconst 1, 1) := by decide +kernel
theorem dX10_knownHere_55 : decode cX10_knownHere 55 = .ok (.bipush 7, 2) := by decide +kernel
theorem dX10_knownHere_57 : decode cX10_knownHere 57 = .ok (.iconst 5, 1) := by decide +kernel
theorem dX10_knownHere_58 : decode cX10_knownHere 58 = .ok (.iconst 0, 1) := by decide +kernel
theorem dX10_knownHere_59 : decode cX10_knownHere 59 = .ok (.iconst 0, 1) := by decide +kernel
theorem dX10_knownHere_60 : decode cX10_knownHere 60 = .ok (.iconst 0, 1) := by decide +kernel
theorem dX10_knownHere_61 : decode cX10_knownHere 61 = .ok (.invokevirtual 253, 3) := by decide +kernel
theorem dX10_knownHere_64 : decode cX10_knownHere 64 = .ok (.ifCond .eq 5, 3) := by decide +kernel
theorem dX10_knownHere_67 : decode cX10_knownHere 67 = .ok (.iconst 3, 1) := by decide +kernel
theorem dX10_knownHere_68 : decode cX10_knownHere 68 = .ok (.ireturn, 1) := by decide +kernel
theorem dX10_knownHere_69 : decode cX10_knownHere 69 = .ok (.aload_n 0, 1) := by decide +kernel
theorem dX10_knownHere_70 : decode cX10_knownHere 70 = .ok (.bipush 23, 2) := by decide +kernel
theorem dX10_knownHere_72 : decode cX10_knownHere 72 = .ok (.iconst 5, 1) := by decide +kernel
theorem dX10_knownHere_73 : decode cX10_knownHere 73 = .ok (.bipush 20, 2) := by decide +kernel
theorem dX10_knownHere_75 : decode cX10_knownHere 75 = .ok (.iconst 0, 1) := by decide +kernel
theorem dX10_knownHere_76 : decode cX10_knownHere 76 = .ok (.iconst 0, 1) := by decide +kernel
theorem dX10_knownHere_77 : decode cX10_knownHere 77 = .ok (.iconst 0, 1) := by decide +kernel
theorem dX10_knownHere_78 : decode cX10_knownHere 78 = .ok (.invokevirtual 253, 3) := by decide +kernel
theorem dX10_knownHere_81 : decode cX10_knownHere 81 = .ok (.ifCond .eq 5, 3) := by decide +kernel
theorem dX10_knownHere_84 : decode cX10_knownHere 84 = .ok (.iconst 4, 1) := by decide +kernel
theorem dX10_knownHere_85 : decode cX10_knownHere 85 = .ok (.ireturn, 1) := by decide +kernel
theorem dX10_knownHere_86 : decode cX10_knownHere 86 = .ok (.aload_n 0, 1) := by decide +kernel
theorem dX10_knownHere_87 : decode cX10_knownHere 87 = .ok (.bipush 20, 2) := by decide +kernel
theorem dX10_knownHere_89 : decode cX10_knownHere 89 = .ok (.bipush 9, 2) := by decide +kernel
theorem dX10_knownHere_91 : decode cX10_knownHere 91 = .ok (.bipush 12, 2) := by decide +kernel
theorem dX10_knownHere_93 : decode cX10_knownHere 93 = .ok (.bipush 20, 2) := by decide +kernel
theorem dX10_knownHere_95 : decode cX10_knownHere 95 = .ok (.iconst 0, 1) := by decide +kernel
theorem dX10_knownHere_96 : decode cX10_knownHere 96 = .ok (.iconst 0, 1) := by decide +kernel
theorem dX10_knownHere_97 : decode cX10_knownHere 97 = .ok (.invokevirtual 253, 3) := by decide +kernel
theorem dX10_knownHere_100 : decode cX10_knownHere 100 = .ok (.ifCond .eq 5, 3) := by decide +kernel
theorem dX10_knownHere_103 : decode cX10_knownHere 103 = .ok (.iconst 5, 1) := by decide +kernel
theorem dX10_knownHere_104 : decode cX10_knownHere 104 = .ok (.ireturn, 1) := by decide +kernel
theorem dX10_knownHere_105 : decode cX10_knownHere 105 = .ok (.aload_n 0, 1) := by decide +kernel
theorem dX10_knownHere_106 : decode cX10_knownHere 106 = .ok (.bipush 16, 2) := by decide +kernel
theorem dX10_knownHere_108 : decode cX10_knownHere 108 = .ok (.iconst 1, 1) := by decide +kernel
theorem dX10_knownHere_109 : decode cX10_knownHere 109 = .ok (.iconst 3, 1) := by decide +kernel
theorem dX10_knownHere_110 : decode cX10_knownHere 110 = .ok (.iconst 5, 1) := by decide +kernel
theorem dX10_knownHere_111 : decode cX10_knownHere 111 = .ok (.iconst 0, 1) := by decide +kernel
theorem dX10_knownHere_112 : decode cX10_knownHere 112 = .ok (.iconst 0, 1) := by decide +kernel
theorem dX10_knownHere_113 : decode cX10_knownHere 113 = .ok (.invokevirtual 253, 3) := by decide +kernel
theorem dX10_knownHere_116 : decode cX10_knownHere 116 = .ok (.ifCond .eq 6, 3) := by decide +kernel
theorem dX10_knownHere_119 : decode cX10_knownHere 119 = .ok (.bipush 6, 2) := by decide +kernel
theorem dX10_knownHere_121 : decode cX10_knownHere 121 = .ok (.ireturn, 1) := by decide +kernel
theorem dX10_knownHere_122 : decode cX10_knownHere 122 = .ok (.aload_n 0, 1) := by decide +kernel
theorem dX10_knownHere_123 : decode cX10_knownHere 123 = .ok (.bipush 20, 2) := by decide +kernel
theorem dX10_knownHere_125 : decode cX10_knownHere 125 = .ok (.iconst 5, 1) := by decide +kernel
theorem dX10_knownHere_126 : decode cX10_knownHere 126 = .ok (.bipush 14, 2) := by decide +kernel
theorem dX10_knownHere_128 : decode cX10_knownHere 128 = .ok (.bipush 20, 2) := by decide +kernel
theorem dX10_knownHere_130 : decode cX10_knownHere 130 = .ok (.bipush 8, 2) := by decide +kernel
theorem dX10_knownHere_132 : decode cX10_knownHere 132 = .ok (.iconst 0, 1) := by decide +kernel
theorem dX10_knownHere_133 : decode cX10_knownHere 133 = .ok (.invokevirtual 253, 3) := by decide +kernel
theorem dX10_knownHere_136 : decode cX10_knownHere 136 = .ok (.ifCond .eq 6, 3) := by decide +kernel
theorem dX10_knownHere_139 : decode cX10_knownHere 139 = .ok (.bipush 7, 2) := by decide +kernel
theorem dX10_knownHere_141 : decode cX10_knownHere 141 = .ok (.ireturn, 1) := by decide +kernel
theorem dX10_knownHere_142 : decode cX10_knownHere 142 = .ok (.aload_n 0, 1) := by decide +kernel
theorem dX10_knownHere_143 : decode cX10_knownHere 143 = .ok (.bipush 6, 2) := by decide +kernel
theorem dX10_knownHere_145 : decode cX10_knownHere 145 = .ok (.iconst 1, 1) := by decide +kernel
theorem dX10_knownHere_146 : decode cX10_knownHere 146 = .ok (.bipush 18, 2) := by decide +kernel
theorem dX10_knownHere_148 : decode cX10_knownHere 148 = .ok (.iconst 0, 1) := by decide +kernel
theorem dX10_knownHere_149 : decode cX10_knownHere 149 = .ok (.iconst 0, 1) := by decide +kernel
theorem dX10_knownHere_150 : decode cX10_knownHere 150 = .ok (.iconst 0, 1) := by decide +kernel
theorem dX10_knownHere_151 : decode cX10_knownHere 151 = .ok (.invokevirtual 253, 3) := by decide +kernel
theorem dX10_knownHere_154 : decode cX10_knownHere 154 = .ok (.ifCond .eq 6, 3) := by decide +kernel
theorem dX10_knownHere_157 : decode cX10_knownHere 157 = .ok (.bipush 8, 2) := by decide +kernel
theorem dX10_knownHere_159 : decode cX10_knownHere 159 = .ok (.ireturn, 1) := by decide +kernel
theorem dX10_knownHere_160 : decode cX10_knownHere 160 = .ok (.aload_n 0, 1) := by decide +kernel
theorem dX10_knownHere_161 : decode cX10_knownHere 161 = .ok (.bipush 13, 2) := by decide +kernel
theorem dX10_knownHere_163 : decode cX10_knownHere 163 = .ok (.iconst 5, 1) := by decide +kernel
theorem dX10_knownHere_164 : decode cX10_knownHere 164 = .ok (.bipush 20, 2) := by decide +kernel
theorem dX10_knownHere_166 : decode cX10_knownHere 166 = .ok (.iconst 0, 1) := by decide +kernel
theorem dX10_knownHere_167 : decode cX10_knownHere 167 = .ok (.iconst 0, 1) := by decide +kernel
theorem dX10_knownHere_168 : decode cX10_knownHere 168 = .ok (.iconst 0, 1) := by decide +kernel
theorem dX10_knownHere_169 : decode cX10_knownHere 169 = .ok (.invokevirtual 253, 3) := by decide +kernel
theorem dX10_knownHere_172 : decode cX10_knownHere 172 = .ok (.ifCond .eq 6, 3) := by decide +kernel
theorem dX10_knownHere_175 : decode cX10_knownHere 175 = .ok (.bipush 9, 2) := by decide +kernel
theorem dX10_knownHere_177 : decode cX10_knownHere 177 = .ok (.ireturn, 1) := by decide +kernel
theorem dX10_knownHere_178 : decode cX10_knownHere 178 = .ok (.aload_n 0, 1) := by decide +kernel
theorem dX10_knownHere_179 : decode cX10_knownHere 179 = .ok (.bipush 15, 2) := by decide +kernel
theorem dX10_knownHere_181 : decode cX10_knownHere 181 = .ok (.bipush 20, 2) := by decide +kernel
theorem dX10_knownHere_183 : decode cX10_knownHere 183 = .ok (.bipush 8, 2) := by decide +kernel
theorem dX10_knownHere_185 : decode cX10_knownHere 185 = .ok (.iconst 5, 1) := by decide +kernel
theorem dX10_knownHere_186 : decode cX10_knownHere 186 = .ok (.bipush 18, 2) := by decide +kernel
theorem dX10_knownHere_188 : decode cX10_knownHere 188 = .ok (.iconst 0, 1) := by decide +kernel
theorem dX10_knownHere_189 : decode cX10_knownHere 189 = .ok (.invokevirtual 253, 3) := by decide +kernel
theorem dX10_knownHere_192 : decode cX10_knownHere 192 = .ok (.ifCond .eq 6, 3) := by decide +kernel
theorem dX10_knownHere_195 : decode cX10_knownHere 195 = .ok (.bipush 10, 2) := by decide +kernel
theorem dX10_knownHere_197 : decode cX10_knownHere 197 = .ok (.ireturn, 1) := by decide +kernel
theorem dX10_knownHere_198 : decode cX10_knownHere 198 = .ok (.aload_n 0, 1) := by decide +kernel
theorem dX10_knownHere_199 : decode cX10_knownHere 199 = .ok (.bipush 13, 2) := by decide +kernel
theorem dX10_knownHere_201 : decode cX10_knownHere 201 = .ok (.bipush 9, 2) := by decide +kernel
theorem dX10_knownHere_203 : decode cX10_knownHere 203 = .ok (.bipush 14, 2) := by decide +kernel
theorem dX10_knownHere_205 : decode cX10_knownHere 205 = .ok (.iconst 5, 1) := by decide +kernel
theorem dX10_knownHere_206 : decode cX10_knownHere 206 = .ok (.iconst 0, 1) := by decide +kernel
theorem dX10_knownHere_207 : decode cX10_knownHere 207 = .ok (.iconst 0, 1) := by decide +kernel
theorem dX10_knownHere_208 : decode cX10_knownHere 208 = .ok (.invokevirtual 253, 3) := by decide +kernel
theorem dX10_knownHere_211 : decode cX10_knownHere 211 = .ok (.ifCond .eq 8, 3) := by decide +kernel
theorem dX10_knownHere_214 : decode cX10_knownHere 214 = .ok (.bipush 11, 2) := by decide +kernel
theorem dX10_knownHere_216 : decode cX10_knownHere 216 = .ok (.goto 4, 3) := by decide +kernel
theorem dX10_knownHere_219 : decode cX10_knownHere 219 = .ok (.iconst (-1), 1) := by decide +kernel
theorem dX10_knownHere_220 : decode cX10_knownHere 220 = .ok (.ireturn, 1) := by decide +kernel
theorem dX10_one_0 : decode cX10_one 0 = .ok (.aload_n 0, 1) := by decide +kernel
theorem dX10_one_1 : decode cX10_one 1 = .ok (.getfield 149, 3) := by decide +kernel
theorem dX10_one_4 : decode cX10_one 4 = .ok (.ifCond .eq 4, 3) := by decide +kernel
theorem dX10_one_7 : decode cX10_one 7 = .ok (.return_, 1) := by decide +kernel
theorem dX10_one_8 : decode cX10_one 8 = .ok (.aload_n 0, 1) := by decide +kernel
theorem dX10_one_9 : decode cX10_one 9 = .ok (.invokevirtual 155, 3) := by decide +kernel
theorem dX10_one_12 : decode cX10_one 12 = .ok (.aload_n 0, 1) := by decide +kernel
theorem dX10_one_13 : decode cX10_one 13 = .ok (.bipush 12, 2) := by decide +kernel
theorem dX10_one_15 : decode cX10_one 15 = .ok (.iconst 5, 1) := by decide +kernel
theorem dX10_one_16 : decode cX10_one 16 = .ok (.iconst 1, 1) := by decide +kernel
theorem dX10_one_17 : decode cX10_one 17 = .ok (.bipush 19, 2) := by decide +kernel
theorem dX10_one_19 : decode cX10_one 19 = .ok (.bipush 20, 2) := by decide +kernel
theorem dX10_one_21 : decode cX10_one 21 = .ok (.iconst 0, 1) := by decide +kernel
theorem dX10_one_22 : decode cX10_one 22 = .ok (.invokevirtual 182, 3) := by decide +kernel
theorem dX10_one_25 : decode cX10_one 25 = .ok (.ifCond .eq 8, 3) := by decide +kernel
theorem dX10_one_28 : decode cX10_one 28 = .ok (.bipush 6, 2) := by decide +kernel
theorem dX10_one_30 : decode cX10_one 30 = .ok (.goto 26, 3) := by decide +kernel
theorem dX10_one_33 : decode cX10_one 33 = .ok (.aload_n 0, 1) := by decide +kernel
theorem dX10_one_34 : decode cX10_one 34 = .ok (.bipush 13, 2) := by decide +kernel
theorem dX10_one_36 : decode cX10_one 36 = .ok (.bipush 15, 2) := by decide +kernel
theorem dX10_one_38 : decode cX10_one 38 = .ok (.bipush 19, 2) := by decide +kernel
theorem dX10_one_40 : decode cX10_one 40 = .ok (.bipush 20, 2) := by decide +kernel
theorem dX10_one_42 : decode cX10_one 42 = .ok (.iconst 0, 1) := by decide +kernel
theorem dX10_one_43 : decode cX10_one 43 = .ok (.iconst 0, 1) := by decide +kernel
theorem dX10_one_44 : decode cX10_one 44 = .ok (.invokevirtual 182, 3) := by decide +kernel
theorem dX10_one_47 : decode cX10_one 47 = .ok (.ifCond .eq 8, 3) := by decide +kernel
theorem dX10_one_50 : decode cX10_one 50 = .ok (.bipush 7, 2) := by decide +kernel
theorem dX10_one_52 : decode cX10_one 52 = .ok (.goto 4, 3) := by decide +kernel
theorem dX10_one_55 : decode cX10_one 55 = .ok (.iconst (-1), 1) := by decide +kernel
theorem dX10_one_56 : decode cX10_one 56 = .ok (.istore_n 1, 1) := by decide +kernel
theorem dX10_one_57 : decode cX10_one 57 = .ok (.iload_n 1, 1) := by decide +kernel
theorem dX10_one_58 : decode cX10_one 58 = .ok (.iconst (-1), 1) := by decide +kernel
theorem dX10_one_59 : decode cX10_one 59 = .ok (.if_icmp .eq 58, 3) := by decide +kernel
theorem dX10_one_62 : decode cX10_one 62 = .ok (.aload_n 0, 1) := by decide +kernel
theorem dX10_one_63 : decode cX10_one 63 = .ok (.invokevirtual 256, 3) := by decide +kernel
theorem dX10_one_66 : decode cX10_one 66 = .ok (.ifCond .ne 4, 3) := by decide +kernel
theorem dX10_one_69 : decode cX10_one 69 = .ok (.return_, 1) := by decide +kernel
theorem dX10_one_70 : decode cX10_one 70 = .ok (.aload_n 0, 1) := by decide +kernel
theorem dX10_one_71 : decode cX10_one 71 = .ok (.invokevirtual 186, 3) := by decide +kernel
theorem dX10_one_74 : decode cX10_one 74 = .ok (.aload_n 0, 1) := by decide +kernel
theorem dX10_one_75 : decode cX10_one 75 = .ok (.bipush 91, 2) := by decide +kernel
theorem dX10_one_77 : decode cX10_one 77 = .ok (.invokevirtual 208, 3) := by decide +kernel
theorem dX10_one_80 : decode cX10_one 80 = .ok (.aload_n 0, 1) := by decide +kernel
theorem dX10_one_81 : decode cX10_one 81 = .ok (.invokevirtual 260, 3) := by decide +kernel
theorem dX10_one_84 : decode cX10_one 84 = .ok (.aload_n 0, 1) := by decide +kernel
theorem dX10_one_85 : decode cX10_one 85 = .ok (.bipush 44, 2) := by decide +kernel
theorem dX10_one_87 : decode cX10_one 87 = .ok (.invokevirtual 208, 3) := by decide +kernel
theorem dX10_one_90 : decode cX10_one 90 = .ok (.aload_n 0, 1) := by decide +kernel
theorem dX10_one_91 : decode cX10_one 91 = .ok (.invokevirtual 260, 3) := by decide +kernel
theorem dX10_one_94 : decode cX10_one 94 = .ok (.aload_n 0, 1) := by decide +kernel
theorem dX10_one_95 : decode cX10_one 95 = .ok (.bipush 93, 2) := by decide +kernel
theorem dX10_one_97 : decode cX10_one 97 = .ok (.invokevirtual 208, 3) := by decide +kernel
theorem dX10_one_100 : decode cX10_one 100 = .ok (.aload_n 0, 1) := by decide +kernel
theorem dX10_one_101 : decode cX10_one 101 = .ok (.iload_n 1, 1) := by decide +kernel
theorem dX10_one_102 : decode cX10_one 102 = .ok (.iconst 0, 1) := by decide +kernel
theorem dX10_one_103 : decode cX10_one 103 = .ok (.invokevirtual 247, 3) := by decide +kernel
theorem dX10_one_106 : decode cX10_one 106 = .ok (.aload_n 0, 1) := by decide +kernel
theorem dX10_one_107 : decode cX10_one 107 = .ok (.dup, 1) := by decide +kernel
theorem dX10_one_108 : decode cX10_one 108 = .ok (.getfield 192, 3) := by decide +kernel
theorem dX10_one_111 : decode cX10_one 111 = .ok (.iconst 1, 1) := by decide +kernel
theorem dX10_one_112 : decode cX10_one 112 = .ok (.isub, 1) := by decide +kernel
theorem dX10_one_113 : decode cX10_one 113 = .ok (.putfield 192, 3) := by decide +kernel
theorem dX10_one_116 : decode cX10_one 116 = .ok (.return_, 1) := by decide +kernel
theorem dX10_one_117 : decode cX10_one 117 = .ok (.aload_n 0, 1) := by decide +kernel
theorem dX10_one_118 : decode cX10_one 118 = .ok (.aload_n 0, 1) := by decide +kernel
theorem dX10_one_119 : decode cX10_one 119 = .ok (.getfield 142, 3) := by decide +kernel
theorem dX10_one_122 : decode cX10_one 122 = .ok (.invokevirtual 145, 3) := by decide +kernel
theorem dX10_one_125 : decode cX10_one 125 = .ok (.bipush 40, 2) := by decide +kernel
theorem dX10_one_127 : decode cX10_one 127 = .ok (.if_icmp .ne 42, 3) := by decide +kernel
theorem dX10_one_130 : decode cX10_one 130 = .ok (.aload_n 0, 1) := by decide +kernel
theorem dX10_one_131 : decode cX10_one 131 = .ok (.invokevirtual 256, 3) := by decide +kernel
theorem dX10_one_134 : decode cX10_one 134 = .ok (.ifCond .ne 4, 3) := by decide +kernel
theorem dX10_one_137 : decode cX10_one 137 = .ok (.return_, 1) := by decide +kernel
theorem dX10_one_138 : decode cX10_one 138 = .ok (.aload_n 0, 1) := by decide +kernel
theorem dX10_one_139 : decode cX10_one 139 = .ok (.dup, 1) := by decide +kernel
theorem dX10_one_140 : decode cX10_one 140 = .ok (.getfield 142, 3) := by decide +kernel
theorem dX10_one_143 : decode cX10_one 143 = .ok (.iconst 1, 1) := by decide +kernel
theorem dX10_one_144 : decode cX10_one 144 = .ok (.iadd, 1) := by decide +kernel
theorem dX10_one_145 : decode cX10_one 145 = .ok (.putfield 142, 3) := by decide +kernel
theorem dX10_one_148 : decode cX10_one 148 = .ok (.aload_n 0, 1) := by decide +kernel
theorem dX10_one_149 : decode cX10_one 149 = .ok (.invokevirtual 260, 3) := by decide +kernel
theorem dX10_one_152 : decode cX10_one 152 = .ok (.aload_n 0, 1) := by decide +kernel
theorem dX10_one_153 : decode cX10_one 153 = .ok (.bipush 41, 2) := by decide +kernel
theorem dX10_one_155 : decode cX10_one 155 = .ok (.invokevirtual 208, 3) := by decide +kernel
theorem dX10_one_158 : decode cX10_one 158 = .ok (.aload_n 0, 1) := by decide +kernel
theorem dX10_one_159 : decode cX10_one 159 = .ok (.dup, 1) := by decide +kernel
theorem dX10_one_160 : decode cX10_one 160 = .ok (.getfield 192, 3) := by decide +kernel
theorem dX10_one_163 : decode cX10_one 163 = .ok (.iconst 1, 1) := by decide +kernel
theorem dX10_one_164 : decode cX10_one 164 = .ok (.isub, 1) := by decide +kernel
theorem dX10_one_165 : decode cX10_one 165 = .ok (.putfield 192, 3) := by decide +kernel
theorem dX10_one_168 : decode cX10_one 168 = .ok (.return_, 1) := by decide +kernel
theorem dX10_one_169 : decode cX10_one 169 = .ok (.aload_n 0, 1) := by decide +kernel
theorem dX10_one_170 : decode cX10_one 170 = .ok (.invokevirtual 263, 3) := by decide +kernel
theorem dX10_one_173 : decode cX10_one 173 = .ok (.istore_n 2, 1) := by decide +kernel
theorem dX10_one_174 : decode cX10_one 174 = .ok (.iload_n 2, 1) := by decide +kernel
theorem dX10_one_175 : decode cX10_one 175 = .ok (.iconst (-1), 1) := by decide +kernel
theorem dX10_one_176 : decode cX10_one 176 = .ok (.if_icmp .eq 12, 3) := by decide +kernel
theorem dX10_one_179 : decode cX10_one 179 = .ok (.aload_n 0, 1) := by decide +kernel
theorem dX10_one_180 : decode cX10_one 180 = .ok (.iconst 1, 1) := by decide +kernel
theorem dX10_one_181 : decode cX10_one 181 = .ok (.iload_n 2, 1) := by decide +kernel
theorem dX10_one_182 : decode cX10_one 182 = .ok (.invokevirtual 247, 3) := by decide +kernel
theorem dX10_one_185 : decode cX10_one 185 = .ok (.goto 16, 3) := by decide +kernel
theorem dX10_one_188 : decode cX10_one 188 = .ok (.aload_n 0, 1) := by decide +kernel
theorem dX10_one_189 : decode cX10_one 189 = .ok (.iconst 0, 1) := by decide +kernel
theorem dX10_one_190 : decode cX10_one 190 = .ok (.aload_n 0, 1) := by decide +kernel
theorem dX10_one_191 : decode cX10_one 191 = .ok (.iconst 0, 1) := by decide +kernel
theorem dX10_one_192 : decode cX10_one 192 = .ok (.sipush 999, 3) := by decide +kernel
theorem dX10_one_195 : decode cX10_one 195 = .ok (.invokevirtual 195, 3) := by decide +kernel
theorem dX10_one_198 : decode cX10_one 198 = .ok (.invokevirtual 247, 3) := by decide +kernel
theorem dX10_one_201 : decode cX10_one 201 = .ok (.return_, 1) := by decide +kernel
theorem dX10_reads_0 : decode cX10_reads 0 = .ok (.aload_n 0, 1) := by decide +kernel
theorem dX10_reads_1 : decode cX10_reads 1 = .ok (.iload_n 1, 1) := by decide +kernel
theorem dX10_reads_2 : decode cX10_reads 2 = .ok (.invokevirtual 216, 3) := by decide +kernel
theorem dX10_reads_5 : decode cX10_reads 5 = .ok (.aload_n 0, 1) := by decide +kernel
theorem dX10_reads_6 : decode cX10_reads 6 = .ok (.iconst 0, 1) := by decide +kernel
theorem dX10_reads_7 : decode cX10_reads 7 = .ok (.putfield 238, 3) := by decide +kernel
theorem dX10_reads_10 : decode cX10_reads 10 = .ok (.aload_n 0, 1) := by decide +kernel
theorem dX10_reads_11 : decode cX10_reads 11 = .ok (.invokevirtual 260, 3) := by decide +kernel
theorem dX10_reads_14 : decode cX10_reads 14 = .ok (.aload_n 0, 1) := by decide +kernel
theorem dX10_reads_15 : decode cX10_reads 15 = .ok (.invokevirtual 155, 3) := by decide +kernel
theorem dX10_reads_18 : decode cX10_reads 18 = .ok (.aload_n 0, 1) := by decide +kernel
theorem dX10_reads_19 : decode cX10_reads 19 = .ok (.getfield 149, 3) := by decide +kernel
theorem dX10_reads_22 : decode cX10_reads 22 = .ok (.ifCond .ne 23, 3) := by decide +kernel
theorem dX10_reads_25 : decode cX10_reads 25 = .ok (.aload_n 0, 1) := by decide +kernel
theorem dX10_reads_26 : decode cX10_reads 26 = .ok (.getfield 142, 3) := by decide +kernel
theorem dX10_reads_29 : decode cX10_reads 29 = .ok (.aload_n 0, 1) := by decide +kernel
theorem dX10_reads_30 : decode cX10_reads 30 = .ok (.getfield 139, 3) := by decide +kernel
theorem dX10_reads_33 : decode cX10_reads 33 = .ok (.if_icmp .ge 12, 3) := by decide +kernel
theorem dX10_reads_36 : decode cX10_reads 36 = .ok (.aload_n 0, 1) := by decide +kernel
theorem dX10_reads_37 : decode cX10_reads 37 = .ok (.iconst 1, 1) := by decide +kernel
theorem dX10_reads_38 : decode cX10_reads 38 = .ok (.aload_n 0, 1) := by decide +kernel
theorem dX10_reads_39 : decode cX10_reads 39 = .ok (.getfield 142, 3) := by decide +kernel
theorem dX10_reads_42 : decode cX10_reads 42 = .ok (.invokevirtual 162, 3) := by decide +kernel
theorem dX10_reads_45 : decode cX10_reads 45 = .ok (.aload_n 0, 1) := by decide +kernel
theorem dX10_reads_46 : decode cX10_reads 46 = .ok (.getfield 149, 3) := by decide +kernel
theorem dX10_reads_49 : decode cX10_reads 49 = .ok (.ifCond .eq 8, 3) := by decide +kernel
theorem dX10_reads_52 : decode cX10_reads 52 = .ok (.aload_n 0, 1) := by decide +kernel
theorem dX10_reads_53 : decode cX10_reads 53 = .ok (.invokevirtual 222, 3) := by decide +kernel
theorem dX10_reads_56 : decode cX10_reads 56 = .ok (.ireturn, 1) := by decide +kernel
theorem dX10_reads_57 : decode cX10_reads 57 = .ok (.aload_n 0, 1) := by decide +kernel
theorem dX10_reads_58 : decode cX10_reads 58 = .ok (.iconst (-1), 1) := by decide +kernel
theorem dX10_reads_59 : decode cX10_reads 59 = .ok (.putfield 9, 3) := by decide +kernel
theorem dX10_reads_62 : decode cX10_reads 62 = .ok (.aload_n 0, 1) := by decide +kernel
theorem dX10_reads_63 : decode cX10_reads 63 = .ok (.getfield 52, 3) := by decide +kernel
theorem dX10_reads_66 : decode cX10_reads 66 = .ok (.iload_n 2, 1) := by decide +kernel
theorem dX10_reads_67 : decode cX10_reads 67 = .ok (.aload_n 0, 1) := by decide +kernel
theorem dX10_reads_68 : decode cX10_reads 68 = .ok (.getfield 238, 3) := by decide +kernel
theorem dX10_reads_71 : decode cX10_reads 71 = .ok (.iastore, 1) := by decide +kernel
theorem dX10_reads_72 : decode cX10_reads 72 = .ok (.aload_n 0, 1) := by decide +kernel
theorem dX10_reads_73 : decode cX10_reads 73 = .ok (.getfield 58, 3) := by decide +kernel
theorem dX10_reads_76 : decode cX10_reads 76 = .ok (.aload_n 0, 1) := by decide +kernel
theorem dX10_reads_77 : decode cX10_reads 77 = .ok (.getfield 55, 3) := by decide +kernel
theorem dX10_reads_80 : decode cX10_reads 80 = .ok (.iload_n 2, 1) := by decide +kernel
theorem dX10_reads_81 : decode cX10_reads 81 = .ok (.aaload, 1) := by decide +kernel
theorem dX10_reads_82 : decode cX10_reads 82 = .ok (.iconst 2, 1) := by decide +kernel
theorem dX10_reads_83 : decode cX10_reads 83 = .ok (.aload_n 0, 1) := by decide +kernel
theorem dX10_reads_84 : decode cX10_reads 84 = .ok (.getfield 238, 3) := by decide +kernel
theorem dX10_reads_87 : decode cX10_reads 87 = .ok (.imul, 1) := by decide +kernel
theorem dX10_reads_88 : decode cX10_reads 88 = .ok (.invokestatic 225, 3) := by decide +kernel
theorem dX10_reads_91 : decode cX10_reads 91 = .ok (.iconst 1, 1) := by decide +kernel
theorem dX10_reads_92 : decode cX10_reads 92 = .ok (.ireturn, 1) := by decide +kernel
theorem dX10_law_0 : decode cX10_law 0 = .ok (.aload_n 0, 1) := by decide +kernel
theorem dX10_law_1 : decode cX10_law 1 = .ok (.iconst 0, 1) := by decide +kernel
theorem dX10_law_2 : decode cX10_law 2 = .ok (.putfield 133, 3) := by decide +kernel
theorem dX10_law_5 : decode cX10_law 5 = .ok (.aload_n 0, 1) := by decide +kernel
theorem dX10_law_6 : decode cX10_law 6 = .ok (.iload_n 1, 1) := by decide +kernel
theorem dX10_law_7 : decode cX10_law 7 = .ok (.iconst 0, 1) := by decide +kernel
theorem dX10_law_8 : decode cX10_law 8 = .ok (.aload_n 0, 1) := by decide +kernel
theorem dX10_law_9 : decode cX10_law 9 = .ok (.getfield 136, 3) := by decide +kernel
theorem dX10_law_12 : decode cX10_law 12 = .ok (.invokestatic 167, 3) := by decide +kernel
theorem dX10_law_15 : decode cX10_law 15 = .ok (.ifCond .eq 10, 3) := by decide +kernel
theorem dX10_law_18 : decode cX10_law 18 = .ok (.iload_n 1, 1) := by decide +kernel
theorem dX10_law_19 : decode cX10_law 19 = .ok (.sipush 150, 3) := by decide +kernel
theorem dX10_law_22 : decode cX10_law 22 = .ok (.if_icmp .le 7, 3) := by decide +kernel
theorem dX10_law_25 : decode cX10_law 25 = .ok (.iconst 1, 1) := by decide +kernel
theorem dX10_law_26 : decode cX10_law 26 = .ok (.goto 4, 3) := by decide +kernel
theorem dX10_law_29 : decode cX10_law 29 = .ok (.iconst 0, 1) := by decide +kernel
theorem dX10_law_30 : decode cX10_law 30 = .ok (.iconst 1, 1) := by decide +kernel
theorem dX10_law_31 : decode cX10_law 31 = .ok (.iconst 1, 1) := by decide +kernel
theorem dX10_law_32 : decode cX10_law 32 = .ok (.invokevirtual 212, 3) := by decide +kernel
theorem dX10_law_35 : decode cX10_law 35 = .ok (.ifCond .eq 5, 3) := by decide +kernel
theorem dX10_law_38 : decode cX10_law 38 = .ok (.iconst 0, 1) := by decide +kernel
theorem dX10_law_39 : decode cX10_law 39 = .ok (.ireturn, 1) := by decide +kernel
theorem dX10_law_40 : decode cX10_law 40 = .ok (.aload_n 0, 1) := by decide +kernel
theorem dX10_law_41 : decode cX10_law 41 = .ok (.iload_n 1, 1) := by decide +kernel
theorem dX10_law_42 : decode cX10_law 42 = .ok (.iconst 0, 1) := by decide +kernel
theorem dX10_law_43 : decode cX10_law 43 = .ok (.invokevirtual 266, 3) := by decide +kernel
theorem dX10_law_46 : decode cX10_law 46 = .ok (.ireturn, 1) := by decide +kernel
theorem dX10_rule_0 : decode cX10_rule 0 = .ok (.aload_n 0, 1) := by decide +kernel
theorem dX10_rule_1 : decode cX10_rule 1 = .ok (.iconst 0, 1) := by decide +kernel
theorem dX10_rule_2 : decode cX10_rule 2 = .ok (.putfield 133, 3) := by decide +kernel
theorem dX10_rule_5 : decode cX10_rule 5 = .ok (.aload_n 0, 1) := by decide +kernel
theorem dX10_rule_6 : decode cX10_rule 6 = .ok (.iload_n 1, 1) := by decide +kernel
theorem dX10_rule_7 : decode cX10_rule 7 = .ok (.iconst 0, 1) := by decide +kernel
theorem dX10_rule_8 : decode cX10_rule 8 = .ok (.iconst 1, 1) := by decide +kernel
theorem dX10_rule_9 : decode cX10_rule 9 = .ok (.invokestatic 167, 3) := by decide +kernel
theorem dX10_rule_12 : decode cX10_rule 12 = .ok (.ifCond .ne 7, 3) := by decide +kernel
theorem dX10_rule_15 : decode cX10_rule 15 = .ok (.iconst 1, 1) := by decide +kernel
theorem dX10_rule_16 : decode cX10_rule 16 = .ok (.goto 4, 3) := by decide +kernel
theorem dX10_rule_19 : decode cX10_rule 19 = .ok (.iconst 0, 1) := by decide +kernel
theorem dX10_rule_20 : decode cX10_rule 20 = .ok (.iconst 1, 1) := by decide +kernel
theorem dX10_rule_21 : decode cX10_rule 21 = .ok (.iconst 0, 1) := by decide +kernel
theorem dX10_rule_22 : decode cX10_rule 22 = .ok (.invokevirtual 212, 3) := by decide +kernel
theorem dX10_rule_25 : decode cX10_rule 25 = .ok (.ifCond .ne 36, 3) := by decide +kernel
theorem dX10_rule_28 : decode cX10_rule 28 = .ok (.aload_n 0, 1) := by decide +kernel
theorem dX10_rule_29 : decode cX10_rule 29 = .ok (.iload_n 2, 1) := by decide +kernel
theorem dX10_rule_30 : decode cX10_rule 30 = .ok (.iconst 0, 1) := by decide +kernel
theorem dX10_rule_31 : decode cX10_rule 31 = .ok (.aload_n 0, 1) := by decide +kernel
theorem dX10_rule_32 : decode cX10_rule 32 = .ok (.getfield 136, 3) := by decide +kernel
theorem dX10_rule_35 : decode cX10_rule 35 = .ok (.invokestatic 167, 3) := by decide +kernel
theorem dX10_rule_38 : decode cX10_rule 38 = .ok (.ifCond .eq 10, 3) := by decide +kernel
theorem dX10_rule_41 : decode cX10_rule 41 = .ok (.iload_n 2, 1) := by decide +kernel
theorem dX10_rule_42 : decode cX10_rule 42 = .ok (.sipush 150, 3) := by decide +kernel
theorem dX10_rule_45 : decode cX10_rule 45 = .ok (.if_icmp .le 7, 3) := by decide +kernel
theorem dX10_rule_48 : decode cX10_rule 48 = .ok (.iconst 1, 1) := by decide +kernel
theorem dX10_rule_49 : decode cX10_rule 49 = .ok (.goto 4, 3) := by decide +kernel
theorem dX10_rule_52 : decode cX10_rule 52 = .ok (.iconst 0, 1) := by decide +kernel
theorem dX10_rule_53 : decode cX10_rule 53 = .ok (.iconst 2, 1) := by decide +kernel
theorem dX10_rule_54 : decode cX10_rule 54 = .ok (.iconst 1, 1) := by decide +kernel
theorem dX10_rule_55 : decode cX10_rule 55 = .ok (.invokevirtual 212, 3) := by decide +kernel
theorem dX10_rule_58 : decode cX10_rule 58 = .ok (.ifCond .eq 5, 3) := by decide +kernel
theorem dX10_rule_61 : decode cX10_rule 61 = .ok (.iconst 0, 1) := by decide +kernel
theorem dX10_rule_62 : decode cX10_rule 62 = .ok (.ireturn, 1) := by decide +kernel
theorem dX10_rule_63 : decode cX10_rule 63 = .ok (.aload_n 0, 1) := by decide +kernel
theorem dX10_rule_64 : decode cX10_rule 64 = .ok (.iload_n 2, 1) := by decide +kernel
theorem dX10_rule_65 : decode cX10_rule 65 = .ok (.iconst 1, 1) := by decide +kernel
theorem dX10_rule_66 : decode cX10_rule 66 = .ok (.iload_n 1, 1) := by decide +kernel
theorem dX10_rule_67 : decode cX10_rule 67 = .ok (.iadd, 1) := by decide +kernel
theorem dX10_rule_68 : decode cX10_rule 68 = .ok (.invokevirtual 266, 3) := by decide +kernel
theorem dX10_rule_71 : decode cX10_rule 71 = .ok (.ireturn, 1) := by decide +kernel
theorem dX10_by_0 : decode cX10_by 0 = .ok (.iload_n 0, 1) := by decide +kernel
theorem dX10_by_1 : decode cX10_by 1 = .ok (.tableswitch 75 2 6 #[35, 39, 43, 47, 69], 35) := by decide +kernel
theorem dX10_by_36 : decode cX10_by 36 = .ok (.iload_n 1, 1) := by decide +kernel
theorem dX10_by_37 : decode cX10_by 37 = .ok (.iload_n 2, 1) := by decide +kernel
theorem dX10_by_38 : decode cX10_by 38 = .ok (.iadd, 1) := by decide +kernel
theorem dX10_by_39 : decode cX10_by 39 = .ok (.ireturn, 1) := by decide +kernel
theorem dX10_by_40 : decode cX10_by 40 = .ok (.iload_n 1, 1) := by decide +kernel
theorem dX10_by_41 : decode cX10_by 41 = .ok (.iload_n 2, 1) := by decide +kernel
theorem dX10_by_42 : decode cX10_by 42 = .ok (.isub, 1) := by decide +kernel
theorem dX10_by_43 : decode cX10_by 43 = .ok (.ireturn, 1) := by decide +kernel
theorem dX10_by_44 : decode cX10_by 44 = .ok (.iload_n 1, 1) := by decide +kernel
theorem dX10_by_45 : decode cX10_by 45 = .ok (.iload_n 2, 1) := by decide +kernel
theorem dX10_by_46 : decode cX10_by 46 = .ok (.imul, 1) := by decide +kernel
theorem dX10_by_47 : decode cX10_by 47 = .ok (.ireturn, 1) := by decide +kernel
theorem dX10_by_48 : decode cX10_by 48 = .ok (.iload_n 2, 1) := by decide +kernel
theorem dX10_by_49 : decode cX10_by 49 = .ok (.ifCond .ne 7, 3) := by decide +kernel
theorem dX10_by_52 : decode cX10_by 52 = .ok (.iconst 0, 1) := by decide +kernel
theorem dX10_by_53 : decode cX10_by 53 = .ok (.goto 16, 3) := by decide +kernel
theorem dX10_by_56 : decode cX10_by 56 = .ok (.iload_n 2, 1) := by decide +kernel
theorem dX10_by_57 : decode cX10_by 57 = .ok (.iconst (-1), 1) := by decide +kernel
theorem dX10_by_58 : decode cX10_by 58 = .ok (.if_icmp .ne 8, 3) := by decide +kernel
theorem dX10_by_61 : decode cX10_by 61 = .ok (.iload_n 1, 1) := by decide +kernel
theorem dX10_by_62 : decode cX10_by 62 = .ok (.ineg, 1) := by decide +kernel
theorem dX10_by_63 : decode cX10_by 63 = .ok (.goto 6, 3) := by decide +kernel
theorem dX10_by_66 : decode cX10_by 66 = .ok (.iload_n 1, 1) := by decide +kernel
theorem dX10_by_67 : decode cX10_by 67 = .ok (.iload_n 2, 1) := by decide +kernel
theorem dX10_by_68 : decode cX10_by 68 = .ok (.idiv, 1) := by decide +kernel
theorem dX10_by_69 : decode cX10_by 69 = .ok (.ireturn, 1) := by decide +kernel
theorem dX10_by_70 : decode cX10_by 70 = .ok (.iload_n 1, 1) := by decide +kernel
theorem dX10_by_71 : decode cX10_by 71 = .ok (.iload_n 2, 1) := by decide +kernel
theorem dX10_by_72 : decode cX10_by 72 = .ok (.invokestatic 269, 3) := by decide +kernel
theorem dX10_by_75 : decode cX10_by 75 = .ok (.ireturn, 1) := by decide +kernel
theorem dX10_by_76 : decode cX10_by 76 = .ok (.iload_n 1, 1) := by decide +kernel
theorem dX10_by_77 : decode cX10_by 77 = .ok (.iload_n 2, 1) := by decide +kernel
theorem dX10_by_78 : decode cX10_by 78 = .ok (.invokestatic 272, 3) := by decide +kernel
theorem dX10_by_81 : decode cX10_by 81 = .ok (.ireturn, 1) := by decide +kernel
theorem dX10_worked_0 : decode cX10_worked 0 = .ok (.iconst 0, 1) := by decide +kernel
theorem dX10_worked_1 : decode cX10_worked 1 = .ok (.istore_n 2, 1) := by decide +kernel
theorem dX10_worked_2 : decode cX10_worked 2 = .ok (.aload_n 0, 1) := by decide +kernel
theorem dX10_worked_3 : decode cX10_worked 3 = .ok (.getfield 55, 3) := by decide +kernel
theorem dX10_worked_6 : decode cX10_worked 6 = .ok (.iload_n 1, 1) := by decide +kernel
theorem dX10_worked_7 : decode cX10_worked 7 = .ok (.aaload, 1) := by decide +kernel
theorem dX10_worked_8 : decode cX10_worked 8 = .ok (.astore_n 3, 1) := by decide +kernel
theorem dX10_worked_9 : decode cX10_worked 9 = .ok (.iconst 0, 1) := by decide +kernel
theorem dX10_worked_10 : decode cX10_worked 10 = .ok (.istore 4, 2) := by decide +kernel
theorem dX10_worked_12 : decode cX10_worked 12 = .ok (.iload 4, 2) := by decide +kernel
theorem dX10_worked_14 : decode cX10_worked 14 = .ok (.aload_n 0, 1) := by decide +kernel
theorem dX10_worked_15 : decode cX10_worked 15 = .ok (.getfield 52, 3) := by decide +kernel
theorem dX10_worked_18 : decode cX10_worked 18 = .ok (.iload_n 1, 1) := by decide +kernel
theorem dX10_worked_19 : decode cX10_worked 19 = .ok (.iaload, 1) := by decide +kernel
theorem dX10_worked_20 : decode cX10_worked 20 = .ok (.if_icmp .ge 92, 3) := by decide +kernel
theorem dX10_worked_23 : decode cX10_worked 23 = .ok (.aload_n 3, 1) := by decide +kernel
theorem dX10_worked_24 : decode cX10_worked 24 = .ok (.iconst 2, 1) := by decide +kernel
theorem dX10_worked_25 : decode cX10_worked 25 = .ok (.iload 4, 2) := by decide +kernel
theorem dX10_worked_27 : decode cX10_worked 27 = .ok (.imul, 1) := by decide +kernel
theorem dX10_worked_28 : decode cX10_worked 28 = .ok (.iaload, 1) := by decide +kernel
theorem dX10_worked_29 : decode cX10_worked 29 = .ok (.istore 5, 2) := by decide +kernel
theorem dX10_worked_31 : decode cX10_worked 31 = .ok (.aload_n 3, 1) := by decide +kernel
theorem dX10_worked_32 : decode cX10_worked 32 = .ok (.iconst 2, 1) := by decide +kernel
theorem dX10_worked_33 : decode cX10_worked 33 = .ok (.iload 4, 2) := by decide +kernel
theorem dX10_worked_35 : decode cX10_worked 35 = .ok (.imul, 1) := by decide +kernel
theorem dX10_worked_36 : decode cX10_worked 36 = .ok (.iconst 1, 1) := by decide +kernel
theorem dX10_worked_37 : decode cX10_worked 37 = .ok (.iadd, 1) := by decide +kernel
theorem dX10_worked_38 : decode cX10_worked 38 = .ok (.iaload, 1) := by decide +kernel
theorem dX10_worked_39 : decode cX10_worked 39 = .ok (.istore 6, 2) := by decide +kernel
theorem dX10_worked_41 : decode cX10_worked 41 = .ok (.iload 5, 2) := by decide +kernel
theorem dX10_worked_43 : decode cX10_worked 43 = .ok (.iconst 2, 1) := by decide +kernel
theorem dX10_worked_44 : decode cX10_worked 44 = .ok (.if_icmp .ge 32, 3) := by decide +kernel
theorem dX10_worked_47 : decode cX10_worked 47 = .ok (.aload_n 0, 1) := by decide +kernel
theorem dX10_worked_48 : decode cX10_worked 48 = .ok (.getfield 61, 3) := by decide +kernel
theorem dX10_worked_51 : decode cX10_worked 51 = .ok (.iload_n 2, 1) := by decide +kernel
theorem dX10_worked_52 : decode cX10_worked 52 = .ok (.iload 5, 2) := by decide +kernel
theorem dX10_worked_54 : decode cX10_worked 54 = .ok (.ifCond .ne 8, 3) := by decide +kernel
theorem dX10_worked_57 : decode cX10_worked 57 = .ok (.iload 6, 2) := by decide +kernel
theorem dX10_worked_59 : decode cX10_worked 59 = .ok (.goto 10, 3) := by decide +kernel
theorem dX10_worked_62 : decode cX10_worked 62 = .ok (.aload_n 0, 1) := by decide +kernel
theorem dX10_worked_63 : decode cX10_worked 63 = .ok (.getfield 64, 3) := by decide +kernel
theorem dX10_worked_66 : decode cX10_worked 66 = .ok (.iload 6, 2) := by decide +kernel
theorem dX10_worked_68 : decode cX10_worked 68 = .ok (.iaload, 1) := by decide +kernel
theorem dX10_worked_69 : decode cX10_worked 69 = .ok (.iastore, 1) := by decide +kernel
theorem dX10_worked_70 : decode cX10_worked 70 = .ok (.iinc 2 1, 3) := by decide +kernel
theorem dX10_worked_73 : decode cX10_worked 73 = .ok (.goto 33, 3) := by decide +kernel
theorem dX10_worked_76 : decode cX10_worked 76 = .ok (.iinc 2 (-1), 3) := by decide +kernel
theorem dX10_worked_79 : decode cX10_worked 79 = .ok (.aload_n 0, 1) := by decide +kernel
theorem dX10_worked_80 : decode cX10_worked 80 = .ok (.getfield 61, 3) := by decide +kernel
theorem dX10_worked_83 : decode cX10_worked 83 = .ok (.iload_n 2, 1) := by decide +kernel
theorem dX10_worked_84 : decode cX10_worked 84 = .ok (.iconst 1, 1) := by decide +kernel
theorem dX10_worked_85 : decode cX10_worked 85 = .ok (.isub, 1) := by decide +kernel
theorem dX10_worked_86 : decode cX10_worked 86 = .ok (.iload 5, 2) := by decide +kernel
theorem dX10_worked_88 : decode cX10_worked 88 = .ok (.aload_n 0, 1) := by decide +kernel
theorem dX10_worked_89 : decode cX10_worked 89 = .ok (.getfield 61, 3) := by decide +kernel
theorem dX10_worked_92 : decode cX10_worked 92 = .ok (.iload_n 2, 1) := by decide +kernel
theorem dX10_worked_93 : decode cX10_worked 93 = .ok (.iconst 1, 1) := by decide +kernel
theorem dX10_worked_94 : decode cX10_worked 94 = .ok (.isub, 1) := by decide +kernel
theorem dX10_worked_95 : decode cX10_worked 95 = .ok (.iaload, 1) := by decide +kernel
theorem dX10_worked_96 : decode cX10_worked 96 = .ok (.aload_n 0, 1) := by decide +kernel
theorem dX10_worked_97 : decode cX10_worked 97 = .ok (.getfield 61, 3) := by decide +kernel
theorem dX10_worked_100 : decode cX10_worked 100 = .ok (.iload_n 2, 1) := by decide +kernel
theorem dX10_worked_101 : decode cX10_worked 101 = .ok (.iaload, 1) := by decide +kernel
theorem dX10_worked_102 : decode cX10_worked 102 = .ok (.invokestatic 275, 3) := by decide +kernel
theorem dX10_worked_105 : decode cX10_worked 105 = .ok (.iastore, 1) := by decide +kernel
theorem dX10_worked_106 : decode cX10_worked 106 = .ok (.iinc 4 1, 3) := by decide +kernel
theorem dX10_worked_109 : decode cX10_worked 109 = .ok (.goto (-97), 3) := by decide +kernel
theorem dX10_worked_112 : decode cX10_worked 112 = .ok (.aload_n 0, 1) := by decide +kernel
theorem dX10_worked_113 : decode cX10_worked 113 = .ok (.getfield 61, 3) := by decide +kernel
theorem dX10_worked_116 : decode cX10_worked 116 = .ok (.iconst 0, 1) := by decide +kernel
theorem dX10_worked_117 : decode cX10_worked 117 = .ok (.iaload, 1) := by decide +kernel
theorem dX10_worked_118 : decode cX10_worked 118 = .ok (.ireturn, 1) := by decide +kernel
theorem dX10_sightBy_0 : decode cX10_sightBy 0 = .ok (.aload_n 0, 1) := by decide +kernel
theorem dX10_sightBy_1 : decode cX10_sightBy 1 = .ok (.getfield 52, 3) := by decide +kernel
theorem dX10_sightBy_4 : decode cX10_sightBy 4 = .ok (.iconst 0, 1) := by decide +kernel
theorem dX10_sightBy_5 : decode cX10_sightBy 5 = .ok (.iaload, 1) := by decide +kernel
theorem dX10_sightBy_6 : decode cX10_sightBy 6 = .ok (.ifCond .ne 28, 3) := by decide +kernel
theorem dX10_sightBy_9 : decode cX10_sightBy 9 = .ok (.aload_n 0, 1) := by decide +kernel
theorem dX10_sightBy_10 : decode cX10_sightBy 10 = .ok (.getfield 64, 3) := by decide +kernel
theorem dX10_sightBy_13 : decode cX10_sightBy 13 = .ok (.iconst 0, 1) := by decide +kernel
theorem dX10_sightBy_14 : decode cX10_sightBy 14 = .ok (.iaload, 1) := by decide +kernel
theorem dX10_sightBy_15 : decode cX10_sightBy 15 = .ok (.aload_n 0, 1) := by decide +kernel
theorem dX10_sightBy_16 : decode cX10_sightBy 16 = .ok (.getfield 64, 3) := by decide +kernel
theorem dX10_sightBy_19 : decode cX10_sightBy 19 = .ok (.iconst 1, 1) := by decide +kernel
theorem dX10_sightBy_20 : decode cX10_sightBy 20 = .ok (.iaload, 1) := by decide +kernel
theorem dX10_sightBy_21 : decode cX10_sightBy 21 = .ok (.isub, 1) := by decide +kernel
theorem dX10_sightBy_22 : decode cX10_sightBy 22 = .ok (.aload_n 0, 1) := by decide +kernel
theorem dX10_sightBy_23 : decode cX10_sightBy 23 = .ok (.getfield 64, 3) := by decide +kernel
theorem dX10_sightBy_26 : decode cX10_sightBy 26 = .ok (.iconst 2, 1) := by decide +kernel
theorem dX10_sightBy_27 : decode cX10_sightBy 27 = .ok (.iaload, 1) := by decide +kernel
theorem dX10_sightBy_28 : decode cX10_sightBy 28 = .ok (.iconst 1, 1) := by decide +kernel
theorem dX10_sightBy_29 : decode cX10_sightBy 29 = .ok (.iadd, 1) := by decide +kernel
theorem dX10_sightBy_30 : decode cX10_sightBy 30 = .ok (.idiv, 1) := by decide +kernel
theorem dX10_sightBy_31 : decode cX10_sightBy 31 = .ok (.goto 8, 3) := by decide +kernel
theorem dX10_sightBy_34 : decode cX10_sightBy 34 = .ok (.aload_n 0, 1) := by decide +kernel
theorem dX10_sightBy_35 : decode cX10_sightBy 35 = .ok (.iconst 0, 1) := by decide +kernel
theorem dX10_sightBy_36 : decode cX10_sightBy 36 = .ok (.invokevirtual 279, 3) := by decide +kernel
theorem dX10_sightBy_39 : decode cX10_sightBy 39 = .ok (.istore_n 1, 1) := by decide +kernel
theorem dX10_sightBy_40 : decode cX10_sightBy 40 = .ok (.iconst 0, 1) := by decide +kernel
theorem dX10_sightBy_41 : decode cX10_sightBy 41 = .ok (.bipush 60, 2) := by decide +kernel
theorem dX10_sightBy_43 : decode cX10_sightBy 43 = .ok (.iload_n 1, 1) := by decide +kernel
theorem dX10_sightBy_44 : decode cX10_sightBy 44 = .ok (.invokestatic 269, 3) := by decide +kernel
theorem dX10_sightBy_47 : decode cX10_sightBy 47 = .ok (.invokestatic 272, 3) := by decide +kernel
theorem dX10_sightBy_50 : decode cX10_sightBy 50 = .ok (.ireturn, 1) := by decide +kernel
theorem dX10_beamsBy_0 : decode cX10_beamsBy 0 = .ok (.aload_n 0, 1) := by decide +kernel
theorem dX10_beamsBy_1 : decode cX10_beamsBy 1 = .ok (.getfield 108, 3) := by decide +kernel
theorem dX10_beamsBy_4 : decode cX10_beamsBy 4 = .ok (.iload_n 1, 1) := by decide +kernel
theorem dX10_beamsBy_5 : decode cX10_beamsBy 5 = .ok (.iaload, 1) := by decide +kernel
theorem dX10_beamsBy_6 : decode cX10_beamsBy 6 = .ok (.iconst (-1), 1) := by decide +kernel
theorem dX10_beamsBy_7 : decode cX10_beamsBy 7 = .ok (.if_icmp .eq 20, 3) := by decide +kernel
theorem dX10_beamsBy_10 : decode cX10_beamsBy 10 = .ok (.aload_n 0, 1) := by decide +kernel
theorem dX10_beamsBy_11 : decode cX10_beamsBy 11 = .ok (.getfield 64, 3) := by decide +kernel
theorem dX10_beamsBy_14 : decode cX10_beamsBy 14 = .ok (.bipush 8, 2) := by decide +kernel
theorem dX10_beamsBy_16 : decode cX10_beamsBy 16 = .ok (.iaload, 1) := by decide +kernel
theorem dX10_beamsBy_17 : decode cX10_beamsBy 17 = .ok (.aload_n 0, 1) := by decide +kernel
theorem dX10_beamsBy_18 : decode cX10_beamsBy 18 = .ok (.getfield 108, 3) := by decide +kernel
theorem dX10_beamsBy_21 : decode cX10_beamsBy 21 = .ok (.iload_n 1, 1) := by decide +kernel
theorem dX10_beamsBy_22 : decode cX10_beamsBy 22 = .ok (.iaload, 1) := by decide +kernel
theorem dX10_beamsBy_23 : decode cX10_beamsBy 23 = .ok (.isub, 1) := by decide +kernel
theorem dX10_beamsBy_24 : decode cX10_beamsBy 24 = .ok (.goto 34, 3) := by decide +kernel
theorem dX10_beamsBy_27 : decode cX10_beamsBy 27 = .ok (.aload_n 0, 1) := by decide +kernel
theorem dX10_beamsBy_28 : decode cX10_beamsBy 28 = .ok (.getfield 52, 3) := by decide +kernel
theorem dX10_beamsBy_31 : decode cX10_beamsBy 31 = .ok (.iconst 1, 1) := by decide +kernel
theorem dX10_beamsBy_32 : decode cX10_beamsBy 32 = .ok (.iload_n 1, 1) := by decide +kernel
theorem dX10_beamsBy_33 : decode cX10_beamsBy 33 = .ok (.iadd, 1) := by decide +kernel
theorem dX10_beamsBy_34 : decode cX10_beamsBy 34 = .ok (.iaload, 1) := by decide +kernel
theorem dX10_beamsBy_35 : decode cX10_beamsBy 35 = .ok (.ifCond .ne 16, 3) := by decide +kernel
theorem dX10_beamsBy_38 : decode cX10_beamsBy 38 = .ok (.aload_n 0, 1) := by decide +kernel
theorem dX10_beamsBy_39 : decode cX10_beamsBy 39 = .ok (.getfield 64, 3) := by decide +kernel
theorem dX10_beamsBy_42 : decode cX10_beamsBy 42 = .ok (.bipush 8, 2) := by decide +kernel
theorem dX10_beamsBy_44 : decode cX10_beamsBy 44 = .ok (.iaload, 1) := by decide +kernel
theorem dX10_beamsBy_45 : decode cX10_beamsBy 45 = .ok (.bipush 12, 2) := by decide +kernel
theorem dX10_beamsBy_47 : decode cX10_beamsBy 47 = .ok (.isub, 1) := by decide +kernel
theorem dX10_beamsBy_48 : decode cX10_beamsBy 48 = .ok (.goto 10, 3) := by decide +kernel
theorem dX10_beamsBy_51 : decode cX10_beamsBy 51 = .ok (.aload_n 0, 1) := by decide +kernel
theorem dX10_beamsBy_52 : decode cX10_beamsBy 52 = .ok (.iconst 1, 1) := by decide +kernel
theorem dX10_beamsBy_53 : decode cX10_beamsBy 53 = .ok (.iload_n 1, 1) := by decide +kernel
theorem dX10_beamsBy_54 : decode cX10_beamsBy 54 = .ok (.iadd, 1) := by decide +kernel
theorem dX10_beamsBy_55 : decode cX10_beamsBy 55 = .ok (.invokevirtual 279, 3) := by decide +kernel
theorem dX10_beamsBy_58 : decode cX10_beamsBy 58 = .ok (.istore_n 2, 1) := by decide +kernel
theorem dX10_beamsBy_59 : decode cX10_beamsBy 59 = .ok (.iload_n 2, 1) := by decide +kernel
theorem dX10_beamsBy_60 : decode cX10_beamsBy 60 = .ok (.ifCond .le 7, 3) := by decide +kernel
theorem dX10_beamsBy_63 : decode cX10_beamsBy 63 = .ok (.iconst 1, 1) := by decide +kernel
theorem dX10_beamsBy_64 : decode cX10_beamsBy 64 = .ok (.goto 4, 3) := by decide +kernel
theorem dX10_beamsBy_67 : decode cX10_beamsBy 67 = .ok (.iconst 0, 1) := by decide +kernel
theorem dX10_beamsBy_68 : decode cX10_beamsBy 68 = .ok (.ireturn, 1) := by decide +kernel
theorem dX10_book_0 : decode cX10_book 0 = .ok (.aload_n 0, 1) := by decide +kernel
theorem dX10_book_1 : decode cX10_book 1 = .ok (.iconst 0, 1) := by decide +kernel
theorem dX10_book_2 : decode cX10_book 2 = .ok (.putfield 133, 3) := by decide +kernel
theorem dX10_book_5 : decode cX10_book 5 = .ok (.aload_n 0, 1) := by decide +kernel
theorem dX10_book_6 : decode cX10_book 6 = .ok (.iload_n 1, 1) := by decide +kernel
theorem dX10_book_7 : decode cX10_book 7 = .ok (.iconst 0, 1) := by decide +kernel
theorem dX10_book_8 : decode cX10_book 8 = .ok (.aload_n 0, 1) := by decide +kernel
theorem dX10_book_9 : decode cX10_book 9 = .ok (.getfield 136, 3) := by decide +kernel
theorem dX10_book_12 : decode cX10_book 12 = .ok (.invokestatic 167, 3) := by decide +kernel
theorem dX10_book_15 : decode cX10_book 15 = .ok (.ifCond .eq 10, 3) := by decide +kernel
theorem dX10_book_18 : decode cX10_book 18 = .ok (.iload_n 1, 1) := by decide +kernel
theorem dX10_book_19 : decode cX10_book 19 = .ok (.sipush 150, 3) := by decide +kernel
theorem dX10_book_22 : decode cX10_book 22 = .ok (.if_icmp .le 7, 3) := by decide +kernel
theorem dX10_book_25 : decode cX10_book 25 = .ok (.iconst 1, 1) := by decide +kernel
theorem dX10_book_26 : decode cX10_book 26 = .ok (.goto 4, 3) := by decide +kernel
theorem dX10_book_29 : decode cX10_book 29 = .ok (.iconst 0, 1) := by decide +kernel
theorem dX10_book_30 : decode cX10_book 30 = .ok (.iconst 1, 1) := by decide +kernel
theorem dX10_book_31 : decode cX10_book 31 = .ok (.iconst 1, 1) := by decide +kernel
theorem dX10_book_32 : decode cX10_book 32 = .ok (.invokevirtual 212, 3) := by decide +kernel
theorem dX10_book_35 : decode cX10_book 35 = .ok (.ifCond .eq 5, 3) := by decide +kernel
theorem dX10_book_38 : decode cX10_book 38 = .ok (.iconst 0, 1) := by decide +kernel
theorem dX10_book_39 : decode cX10_book 39 = .ok (.ireturn, 1) := by decide +kernel
theorem dX10_book_40 : decode cX10_book 40 = .ok (.aload_n 0, 1) := by decide +kernel
theorem dX10_book_41 : decode cX10_book 41 = .ok (.iload_n 1, 1) := by decide +kernel
theorem dX10_book_42 : decode cX10_book 42 = .ok (.invokevirtual 216, 3) := by decide +kernel
theorem dX10_book_45 : decode cX10_book 45 = .ok (.iconst 0, 1) := by decide +kernel
theorem dX10_book_46 : decode cX10_book 46 = .ok (.istore_n 2, 1) := by decide +kernel
theorem dX10_book_47 : decode cX10_book 47 = .ok (.aload_n 0, 1) := by decide +kernel
theorem dX10_book_48 : decode cX10_book 48 = .ok (.getfield 149, 3) := by decide +kernel
theorem dX10_book_51 : decode cX10_book 51 = .ok (.ifCond .ne 140, 3) := by decide +kernel
theorem dX10_book_54 : decode cX10_book 54 = .ok (.aload_n 0, 1) := by decide +kernel
theorem dX10_book_55 : decode cX10_book 55 = .ok (.getfield 142, 3) := by decide +kernel
theorem dX10_book_58 : decode cX10_book 58 = .ok (.aload_n 0, 1) := by decide +kernel
theorem dX10_book_59 : decode cX10_book 59 = .ok (.getfield 139, 3) := by decide +kernel
theorem dX10_book_62 : decode cX10_book 62 = .ok (.if_icmp .ge 129, 3) := by decide +kernel
theorem dX10_book_65 : decode cX10_book 65 = .ok (.aload_n 0, 1) := by decide +kernel
theorem dX10_book_66 : decode cX10_book 66 = .ok (.getfield 142, 3) := by decide +kernel
theorem dX10_book_69 : decode cX10_book 69 = .ok (.istore_n 3, 1) := by decide +kernel
theorem dX10_book_70 : decode cX10_book 70 = .ok (.aload_n 0, 1) := by decide +kernel
theorem dX10_book_71 : decode cX10_book 71 = .ok (.iconst 0, 1) := by decide +kernel
theorem dX10_book_72 : decode cX10_book 72 = .ok (.bipush 99, 2) := by decide +kernel
theorem dX10_book_74 : decode cX10_book 74 = .ok (.invokevirtual 195, 3) := by decide +kernel
theorem dX10_book_77 : decode cX10_book 77 = .ok (.istore 4, 2) := by decide +kernel
theorem dX10_book_79 : decode cX10_book 79 = .ok (.iconst 0, 1) := by decide +kernel
theorem dX10_book_80 : decode cX10_book 80 = .ok (.istore 5, 2) := by decide +kernel
theorem dX10_book_82 : decode cX10_book 82 = .ok (.iload 5, 2) := by decide +kernel
theorem dX10_book_84 : decode cX10_book 84 = .ok (.iload_n 2, 1) := by decide +kernel
theorem dX10_book_85 : decode cX10_book 85 = .ok (.if_icmp .ge 36, 3) := by decide +kernel
theorem dX10_book_88 : decode cX10_book 88 = .ok (.aload_n 0, 1) := by decide +kernel
theorem dX10_book_89 : decode cX10_book 89 = .ok (.getfield 149, 3) := by decide +kernel
theorem dX10_book_92 : decode cX10_book 92 = .ok (.ifCond .ne 23, 3) := by decide +kernel
theorem dX10_book_95 : decode cX10_book 95 = .ok (.aload_n 0, 1) := by decide +kernel
theorem dX10_book_96 : decode cX10_book 96 = .ok (.getfield 70, 3) := by decide +kernel
theorem dX10_book_99 : decode cX10_book 99 = .ok (.iload 5, 2) := by decide +kernel
theorem dX10_book_101 : decode cX10_book 101 = .ok (.aaload, 1) := by decide +kernel
theorem dX10_book_102 : decode cX10_book 102 = .ok (.iconst 0, 1) := by decide +kernel
theorem dX10_book_103 : decode cX10_book 103 = .ok (.iaload, 1) := by decide +kernel
theorem dX10_book_104 : decode cX10_book 104 = .ok (.iload 4, 2) := by decide +kernel
theorem dX10_book_106 : decode cX10_book 106 = .ok (.if_icmp .ne 9, 3) := by decide +kernel
theorem dX10_book_109 : decode cX10_book 109 = .ok (.aload_n 0, 1) := by decide +kernel
theorem dX10_book_110 : decode cX10_book 110 = .ok (.iconst 2, 1) := by decide +kernel
theorem dX10_book_111 : decode cX10_book 111 = .ok (.iload_n 3, 1) := by decide +kernel
theorem dX10_book_112 : decode cX10_book 112 = .ok (.invokevirtual 162, 3) := by decide +kernel
theorem dX10_book_115 : decode cX10_book 115 = .ok (.iinc 5 1, 3) := by decide +kernel
theorem dX10_book_118 : decode cX10_book 118 = .ok (.goto (-36), 3) := by decide +kernel
theorem dX10_book_121 : decode cX10_book 121 = .ok (.aload_n 0, 1) := by decide +kernel
theorem dX10_book_122 : decode cX10_book 122 = .ok (.getfield 149, 3) := by decide +kernel
theorem dX10_book_125 : decode cX10_book 125 = .ok (.ifCond .ne 15, 3) := by decide +kernel
theorem dX10_book_128 : decode cX10_book 128 = .ok (.iload_n 2, 1) := by decide +kernel
theorem dX10_book_129 : decode cX10_book 129 = .ok (.bipush 12, 2) := by decide +kernel
theorem dX10_book_131 : decode cX10_book 131 = .ok (.if_icmp .ne 9, 3) := by decide +kernel
theorem dX10_book_134 : decode cX10_book 134 = .ok (.aload_n 0, 1) := by decide +kernel
theorem dX10_book_135 : decode cX10_book 135 = .ok (.iconst 3, 1) := by decide +kernel
theorem dX10_book_136 : decode cX10_book 136 = .ok (.iload_n 3, 1) := by decide +kernel
theorem dX10_book_137 : decode cX10_book 137 = .ok (.invokevirtual 162, 3) := by decide +kernel
theorem dX10_book_140 : decode cX10_book 140 = .ok (.aload_n 0, 1) := by decide +kernel
theorem dX10_book_141 : decode cX10_book 141 = .ok (.iconst 0, 1) := by decide +kernel
theorem dX10_book_142 : decode cX10_book 142 = .ok (.iconst 1, 1) := by decide +kernel
theorem dX10_book_143 : decode cX10_book 143 = .ok (.invokevirtual 195, 3) := by decide +kernel
theorem dX10_book_146 : decode cX10_book 146 = .ok (.istore 5, 2) := by decide +kernel
theorem dX10_book_148 : decode cX10_book 148 = .ok (.aload_n 0, 1) := by decide +kernel
theorem dX10_book_149 : decode cX10_book 149 = .ok (.bipush 59, 2) := by decide +kernel
theorem dX10_book_151 : decode cX10_book 151 = .ok (.invokevirtual 208, 3) := by decide +kernel
theorem dX10_book_154 : decode cX10_book 154 = .ok (.aload_n 0, 1) := by decide +kernel
theorem dX10_book_155 : decode cX10_book 155 = .ok (.getfield 149, 3) := by decide +kernel
theorem dX10_book_158 : decode cX10_book 158 = .ok (.ifCond .ne 26, 3) := by decide +kernel
theorem dX10_book_161 : decode cX10_book 161 = .ok (.aload_n 0, 1) := by decide +kernel
theorem dX10_book_162 : decode cX10_book 162 = .ok (.getfield 70, 3) := by decide +kernel
theorem dX10_book_165 : decode cX10_book 165 = .ok (.iload_n 2, 1) := by decide +kernel
theorem dX10_book_166 : decode cX10_book 166 = .ok (.aaload, 1) := by decide +kernel
theorem dX10_book_167 : decode cX10_book 167 = .ok (.iconst 0, 1) := by decide +kernel
theorem dX10_book_168 : decode cX10_book 168 = .ok (.iload 4, 2) := by decide +kernel
theorem dX10_book_170 : decode cX10_book 170 = .ok (.iastore, 1) := by decide +kernel
theorem dX10_book_171 : decode cX10_book 171 = .ok (.aload_n 0, 1) := by decide +kernel
theorem dX10_book_172 : decode cX10_book 172 = .ok (.getfield 70, 3) := by decide +kernel
theorem dX10_book_175 : decode cX10_book 175 = .ok (.iload_n 2, 1) := by decide +kernel
theorem dX10_book_176 : decode cX10_book 176 = .ok (.aaload, 1) := by decide +kernel
theorem dX10_book_177 : decode cX10_book 177 = .ok (.iconst 1, 1) := by decide +kernel
theorem dX10_book_178 : decode cX10_book 178 = .ok (.iload 5, 2) := by decide +kernel
theorem dX10_book_180 : decode cX10_book 180 = .ok (.iastore, 1) := by decide +kernel
theorem dX10_book_181 : decode cX10_book 181 = .ok (.iinc 2 1, 3) := by decide +kernel
theorem dX10_book_184 : decode cX10_book 184 = .ok (.aload_n 0, 1) := by decide +kernel
theorem dX10_book_185 : decode cX10_book 185 = .ok (.invokevirtual 155, 3) := by decide +kernel
theorem dX10_book_188 : decode cX10_book 188 = .ok (.goto (-141), 3) := by decide +kernel
theorem dX10_book_191 : decode cX10_book 191 = .ok (.aload_n 0, 1) := by decide +kernel
theorem dX10_book_192 : decode cX10_book 192 = .ok (.getfield 149, 3) := by decide +kernel
theorem dX10_book_195 : decode cX10_book 195 = .ok (.ifCond .eq 8, 3) := by decide +kernel
theorem dX10_book_198 : decode cX10_book 198 = .ok (.aload_n 0, 1) := by decide +kernel
theorem dX10_book_199 : decode cX10_book 199 = .ok (.invokevirtual 222, 3) := by decide +kernel
theorem dX10_book_202 : decode cX10_book 202 = .ok (.ireturn, 1) := by decide +kernel
theorem dX10_book_203 : decode cX10_book 203 = .ok (.aload_n 0, 1) := by decide +kernel
theorem dX10_book_204 : decode cX10_book 204 = .ok (.iconst (-1), 1) := by decide +kernel
theorem dX10_book_205 : decode cX10_book 205 = .ok (.putfield 9, 3) := by decide +kernel
theorem dX10_book_208 : decode cX10_book 208 = .ok (.aload_n 0, 1) := by decide +kernel
theorem dX10_book_209 : decode cX10_book 209 = .ok (.iload_n 2, 1) := by decide +kernel
theorem dX10_book_210 : decode cX10_book 210 = .ok (.putfield 229, 3) := by decide +kernel
theorem dX10_book_213 : decode cX10_book 213 = .ok (.iconst 0, 1) := by decide +kernel
theorem dX10_book_214 : decode cX10_book 214 = .ok (.istore_n 3, 1) := by decide +kernel
theorem dX10_book_215 : decode cX10_book 215 = .ok (.iload_n 3, 1) := by decide +kernel
theorem dX10_book_216 : decode cX10_book 216 = .ok (.iload_n 2, 1) := by decide +kernel
theorem dX10_book_217 : decode cX10_book 217 = .ok (.if_icmp .ge 25, 3) := by decide +kernel
theorem dX10_book_220 : decode cX10_book 220 = .ok (.aload_n 0, 1) := by decide +kernel
theorem dX10_book_221 : decode cX10_book 221 = .ok (.getfield 70, 3) := by decide +kernel
theorem dX10_book_224 : decode cX10_book 224 = .ok (.iload_n 3, 1) := by decide +kernel
theorem dX10_book_225 : decode cX10_book 225 = .ok (.aaload, 1) := by decide +kernel
theorem dX10_book_226 : decode cX10_book 226 = .ok (.aload_n 0, 1) := by decide +kernel
theorem dX10_book_227 : decode cX10_book 227 = .ok (.getfield 67, 3) := by decide +kernel
theorem dX10_book_230 : decode cX10_book 230 = .ok (.iload_n 3, 1) := by decide +kernel
theorem dX10_book_231 : decode cX10_book 231 = .ok (.aaload, 1) := by decide +kernel
theorem dX10_book_232 : decode cX10_book 232 = .ok (.iconst 2, 1) := by decide +kernel
theorem dX10_book_233 : decode cX10_book 233 = .ok (.invokestatic 225, 3) := by decide +kernel
theorem dX10_book_236 : decode cX10_book 236 = .ok (.iinc 3 1, 3) := by decide +kernel
theorem dX10_book_239 : decode cX10_book 239 = .ok (.goto (-24), 3) := by decide +kernel
theorem dX10_book_242 : decode cX10_book 242 = .ok (.iload_n 2, 1) := by decide +kernel
theorem dX10_book_243 : decode cX10_book 243 = .ok (.ireturn, 1) := by decide +kernel
theorem dX10_fault_0 : decode cX10_fault 0 = .ok (.aload_n 0, 1) := by decide +kernel
theorem dX10_fault_1 : decode cX10_fault 1 = .ok (.iconst 0, 1) := by decide +kernel
theorem dX10_fault_2 : decode cX10_fault 2 = .ok (.putfield 133, 3) := by decide +kernel
theorem dX10_fault_5 : decode cX10_fault 5 = .ok (.aload_n 0, 1) := by decide +kernel
theorem dX10_fault_6 : decode cX10_fault 6 = .ok (.getfield 9, 3) := by decide +kernel
theorem dX10_fault_9 : decode cX10_fault 9 = .ok (.ireturn, 1) := by decide +kernel
theorem dX10_paceOf_0 : decode cX10_paceOf 0 = .ok (.aload_n 0, 1) := by decide +kernel
theorem dX10_paceOf_1 : decode cX10_paceOf 1 = .ok (.getfield 41, 3) := by decide +kernel
theorem dX10_paceOf_4 : decode cX10_paceOf 4 = .ok (.iconst 0, 1) := by decide +kernel
theorem dX10_paceOf_5 : decode cX10_paceOf 5 = .ok (.iconst 2, 1) := by decide +kernel
theorem dX10_paceOf_6 : decode cX10_paceOf 6 = .ok (.iload_n 1, 1) := by decide +kernel
theorem dX10_paceOf_7 : decode cX10_paceOf 7 = .ok (.imul, 1) := by decide +kernel
theorem dX10_paceOf_8 : decode cX10_paceOf 8 = .ok (.iadd, 1) := by decide +kernel
theorem dX10_paceOf_9 : decode cX10_paceOf 9 = .ok (.iaload, 1) := by decide +kernel
theorem dX10_paceOf_10 : decode cX10_paceOf 10 = .ok (.ireturn, 1) := by decide +kernel
theorem dX10_tiltOf_0 : decode cX10_tiltOf 0 = .ok (.aload_n 0, 1) := by decide +kernel
theorem dX10_tiltOf_1 : decode cX10_tiltOf 1 = .ok (.getfield 41, 3) := by decide +kernel
theorem dX10_tiltOf_4 : decode cX10_tiltOf 4 = .ok (.iconst 0, 1) := by decide +kernel
theorem dX10_tiltOf_5 : decode cX10_tiltOf 5 = .ok (.iconst 2, 1) := by decide +kernel
theorem dX10_tiltOf_6 : decode cX10_tiltOf 6 = .ok (.iload_n 1, 1) := by decide +kernel
theorem dX10_tiltOf_7 : decode cX10_tiltOf 7 = .ok (.imul, 1) := by decide +kernel
theorem dX10_tiltOf_8 : decode cX10_tiltOf 8 = .ok (.iadd, 1) := by decide +kernel
theorem dX10_tiltOf_9 : decode cX10_tiltOf 9 = .ok (.iconst 1, 1) := by decide +kernel
theorem dX10_tiltOf_10 : decode cX10_tiltOf 10 = .ok (.iadd, 1) := by decide +kernel
theorem dX10_tiltOf_11 : decode cX10_tiltOf 11 = .ok (.iaload, 1) := by decide +kernel
theorem dX10_tiltOf_12 : decode cX10_tiltOf 12 = .ok (.ireturn, 1) := by decide +kernel
theorem dX10_isWet_0 : decode cX10_isWet 0 = .ok (.iconst 0, 1) := by decide +kernel
theorem dX10_isWet_1 : decode cX10_isWet 1 = .ok (.istore_n 2, 1) := by decide +kernel
theorem dX10_isWet_2 : decode cX10_isWet 2 = .ok (.iload_n 2, 1) := by decide +kernel
theorem dX10_isWet_3 : decode cX10_isWet 3 = .ok (.aload_n 0, 1) := by decide +kernel
theorem dX10_isWet_4 : decode cX10_isWet 4 = .ok (.getfield 23, 3) := by decide +kernel
theorem dX10_isWet_7 : decode cX10_isWet 7 = .ok (.iconst 4, 1) := by decide +kernel
theorem dX10_isWet_8 : decode cX10_isWet 8 = .ok (.iaload, 1) := by decide +kernel
theorem dX10_isWet_9 : decode cX10_isWet 9 = .ok (.if_icmp .ge 34, 3) := by decide +kernel
theorem dX10_isWet_12 : decode cX10_isWet 12 = .ok (.iload_n 1, 1) := by decide +kernel
theorem dX10_isWet_13 : decode cX10_isWet 13 = .ok (.aload_n 0, 1) := by decide +kernel
theorem dX10_isWet_14 : decode cX10_isWet 14 = .ok (.getfield 49, 3) := by decide +kernel
theorem dX10_isWet_17 : decode cX10_isWet 17 = .ok (.iload_n 2, 1) := by decide +kernel
theorem dX10_isWet_18 : decode cX10_isWet 18 = .ok (.aaload, 1) := by decide +kernel
theorem dX10_isWet_19 : decode cX10_isWet 19 = .ok (.iconst 0, 1) := by decide +kernel
theorem dX10_isWet_20 : decode cX10_isWet 20 = .ok (.iaload, 1) := by decide +kernel
theorem dX10_isWet_21 : decode cX10_isWet 21 = .ok (.aload_n 0, 1) := by decide +kernel
theorem dX10_isWet_22 : decode cX10_isWet 22 = .ok (.getfield 49, 3) := by decide +kernel
theorem dX10_isWet_25 : decode cX10_isWet 25 = .ok (.iload_n 2, 1) := by decide +kernel
theorem dX10_isWet_26 : decode cX10_isWet 26 = .ok (.aaload, 1) := by decide +kernel
theorem dX10_isWet_27 : decode cX10_isWet 27 = .ok (.iconst 1, 1) := by decide +kernel
theorem dX10_isWet_28 : decode cX10_isWet 28 = .ok (.iaload, 1) := by decide +kernel
theorem dX10_isWet_29 : decode cX10_isWet 29 = .ok (.invokestatic 167, 3) := by decide +kernel
theorem dX10_isWet_32 : decode cX10_isWet 32 = .ok (.ifCond .eq 5, 3) := by decide +kernel
theorem dX10_isWet_35 : decode cX10_isWet 35 = .ok (.iconst 1, 1) := by decide +kernel
theorem dX10_isWet_36 : decode cX10_isWet 36 = .ok (.ireturn, 1) := by decide +kernel
theorem dX10_isWet_37 : decode cX10_isWet 37 = .ok (.iinc 2 1, 3) := by decide +kernel
theorem dX10_isWet_40 : decode cX10_isWet 40 = .ok (.goto (-38), 3) := by decide +kernel
theorem dX10_isWet_43 : decode cX10_isWet 43 = .ok (.iconst 0, 1) := by decide +kernel
theorem dX10_isWet_44 : decode cX10_isWet 44 = .ok (.ireturn, 1) := by decide +kernel
theorem dX10_isBendBetween_0 : decode cX10_isBendBetween 0 = .ok (.iconst 0, 1) := by decide +kernel
theorem dX10_isBendBetween_1 : decode cX10_isBendBetween 1 = .ok (.istore_n 3, 1) := by decide +kernel
theorem dX10_isBendBetween_2 : decode cX10_isBendBetween 2 = .ok (.iload_n 3, 1) := by decide +kernel
theorem dX10_isBendBetween_3 : decode cX10_isBendBetween 3 = .ok (.aload_n 0, 1) := by decide +kernel
theorem dX10_isBendBetween_4 : decode cX10_isBendBetween 4 = .ok (.getfield 23, 3) := by decide +kernel
theorem dX10_isBendBetween_7 : decode cX10_isBendBetween 7 = .ok (.iconst 3, 1) := by decide +kernel
theorem dX10_isBendBetween_8 : decode cX10_isBendBetween 8 = .ok (.iaload, 1) := by decide +kernel
theorem dX10_isBendBetween_9 : decode cX10_isBendBetween 9 = .ok (.if_icmp .ge 39, 3) := by decide +kernel
theorem dX10_isBendBetween_12 : decode cX10_isBendBetween 12 = .ok (.aload_n 0, 1) := by decide +kernel
theorem dX10_isBendBetween_13 : decode cX10_isBendBetween 13 = .ok (.getfield 35, 3) := by decide +kernel
theorem dX10_isBendBetween_16 : decode cX10_isBendBetween 16 = .ok (.iload_n 3, 1) := by decide +kernel
theorem dX10_isBendBetween_17 : decode cX10_isBendBetween 17 = .ok (.iaload, 1) := by decide +kernel
theorem dX10_isBendBetween_18 : decode cX10_isBendBetween 18 = .ok (.iload_n 1, 1) := by decide +kernel
theorem dX10_isBendBetween_19 : decode cX10_isBendBetween 19 = .ok (.iload_n 2, 1) := by decide +kernel
theorem dX10_isBendBetween_20 : decode cX10_isBendBetween 20 = .ok (.invokestatic 269, 3) := by decide +kernel
theorem dX10_isBendBetween_23 : decode cX10_isBendBetween 23 = .ok (.if_icmp .le 19, 3) := by decide +kernel
theorem dX10_isBendBetween_26 : decode cX10_isBendBetween 26 = .ok (.aload_n 0, 1) := by decide +kernel
theorem dX10_isBendBetween_27 : decode cX10_isBendBetween 27 = .ok (.getfield 35, 3) := by decide +kernel
theorem dX10_isBendBetween_30 : decode cX10_isBendBetween 30 = .ok (.iload_n 3, 1) := by decide +kernel
theorem dX10_isBendBetween_31 : decode cX10_isBendBetween 31 = .ok (.iaload, 1) := by decide +kernel
theorem dX10_isBendBetween_32 : decode cX10_isBendBetween 32 = .ok (.iload_n 1, 1) := by decide +kernel
theorem dX10_isBendBetween_33 : decode cX10_isBendBetween 33 = .ok (.iload_n 2, 1) := by decide +kernel
theorem dX10_isBendBetween_34 : decode cX10_isBendBetween 34 = .ok (.invokestatic 272, 3) := by decide +kernel
theorem dX10_isBendBetween_37 : decode cX10_isBendBetween 37 = .ok (.if_icmp .ge 5, 3) := by decide +kernel
theorem dX10_isBendBetween_40 : decode cX10_isBendBetween 40 = .ok (.iconst 1, 1) := by decide +kernel
theorem dX10_isBendBetween_41 : decode cX10_isBendBetween 41 = .ok (.ireturn, 1) := by decide +kernel
theorem dX10_isBendBetween_42 : decode cX10_isBendBetween 42 = .ok (.iinc 3 1, 3) := by decide +kernel
theorem dX10_isBendBetween_45 : decode cX10_isBendBetween 45 = .ok (.goto (-43), 3) := by decide +kernel
theorem dX10_isBendBetween_48 : decode cX10_isBendBetween 48 = .ok (.iconst 0, 1) := by decide +kernel
theorem dX10_isBendBetween_49 : decode cX10_isBendBetween 49 = .ok (.ireturn, 1) := by decide +kernel
theorem dX10_isOn_0 : decode cX10_isOn 0 = .ok (.iload_n 1, 1) := by decide +kernel
theorem dX10_isOn_1 : decode cX10_isOn 1 = .ok (.aload_n 0, 1) := by decide +kernel
theorem dX10_isOn_2 : decode cX10_isOn 2 = .ok (.getfield 23, 3) := by decide +kernel
theorem dX10_isOn_5 : decode cX10_isOn 5 = .ok (.iconst 1, 1) := by decide +kernel
theorem dX10_isOn_6 : decode cX10_isOn 6 = .ok (.iaload, 1) := by decide +kernel
theorem dX10_isOn_7 : decode cX10_isOn 7 = .ok (.if_icmp .ge 28, 3) := by decide +kernel
theorem dX10_isOn_10 : decode cX10_isOn 10 = .ok (.aload_n 0, 1) := by decide +kernel
theorem dX10_isOn_11 : decode cX10_isOn 11 = .ok (.getfield 96, 3) := by decide +kernel
theorem dX10_isOn_14 : decode cX10_isOn 14 = .ok (.iload_n 1, 1) := by decide +kernel
theorem dX10_isOn_15 : decode cX10_isOn 15 = .ok (.iaload, 1) := by decide +kernel
theorem dX10_isOn_16 : decode cX10_isOn 16 = .ok (.iconst 0, 1) := by decide +kernel
theorem dX10_isOn_17 : decode cX10_isOn 17 = .ok (.aload_n 0, 1) := by decide +kernel
theorem dX10_isOn_18 : decode cX10_isOn 18 = .ok (.getfield 23, 3) := by decide +kernel
theorem dX10_isOn_21 : decode cX10_isOn 21 = .ok (.iconst 0, 1) := by decide +kernel
theorem dX10_isOn_22 : decode cX10_isOn 22 = .ok (.iaload, 1) := by decide +kernel
theorem dX10_isOn_23 : decode cX10_isOn 23 = .ok (.iconst 1, 1) := by decide +kernel
theorem dX10_isOn_24 : decode cX10_isOn 24 = .ok (.isub, 1) := by decide +kernel
theorem dX10_isOn_25 : decode cX10_isOn 25 = .ok (.invokestatic 167, 3) := by decide +kernel
theorem dX10_isOn_28 : decode cX10_isOn 28 = .ok (.ifCond .eq 7, 3) := by decide +kernel
theorem dX10_isOn_31 : decode cX10_isOn 31 = .ok (.iconst 1, 1) := by decide +kernel
theorem dX10_isOn_32 : decode cX10_isOn 32 = .ok (.goto 4, 3) := by decide +kernel
theorem dX10_isOn_35 : decode cX10_isOn 35 = .ok (.iconst 0, 1) := by decide +kernel
theorem dX10_isOn_36 : decode cX10_isOn 36 = .ok (.ireturn, 1) := by decide +kernel
theorem dX10_stopOf_0 : decode cX10_stopOf 0 = .ok (.aload_n 0, 1) := by decide +kernel
theorem dX10_stopOf_1 : decode cX10_stopOf 1 = .ok (.iload_n 1, 1) := by decide +kernel
theorem dX10_stopOf_2 : decode cX10_stopOf 2 = .ok (.invokevirtual 282, 3) := by decide +kernel
theorem dX10_stopOf_5 : decode cX10_stopOf 5 = .ok (.aload_n 0, 1) := by decide +kernel
theorem dX10_stopOf_6 : decode cX10_stopOf 6 = .ok (.iload_n 2, 1) := by decide +kernel
theorem dX10_stopOf_7 : decode cX10_stopOf 7 = .ok (.invokevirtual 285, 3) := by decide +kernel
theorem dX10_stopOf_10 : decode cX10_stopOf 10 = .ok (.ifCond .eq 7, 3) := by decide +kernel
theorem dX10_stopOf_13 : decode cX10_stopOf 13 = .ok (.iconst 4, 1) := by decide +kernel
theorem dX10_stopOf_14 : decode cX10_stopOf 14 = .ok (.goto 4, 3) := by decide +kernel
theorem dX10_stopOf_17 : decode cX10_stopOf 17 = .ok (.iconst 2, 1) := by decide +kernel
theorem dX10_stopOf_18 : decode cX10_stopOf 18 = .ok (.imul, 1) := by decide +kernel
theorem dX10_stopOf_19 : decode cX10_stopOf 19 = .ok (.ireturn, 1) := by decide +kernel
theorem dX10_blindsFor_0 : decode cX10_blindsFor 0 = .ok (.aload_n 0, 1) := by decide +kernel
theorem dX10_blindsFor_1 : decode cX10_blindsFor 1 = .ok (.getfield 41, 3) := by decide +kernel
theorem dX10_blindsFor_4 : decode cX10_blindsFor 4 = .ok (.bipush 25, 2) := by decide +kernel
theorem dX10_blindsFor_6 : decode cX10_blindsFor 6 = .ok (.iaload, 1) := by decide +kernel
theorem dX10_blindsFor_7 : decode cX10_blindsFor 7 = .ok (.iload_n 1, 1) := by decide +kernel
theorem dX10_blindsFor_8 : decode cX10_blindsFor 8 = .ok (.bipush 20, 2) := by decide +kernel
theorem dX10_blindsFor_10 : decode cX10_blindsFor 10 = .ok (.idiv, 1) := by decide +kernel
theorem dX10_blindsFor_11 : decode cX10_blindsFor 11 = .ok (.iadd, 1) := by decide +kernel
theorem dX10_blindsFor_12 : decode cX10_blindsFor 12 = .ok (.ireturn, 1) := by decide +kernel
theorem dX10_knows_0 : decode cX10_knows 0 = .ok (.aload_n 0, 1) := by decide +kernel
theorem dX10_knows_1 : decode cX10_knows 1 = .ok (.getfield 64, 3) := by decide +kernel
theorem dX10_knows_4 : decode cX10_knows 4 = .ok (.iconst 0, 1) := by decide +kernel
theorem dX10_knows_5 : decode cX10_knows 5 = .ok (.aload_n 0, 1) := by decide +kernel
theorem dX10_knows_6 : decode cX10_knows 6 = .ok (.getfield 23, 3) := by decide +kernel
theorem dX10_knows_9 : decode cX10_knows 9 = .ok (.iload_n 3, 1) := by decide +kernel
theorem dX10_knows_10 : decode cX10_knows 10 = .ok (.iconst 1, 1) := by decide +kernel
theorem dX10_knows_11 : decode cX10_knows 11 = .ok (.if_icmp .ne 7, 3) := by decide +kernel
theorem dX10_knows_14 : decode cX10_knows 14 = .ok (.iconst 5, 1) := by decide +kernel
theorem dX10_knows_15 : decode cX10_knows 15 = .ok (.goto 5, 3) := by decide +kernel
theorem dX10_knows_18 : decode cX10_knows 18 = .ok (.bipush 6, 2) := by decide +kernel
theorem dX10_knows_20 : decode cX10_knows 20 = .ok (.iaload, 1) := by decide +kernel
theorem dX10_knows_21 : decode cX10_knows 21 = .ok (.iastore, 1) := by decide +kernel
theorem dX10_knows_22 : decode cX10_knows 22 = .ok (.aload_n 0, 1) := by decide +kernel
theorem dX10_knows_23 : decode cX10_knows 23 = .ok (.getfield 64, 3) := by decide +kernel
theorem dX10_knows_26 : decode cX10_knows 26 = .ok (.iconst 1, 1) := by decide +kernel
theorem dX10_knows_27 : decode cX10_knows 27 = .ok (.aload_n 0, 1) := by decide +kernel
theorem dX10_knows_28 : decode cX10_knows 28 = .ok (.getfield 41, 3) := by decide +kernel
theorem dX10_knows_31 : decode cX10_knows 31 = .ok (.bipush 24, 2) := by decide +kernel
theorem dX10_knows_33 : decode cX10_knows 33 = .ok (.iaload, 1) := by decide +kernel
theorem dX10_knows_34 : decode cX10_knows 34 = .ok (.iastore, 1) := by decide +kernel
theorem dX10_knows_35 : decode cX10_knows 35 = .ok (.aload_n 0, 1) := by decide +kernel
theorem dX10_knows_36 : decode cX10_knows 36 = .ok (.getfield 64, 3) := by decide +kernel
theorem dX10_knows_39 : decode cX10_knows 39 = .ok (.iconst 2, 1) := by decide +kernel
theorem dX10_knows_40 : decode cX10_knows 40 = .ok (.aload_n 0, 1) := by decide +kernel
theorem dX10_knows_41 : decode cX10_knows 41 = .ok (.getfield 99, 3) := by decide +kernel
theorem dX10_knows_44 : decode cX10_knows 44 = .ok (.iload_n 1, 1) := by decide +kernel
theorem dX10_knows_45 : decode cX10_knows 45 = .ok (.iaload, 1) := by decide +kernel
theorem dX10_knows_46 : decode cX10_knows 46 = .ok (.iastore, 1) := by decide +kernel
theorem dX10_knows_47 : decode cX10_knows 47 = .ok (.aload_n 0, 1) := by decide +kernel
theorem dX10_knows_48 : decode cX10_knows 48 = .ok (.getfield 64, 3) := by decide +kernel
theorem dX10_knows_51 : decode cX10_knows 51 = .ok (.iconst 3, 1) := by decide +kernel
theorem dX10_knows_52 : decode cX10_knows 52 = .ok (.aload_n 0, 1) := by decide +kernel
theorem dX10_knows_53 : decode cX10_knows 53 = .ok (.getfield 29, 3) := by decide +kernel
theorem dX10_knows_56 : decode cX10_knows 56 = .ok (.iload_n 1, 1) := by decide +kernel
theorem dX10_knows_57 : decode cX10_knows 57 = .ok (.iaload, 1) := by decide +kernel
theorem dX10_knows_58 : decode cX10_knows 58 = .ok (.iastore, 1) := by decide +kernel
theorem dX10_knows_59 : decode cX10_knows 59 = .ok (.aload_n 0, 1) := by decide +kernel
theorem dX10_knows_60 : decode cX10_knows 60 = .ok (.getfield 64, 3) := by decide +kernel
theorem dX10_knows_63 : decode cX10_knows 63 = .ok (.iconst 4, 1) := by decide +kernel
theorem dX10_knows_64 : decode cX10_knows 64 = .ok (.aload_n 0, 1) := by decide +kernel
theorem dX10_knows_65 : decode cX10_knows 65 = .ok (.aload_n 0, 1) := by decide +kernel
theorem dX10_knows_66 : decode cX10_knows 66 = .ok (.getfield 96, 3) := by decide +kernel
theorem dX10_knows_69 : decode cX10_knows 69 = .ok (.iload_n 1, 1) := by decide +kernel
theorem dX10_knows_70 : decode cX10_knows 70 = .ok (.iaload, 1) := by decide +kernel
theorem dX10_knows_71 : decode cX10_knows 71 = .ok (.invokevirtual 285, 3) := by decide +kernel
theorem dX10_knows_74 : decode cX10_knows 74 = .ok (.ifCond .eq 7, 3) := by decide +kernel
theorem dX10_knows_77 : decode cX10_knows 77 = .ok (.iconst 1, 1) := by decide +kernel
theorem dX10_knows_78 : decode cX10_knows 78 = .ok (.goto 4, 3) := by decide +kernel
theorem dX10_knows_81 : decode cX10_knows 81 = .ok (.iconst 0, 1) := by decide +kernel
theorem dX10_knows_82 : decode cX10_knows 82 = .ok (.iastore, 1) := by decide +kernel
theorem dX10_knows_83 : decode cX10_knows 83 = .ok (.aload_n 0, 1) := by decide +kernel
theorem dX10_knows_84 : decode cX10_knows 84 = .ok (.getfield 64, 3) := by decide +kernel
theorem dX10_knows_87 : decode cX10_knows 87 = .ok (.iconst 5, 1) := by decide +kernel
theorem dX10_knows_88 : decode cX10_knows 88 = .ok (.aload_n 0, 1) := by decide +kernel
theorem dX10_knows_89 : decode cX10_knows 89 = .ok (.iload_n 1, 1) := by decide +kernel
theorem dX10_knows_90 : decode cX10_knows 90 = .ok (.invokevirtual 288, 3) := by decide +kernel
theorem dX10_knows_93 : decode cX10_knows 93 = .ok (.iastore, 1) := by decide +kernel
theorem dX10_knows_94 : decode cX10_knows 94 = .ok (.aload_n 0, 1) := by decide +kernel
theorem dX10_knows_95 : decode cX10_knows 95 = .ok (.getfield 64, 3) := by decide +kernel
theorem dX10_knows_98 : decode cX10_knows 98 = .ok (.bipush 6, 2) := by decide +kernel
theorem dX10_knows_100 : decode cX10_knows 100 = .ok (.aload_n 0, 1) := by decide +kernel
theorem dX10_knows_101 : decode cX10_knows 101 = .ok (.iload_n 1, 1) := by decide +kernel
theorem dX10_knows_102 : decode cX10_knows 102 = .ok (.invokevirtual 282, 3) := by decide +kernel
theorem dX10_knows_105 : decode cX10_knows 105 = .ok (.iastore, 1) := by decide +kernel
theorem dX10_knows_106 : decode cX10_knows 106 = .ok (.aload_n 0, 1) := by decide +kernel
theorem dX10_knows_107 : decode cX10_knows 107 = .ok (.getfield 64, 3) := by decide +kernel
theorem dX10_knows_110 : decode cX10_knows 110 = .ok (.bipush 7, 2) := by decide +kernel
theorem dX10_knows_112 : decode cX10_knows 112 = .ok (.iload_n 2, 1) := by decide +kernel
theorem dX10_knows_113 : decode cX10_knows 113 = .ok (.iastore, 1) := by decide +kernel
theorem dX10_knows_114 : decode cX10_knows 114 = .ok (.aload_n 0, 1) := by decide +kernel
theorem dX10_knows_115 : decode cX10_knows 115 = .ok (.getfield 64, 3) := by decide +kernel
theorem dX10_knows_118 : decode cX10_knows 118 = .ok (.bipush 8, 2) := by decide +kernel
theorem dX10_knows_120 : decode cX10_knows 120 = .ok (.iload 4, 2) := by decide +kernel
theorem dX10_knows_122 : decode cX10_knows 122 = .ok (.ifCond .eq 21, 3) := by decide +kernel
theorem dX10_knows_125 : decode cX10_knows 125 = .ok (.aload_n 0, 1) := by decide +kernel
theorem dX10_knows_126 : decode cX10_knows 126 = .ok (.getfield 96, 3) := by decide +kernel
theorem dX10_knows_129 : decode cX10_knows 129 = .ok (.iconst 0, 1) := by decide +kernel
theorem dX10_knows_130 : decode cX10_knows 130 = .ok (.iaload, 1) := by decide +kernel
theorem dX10_knows_131 : decode cX10_knows 131 = .ok (.aload_n 0, 1) := by decide +kernel
theorem dX10_knows_132 : decode cX10_knows 132 = .ok (.getfield 96, 3) := by decide +kernel
theorem dX10_knows_135 : decode cX10_knows 135 = .ok (.iconst 1, 1) := by decide +kernel
theorem dX10_knows_136 : decode cX10_knows 136 = .ok (.iaload, 1) := by decide +kernel
theorem dX10_knows_137 : decode cX10_knows 137 = .ok (.invokestatic 291, 3) := by decide +kernel
theorem dX10_knows_140 : decode cX10_knows 140 = .ok (.goto 5, 3) := by decide +kernel
theorem dX10_knows_143 : decode cX10_knows 143 = .ok (.bipush 99, 2) := by decide +kernel
theorem dX10_knows_145 : decode cX10_knows 145 = .ok (.iastore, 1) := by decide +kernel
theorem dX10_knows_146 : decode cX10_knows 146 = .ok (.aload_n 0, 1) := by decide +kernel
theorem dX10_knows_147 : decode cX10_knows 147 = .ok (.getfield 64, 3) := by decide +kernel
theorem dX10_knows_150 : decode cX10_knows 150 = .ok (.bipush 9, 2) := by decide +kernel
theorem dX10_knows_152 : decode cX10_knows 152 = .ok (.iload 5, 2) := by decide +kernel
theorem dX10_knows_154 : decode cX10_knows 154 = .ok (.ifCond .eq 7, 3) := by decide +kernel
theorem dX10_knows_157 : decode cX10_knows 157 = .ok (.iconst 1, 1) := by decide +kernel
theorem dX10_knows_158 : decode cX10_knows 158 = .ok (.goto 4, 3) := by decide +kernel
theorem dX10_knows_161 : decode cX10_knows 161 = .ok (.iconst 0, 1) := by decide +kernel
theorem dX10_knows_162 : decode cX10_knows 162 = .ok (.iastore, 1) := by decide +kernel
theorem dX10_knows_163 : decode cX10_knows 163 = .ok (.aload_n 0, 1) := by decide +kernel
theorem dX10_knows_164 : decode cX10_knows 164 = .ok (.getfield 64, 3) := by decide +kernel
theorem dX10_knows_167 : decode cX10_knows 167 = .ok (.bipush 10, 2) := by decide +kernel
theorem dX10_knows_169 : decode cX10_knows 169 = .ok (.iload 4, 2) := by decide +kernel
theorem dX10_knows_171 : decode cX10_knows 171 = .ok (.ifCond .eq 8, 3) := by decide +kernel
theorem dX10_knows_174 : decode cX10_knows 174 = .ok (.iload 6, 2) := by decide +kernel
theorem dX10_knows_176 : decode cX10_knows 176 = .ok (.goto 4, 3) := by decide +kernel
theorem dX10_knows_179 : decode cX10_knows 179 = .ok (.iconst 0, 1) := by decide +kernel
theorem dX10_knows_180 : decode cX10_knows 180 = .ok (.iastore, 1) := by decide +kernel
theorem dX10_knows_181 : decode cX10_knows 181 = .ok (.aload_n 0, 1) := by decide +kernel
theorem dX10_knows_182 : decode cX10_knows 182 = .ok (.getfield 64, 3) := by decide +kernel
theorem dX10_knows_185 : decode cX10_knows 185 = .ok (.bipush 11, 2) := by decide +kernel
theorem dX10_knows_187 : decode cX10_knows 187 = .ok (.iload_n 3, 1) := by decide +kernel
theorem dX10_knows_188 : decode cX10_knows 188 = .ok (.iastore, 1) := by decide +kernel
theorem dX10_knows_189 : decode cX10_knows 189 = .ok (.return_, 1) := by decide +kernel
theorem dX10_meets_0 : decode cX10_meets 0 = .ok (.aload_n 0, 1) := by decide +kernel
theorem dX10_meets_1 : decode cX10_meets 1 = .ok (.getfield 108, 3) := by decide +kernel
theorem dX10_meets_4 : decode cX10_meets 4 = .ok (.iconst 0, 1) := by decide +kernel
theorem dX10_meets_5 : decode cX10_meets 5 = .ok (.iload_n 1, 1) := by decide +kernel
theorem dX10_meets_6 : decode cX10_meets 6 = .ok (.iastore, 1) := by decide +kernel
theorem dX10_meets_7 : decode cX10_meets 7 = .ok (.aload_n 0, 1) := by decide +kernel
theorem dX10_meets_8 : decode cX10_meets 8 = .ok (.getfield 108, 3) := by decide +kernel
theorem dX10_meets_11 : decode cX10_meets 11 = .ok (.iconst 1, 1) := by decide +kernel
theorem dX10_meets_12 : decode cX10_meets 12 = .ok (.iload_n 2, 1) := by decide +kernel
theorem dX10_meets_13 : decode cX10_meets 13 = .ok (.iastore, 1) := by decide +kernel
theorem dX10_meets_14 : decode cX10_meets 14 = .ok (.aload_n 0, 1) := by decide +kernel
theorem dX10_meets_15 : decode cX10_meets 15 = .ok (.iconst 0, 1) := by decide +kernel
theorem dX10_meets_16 : decode cX10_meets 16 = .ok (.putfield 294, 3) := by decide +kernel
theorem dX10_meets_19 : decode cX10_meets 19 = .ok (.aload_n 0, 1) := by decide +kernel
theorem dX10_meets_20 : decode cX10_meets 20 = .ok (.iconst (-1), 1) := by decide +kernel
theorem dX10_meets_21 : decode cX10_meets 21 = .ok (.putfield 297, 3) := by decide +kernel
theorem dX10_meets_24 : decode cX10_meets 24 = .ok (.aload_n 0, 1) := by decide +kernel
theorem dX10_meets_25 : decode cX10_meets 25 = .ok (.getfield 96, 3) := by decide +kernel
theorem dX10_meets_28 : decode cX10_meets 28 = .ok (.iconst 0, 1) := by decide +kernel
theorem dX10_meets_29 : decode cX10_meets 29 = .ok (.iconst 0, 1) := by decide +kernel
theorem dX10_meets_30 : decode cX10_meets 30 = .ok (.iastore, 1) := by decide +kernel
theorem dX10_meets_31 : decode cX10_meets 31 = .ok (.aload_n 0, 1) := by decide +kernel
theorem dX10_meets_32 : decode cX10_meets 32 = .ok (.getfield 96, 3) := by decide +kernel
theorem dX10_meets_35 : decode cX10_meets 35 = .ok (.iconst 1, 1) := by decide +kernel
theorem dX10_meets_36 : decode cX10_meets 36 = .ok (.aload_n 0, 1) := by decide +kernel
theorem dX10_meets_37 : decode cX10_meets 37 = .ok (.getfield 23, 3) := by decide +kernel
theorem dX10_meets_40 : decode cX10_meets 40 = .ok (.iconst 0, 1) := by decide +kernel
theorem dX10_meets_41 : decode cX10_meets 41 = .ok (.iaload, 1) := by decide +kernel
theorem dX10_meets_42 : decode cX10_meets 42 = .ok (.iconst 1, 1) := by decide +kernel
theorem dX10_meets_43 : decode cX10_meets 43 = .ok (.isub, 1) := by decide +kernel
theorem dX10_meets_44 : decode cX10_meets 44 = .ok (.iastore, 1) := by decide +kernel
theorem dX10_meets_45 : decode cX10_meets 45 = .ok (.iconst 0, 1) := by decide +kernel
theorem dX10_meets_46 : decode cX10_meets 46 = .ok (.istore_n 3, 1) := by decide +kernel
theorem dX10_meets_47 : decode cX10_meets 47 = .ok (.iload_n 3, 1) := by decide +kernel
theorem dX10_meets_48 : decode cX10_meets 48 = .ok (.iconst 2, 1) := by decide +kernel
theorem dX10_meets_49 : decode cX10_meets 49 = .ok (.if_icmp .ge 73, 3) := by decide +kernel
theorem dX10_meets_52 : decode cX10_meets 52 = .ok (.aload_n 0, 1) := by decide +kernel
theorem dX10_meets_53 : decode cX10_meets 53 = .ok (.getfield 99, 3) := by decide +kernel
theorem dX10_meets_56 : decode cX10_meets 56 = .ok (.iload_n 3, 1) := by decide +kernel
theorem dX10_meets_57 : decode cX10_meets 57 = .ok (.iconst 0, 1) := by decide +kernel
theorem dX10_meets_58 : decode cX10_meets 58 = .ok (.iastore, 1) := by decide +kernel
theorem dX10_meets_59 : decode cX10_meets 59 = .ok (.aload_n 0, 1) := by decide +kernel
theorem dX10_meets_60 : decode cX10_meets 60 = .ok (.getfield 102, 3) := by decide +kernel
theorem dX10_meets_63 : decode cX10_meets 63 = .ok (.iload_n 3, 1) := by decide +kernel
theorem dX10_meets_64 : decode cX10_meets 64 = .ok (.iconst 1, 1) := by decide +kernel
theorem dX10_meets_65 : decode cX10_meets 65 = .ok (.iastore, 1) := by decide +kernel
theorem dX10_meets_66 : decode cX10_meets 66 = .ok (.aload_n 0, 1) := by decide +kernel
theorem dX10_meets_67 : decode cX10_meets 67 = .ok (.getfield 90, 3) := by decide +kernel
theorem dX10_meets_70 : decode cX10_meets 70 = .ok (.iload_n 3, 1) := by decide +kernel
theorem dX10_meets_71 : decode cX10_meets 71 = .ok (.iconst 0, 1) := by decide +kernel
theorem dX10_meets_72 : decode cX10_meets 72 = .ok (.iastore, 1) := by decide +kernel
theorem dX10_meets_73 : decode cX10_meets 73 = .ok (.aload_n 0, 1) := by decide +kernel
theorem dX10_meets_74 : decode cX10_meets 74 = .ok (.getfield 93, 3) := by decide +kernel
theorem dX10_meets_77 : decode cX10_meets 77 = .ok (.iload_n 3, 1) := by decide +kernel
theorem dX10_meets_78 : decode cX10_meets 78 = .ok (.iconst 0, 1) := by decide +kernel
theorem dX10_meets_79 : decode cX10_meets 79 = .ok (.iastore, 1) := by decide +kernel
theorem dX10_meets_80 : decode cX10_meets 80 = .ok (.iconst 0, 1) := by decide +kernel
theorem dX10_meets_81 : decode cX10_meets 81 = .ok (.istore 4, 2) := by decide +kernel
theorem dX10_meets_83 : decode cX10_meets 83 = .ok (.iload 4, 2) := by decide +kernel
theorem dX10_meets_85 : decode cX10_meets 85 = .ok (.bipush 10, 2) := by decide +kernel
theorem dX10_meets_87 : decode cX10_meets 87 = .ok (.if_icmp .ge 29, 3) := by decide +kernel
theorem dX10_meets_90 : decode cX10_meets 90 = .ok (.aload_n 0, 1) := by decide +kernel
theorem dX10_meets_91 : decode cX10_meets 91 = .ok (.getfield 84, 3) := by decide +kernel
theorem dX10_meets_94 : decode cX10_meets 94 = .ok (.iload_n 3, 1) := by decide +kernel
theorem dX10_meets_95 : decode cX10_meets 95 = .ok (.aaload, 1) := by decide +kernel
theorem dX10_meets_96 : decode cX10_meets 96 = .ok (.iload 4, 2) := by decide +kernel
theorem dX10_meets_98 : decode cX10_meets 98 = .ok (.iconst (-1), 1) := by decide +kernel
theorem dX10_meets_99 : decode cX10_meets 99 = .ok (.iastore, 1) := by decide +kernel
theorem dX10_meets_100 : decode cX10_meets 100 = .ok (.aload_n 0, 1) := by decide +kernel
theorem dX10_meets_101 : decode cX10_meets 101 = .ok (.getfield 87, 3) := by decide +kernel
theorem dX10_meets_104 : decode cX10_meets 104 = .ok (.iload_n 3, 1) := by decide +kernel
theorem dX10_meets_105 : decode cX10_meets 105 = .ok (.aaload, 1) := by decide +kernel
theorem dX10_meets_106 : decode cX10_meets 106 = .ok (.iload 4, 2) := by decide +kernel
theorem dX10_meets_108 : decode cX10_meets 108 = .ok (.iconst (-1), 1) := by decide +kernel
theorem dX10_meets_109 : decode cX10_meets 109 = .ok (.iastore, 1) := by decide +kernel
theorem dX10_meets_110 : decode cX10_meets 110 = .ok (.iinc 4 1, 3) := by decide +kernel
theorem dX10_meets_113 : decode cX10_meets 113 = .ok (.goto (-30), 3) := by decide +kernel
theorem dX10_meets_116 : decode cX10_meets 116 = .ok (.iinc 3 1, 3) := by decide +kernel
theorem dX10_meets_119 : decode cX10_meets 119 = .ok (.goto (-72), 3) := by decide +kernel
theorem dX10_meets_122 : decode cX10_meets 122 = .ok (.aload_n 0, 1) := by decide +kernel
theorem dX10_meets_123 : decode cX10_meets 123 = .ok (.getfield 294, 3) := by decide +kernel
theorem dX10_meets_126 : decode cX10_meets 126 = .ok (.bipush 99, 2) := by decide +kernel
theorem dX10_meets_128 : decode cX10_meets 128 = .ok (.if_icmp .ge 115, 3) := by decide +kernel
theorem dX10_meets_131 : decode cX10_meets 131 = .ok (.aload_n 0, 1) := by decide +kernel
theorem dX10_meets_132 : decode cX10_meets 132 = .ok (.iconst 0, 1) := by decide +kernel
theorem dX10_meets_133 : decode cX10_meets 133 = .ok (.invokevirtual 300, 3) := by decide +kernel
theorem dX10_meets_136 : decode cX10_meets 136 = .ok (.ifCond .ne 11, 3) := by decide +kernel
theorem dX10_meets_139 : decode cX10_meets 139 = .ok (.aload_n 0, 1) := by decide +kernel
theorem dX10_meets_140 : decode cX10_meets 140 = .ok (.iconst 1, 1) := by decide +kernel
theorem dX10_meets_141 : decode cX10_meets 141 = .ok (.invokevirtual 300, 3) := by decide +kernel
theorem dX10_meets_144 : decode cX10_meets 144 = .ok (.ifCond .eq 99, 3) := by decide +kernel
theorem dX10_meets_147 : decode cX10_meets 147 = .ok (.aload_n 0, 1) := by decide +kernel
theorem dX10_meets_148 : decode cX10_meets 148 = .ok (.getfield 23, 3) := by decide +kernel
theorem dX10_meets_151 : decode cX10_meets 151 = .ok (.iconst 1, 1) := by decide +kernel
theorem dX10_meets_152 : decode cX10_meets 152 = .ok (.iaload, 1) := by decide +kernel
theorem dX10_meets_153 : decode cX10_meets 153 = .ok (.iconst 2, 1) := by decide +kernel
theorem dX10_meets_154 : decode cX10_meets 154 = .ok (.if_icmp .ne 22, 3) := by decide +kernel
theorem dX10_meets_157 : decode cX10_meets 157 = .ok (.aload_n 0, 1) := by decide +kernel
theorem dX10_meets_158 : decode cX10_meets 158 = .ok (.getfield 96, 3) := by decide +kernel
theorem dX10_meets_161 : decode cX10_meets 161 = .ok (.iconst 0, 1) := by decide +kernel
theorem dX10_meets_162 : decode cX10_meets 162 = .ok (.iaload, 1) := by decide +kernel
theorem dX10_meets_163 : decode cX10_meets 163 = .ok (.aload_n 0, 1) := by decide +kernel
theorem dX10_meets_164 : decode cX10_meets 164 = .ok (.getfield 96, 3) := by decide +kernel
theorem dX10_meets_167 : decode cX10_meets 167 = .ok (.iconst 1, 1) := by decide +kernel
theorem dX10_meets_168 : decode cX10_meets 168 = .ok (.iaload, 1) := by decide +kernel
theorem dX10_meets_169 : decode cX10_meets 169 = .ok (.if_icmp .lt 7, 3) := by decide +kernel
theorem dX10_meets_172 : decode cX10_meets 172 = .ok (.iconst 1, 1) := by decide +kernel
theorem dX10_meets_173 : decode cX10_meets 173 = .ok (.goto 4, 3) := by decide +kernel
theorem dX10_meets_176 : decode cX10_meets 176 = .ok (.iconst 0, 1) := by decide +kernel
theorem dX10_meets_177 : decode cX10_meets 177 = .ok (.istore_n 3, 1) := by decide +kernel
theorem dX10_meets_178 : decode cX10_meets 178 = .ok (.aload_n 0, 1) := by decide +kernel
theorem dX10_meets_179 : decode cX10_meets 179 = .ok (.iload_n 3, 1) := by decide +kernel
theorem dX10_meets_180 : decode cX10_meets 180 = .ok (.ifCond .eq 18, 3) := by decide +kernel
theorem dX10_meets_183 : decode cX10_meets 183 = .ok (.aload_n 0, 1) := by decide +kernel
theorem dX10_meets_184 : decode cX10_meets 184 = .ok (.getfield 297, 3) := by decide +kernel
theorem dX10_meets_187 : decode cX10_meets 187 = .ok (.iconst (-1), 1) := by decide +kernel
theorem dX10_meets_188 : decode cX10_meets 188 = .ok (.if_icmp .ne 10, 3) := by decide +kernel
theorem dX10_meets_191 : decode cX10_meets 191 = .ok (.aload_n 0, 1) := by decide +kernel
theorem dX10_meets_192 : decode cX10_meets 192 = .ok (.getfield 294, 3) := by decide +kernel
theorem dX10_meets_195 : decode cX10_meets 195 = .ok (.goto 7, 3) := by decide +kernel
theorem dX10_meets_198 : decode cX10_meets 198 = .ok (.aload_n 0, 1) := by decide +kernel
theorem dX10_meets_199 : decode cX10_meets 199 = .ok (.getfield 297, 3) := by decide +kernel
theorem dX10_meets_202 : decode cX10_meets 202 = .ok (.putfield 297, 3) := by decide +kernel
theorem dX10_meets_205 : decode cX10_meets 205 = .ok (.aload_n 0, 1) := by decide +kernel
theorem dX10_meets_206 : decode cX10_meets 206 = .ok (.aload_n 0, 1) := by decide +kernel
theorem dX10_meets_207 : decode cX10_meets 207 = .ok (.getfield 294, 3) := by decide +kernel
theorem dX10_meets_210 : decode cX10_meets 210 = .ok (.iload_n 3, 1) := by decide +kernel
theorem dX10_meets_211 : decode cX10_meets 211 = .ok (.ifCond .ne 11, 3) := by decide +kernel
theorem dX10_meets_214 : decode cX10_meets 214 = .ok (.aload_n 0, 1) := by decide +kernel
theorem dX10_meets_215 : decode cX10_meets 215 = .ok (.getfield 297, 3) := by decide +kernel
theorem dX10_meets_218 : decode cX10_meets 218 = .ok (.iconst (-1), 1) := by decide +kernel
theorem dX10_meets_219 : decode cX10_meets 219 = .ok (.if_icmp .eq 7, 3) := by decide +kernel
theorem dX10_meets_222 : decode cX10_meets 222 = .ok (.iconst 1, 1) := by decide +kernel
theorem dX10_meets_223 : decode cX10_meets 223 = .ok (.goto 4, 3) := by decide +kernel
theorem dX10_meets_226 : decode cX10_meets 226 = .ok (.iconst 0, 1) := by decide +kernel
theorem dX10_meets_227 : decode cX10_meets 227 = .ok (.invokevirtual 303, 3) := by decide +kernel
theorem dX10_meets_230 : decode cX10_meets 230 = .ok (.aload_n 0, 1) := by decide +kernel
theorem dX10_meets_231 : decode cX10_meets 231 = .ok (.dup, 1) := by decide +kernel
theorem dX10_meets_232 : decode cX10_meets 232 = .ok (.getfield 294, 3) := by decide +kernel
theorem dX10_meets_235 : decode cX10_meets 235 = .ok (.iconst 1, 1) := by decide +kernel
theorem dX10_meets_236 : decode cX10_meets 236 = .ok (.iadd, 1) := by decide +kernel
theorem dX10_meets_237 : decode cX10_meets 237 = .ok (.putfield 294, 3) := by decide +kernel
theorem dX10_meets_240 : decode cX10_meets 240 = .ok (.goto (-118), 3) := by decide +kernel
theorem dX10_meets_243 : decode cX10_meets 243 = .ok (.return_, 1) := by decide +kernel
theorem dX10_goesTenth_0 : decode cX10_goesTenth 0 = .ok (.aload_n 0, 1) := by decide +kernel
theorem dX10_goesTenth_1 : decode cX10_goesTenth 1 = .ok (.iconst 0, 1) := by decide +kernel
theorem dX10_goesTenth_2 : decode cX10_goesTenth 2 = .ok (.invokevirtual 300, 3) := by decide +kernel
theorem dX10_goesTenth_5 : decode cX10_goesTenth 5 = .ok (.ifCond .eq 38, 3) := by decide +kernel
theorem dX10_goesTenth_8 : decode cX10_goesTenth 8 = .ok (.aload_n 0, 1) := by decide +kernel
theorem dX10_goesTenth_9 : decode cX10_goesTenth 9 = .ok (.iconst 1, 1) := by decide +kernel
theorem dX10_goesTenth_10 : decode cX10_goesTenth 10 = .ok (.invokevirtual 300, 3) := by decide +kernel
theorem dX10_goesTenth_13 : decode cX10_goesTenth 13 = .ok (.ifCond .eq 30, 3) := by decide +kernel
theorem dX10_goesTenth_16 : decode cX10_goesTenth 16 = .ok (.iload_n 2, 1) := by decide +kernel
theorem dX10_goesTenth_17 : decode cX10_goesTenth 17 = .ok (.ifCond .ne 26, 3) := by decide +kernel
theorem dX10_goesTenth_20 : decode cX10_goesTenth 20 = .ok (.aload_n 0, 1) := by decide +kernel
theorem dX10_goesTenth_21 : decode cX10_goesTenth 21 = .ok (.aload_n 0, 1) := by decide +kernel
theorem dX10_goesTenth_22 : decode cX10_goesTenth 22 = .ok (.getfield 96, 3) := by decide +kernel
theorem dX10_goesTenth_25 : decode cX10_goesTenth 25 = .ok (.iconst 0, 1) := by decide +kernel
theorem dX10_goesTenth_26 : decode cX10_goesTenth 26 = .ok (.iaload, 1) := by decide +kernel
theorem dX10_goesTenth_27 : decode cX10_goesTenth 27 = .ok (.aload_n 0, 1) := by decide +kernel
theorem dX10_goesTenth_28 : decode cX10_goesTenth 28 = .ok (.getfield 96, 3) := by decide +kernel
theorem dX10_goesTenth_31 : decode cX10_goesTenth 31 = .ok (.iconst 1, 1) := by decide +kernel
theorem dX10_goesTenth_32 : decode cX10_goesTenth 32 = .ok (.iaload, 1) := by decide +kernel
theorem dX10_goesTenth_33 : decode cX10_goesTenth 33 = .ok (.invokevirtual 307, 3) := by decide +kernel
theorem dX10_goesTenth_36 : decode cX10_goesTenth 36 = .ok (.ifCond .ne 7, 3) := by decide +kernel
theorem dX10_goesTenth_39 : decode cX10_goesTenth 39 = .ok (.iconst 1, 1) := by decide +kernel
theorem dX10_goesTenth_40 : decode cX10_goesTenth 40 = .ok (.goto 4, 3) := by decide +kernel
theorem dX10_goesTenth_43 : decode cX10_goesTenth 43 = .ok (.iconst 0, 1) := by decide +kernel
theorem dX10_goesTenth_44 : decode cX10_goesTenth 44 = .ok (.istore_n 3, 1) := by decide +kernel
theorem dX10_goesTenth_45 : decode cX10_goesTenth 45 = .ok (.iconst 0, 1) := by decide +kernel
theorem dX10_goesTenth_46 : decode cX10_goesTenth 46 = .ok (.istore 4, 2) := by decide +kernel
theorem dX10_goesTenth_48 : decode cX10_goesTenth 48 = .ok (.iload 4, 2) := by decide +kernel
theorem dX10_goesTenth_50 : decode cX10_goesTenth 50 = .ok (.iconst 2, 1) := by decide +kernel
theorem dX10_goesTenth_51 : decode cX10_goesTenth 51 = .ok (.if_icmp .ge 71, 3) := by decide +kernel
theorem dX10_goesTenth_54 : decode cX10_goesTenth 54 = .ok (.aload_n 0, 1) := by decide +kernel
theorem dX10_goesTenth_55 : decode cX10_goesTenth 55 = .ok (.getfield 81, 3) := by decide +kernel
theorem dX10_goesTenth_58 : decode cX10_goesTenth 58 = .ok (.iload 4, 2) := by decide +kernel
theorem dX10_goesTenth_60 : decode cX10_goesTenth 60 = .ok (.aaload, 1) := by decide +kernel
theorem dX10_goesTenth_61 : decode cX10_goesTenth 61 = .ok (.iload_n 1, 1) := by decide +kernel
theorem dX10_goesTenth_62 : decode cX10_goesTenth 62 = .ok (.aaload, 1) := by decide +kernel
theorem dX10_goesTenth_63 : decode cX10_goesTenth 63 = .ok (.iconst 0, 1) := by decide +kernel
theorem dX10_goesTenth_64 : decode cX10_goesTenth 64 = .ok (.iconst (-1), 1) := by decide +kernel
theorem dX10_goesTenth_65 : decode cX10_goesTenth 65 = .ok (.iastore, 1) := by decide +kernel
theorem dX10_goesTenth_66 : decode cX10_goesTenth 66 = .ok (.aload_n 0, 1) := by decide +kernel
theorem dX10_goesTenth_67 : decode cX10_goesTenth 67 = .ok (.iload 4, 2) := by decide +kernel
theorem dX10_goesTenth_69 : decode cX10_goesTenth 69 = .ok (.invokevirtual 300, 3) := by decide +kernel
theorem dX10_goesTenth_72 : decode cX10_goesTenth 72 = .ok (.ifCond .ne 6, 3) := by decide +kernel
theorem dX10_goesTenth_75 : decode cX10_goesTenth 75 = .ok (.goto 41, 3) := by decide +kernel
theorem dX10_goesTenth_78 : decode cX10_goesTenth 78 = .ok (.aload_n 0, 1) := by decide +kernel
theorem dX10_goesTenth_79 : decode cX10_goesTenth 79 = .ok (.iload 4, 2) := by decide +kernel
theorem dX10_goesTenth_81 : decode cX10_goesTenth 81 = .ok (.iload_n 1, 1) := by decide +kernel
theorem dX10_goesTenth_82 : decode cX10_goesTenth 82 = .ok (.aload_n 0, 1) := by decide +kernel
theorem dX10_goesTenth_83 : decode cX10_goesTenth 83 = .ok (.getfield 102, 3) := by decide +kernel
theorem dX10_goesTenth_86 : decode cX10_goesTenth 86 = .ok (.iload 4, 2) := by decide +kernel
theorem dX10_goesTenth_88 : decode cX10_goesTenth 88 = .ok (.iaload, 1) := by decide +kernel
theorem dX10_goesTenth_89 : decode cX10_goesTenth 89 = .ok (.iload_n 3, 1) := by decide +kernel
theorem dX10_goesTenth_90 : decode cX10_goesTenth 90 = .ok (.iload_n 2, 1) := by decide +kernel
theorem dX10_goesTenth_91 : decode cX10_goesTenth 91 = .ok (.aload_n 0, 1) := by decide +kernel
theorem dX10_goesTenth_92 : decode cX10_goesTenth 92 = .ok (.getfield 102, 3) := by decide +kernel
theorem dX10_goesTenth_95 : decode cX10_goesTenth 95 = .ok (.iconst 1, 1) := by decide +kernel
theorem dX10_goesTenth_96 : decode cX10_goesTenth 96 = .ok (.iload 4, 2) := by decide +kernel
theorem dX10_goesTenth_98 : decode cX10_goesTenth 98 = .ok (.isub, 1) := by decide +kernel
theorem dX10_goesTenth_99 : decode cX10_goesTenth 99 = .ok (.iaload, 1) := by decide +kernel
theorem dX10_goesTenth_100 : decode cX10_goesTenth 100 = .ok (.invokevirtual 311, 3) := by decide +kernel
theorem dX10_goesTenth_103 : decode cX10_goesTenth 103 = .ok (.aload_n 0, 1) := by decide +kernel
theorem dX10_goesTenth_104 : decode cX10_goesTenth 104 = .ok (.getfield 105, 3) := by decide +kernel
theorem dX10_goesTenth_107 : decode cX10_goesTenth 107 = .ok (.iload 4, 2) := by decide +kernel
theorem dX10_goesTenth_109 : decode cX10_goesTenth 109 = .ok (.aload_n 0, 1) := by decide +kernel
theorem dX10_goesTenth_110 : decode cX10_goesTenth 110 = .ok (.iload 4, 2) := by decide +kernel
theorem dX10_goesTenth_112 : decode cX10_goesTenth 112 = .ok (.invokevirtual 315, 3) := by decide +kernel
theorem dX10_goesTenth_115 : decode cX10_goesTenth 115 = .ok (.iastore, 1) := by decide +kernel
theorem dX10_goesTenth_116 : decode cX10_goesTenth 116 = .ok (.iinc 4 1, 3) := by decide +kernel
theorem dX10_goesTenth_119 : decode cX10_goesTenth 119 = .ok (.goto (-71), 3) := by decide +kernel
theorem dX10_goesTenth_122 : decode cX10_goesTenth 122 = .ok (.iconst 0, 1) := by decide +kernel
theorem dX10_goesTenth_123 : decode cX10_goesTenth 123 = .ok (.istore 4, 2) := by decide +kernel
theorem dX10_goesTenth_125 : decode cX10_goesTenth 125 = .ok (.iload 4, 2) := by decide +kernel
theorem dX10_goesTenth_127 : decode cX10_goesTenth 127 = .ok (.iconst 2, 1) := by decide +kernel
theorem dX10_goesTenth_128 : decode cX10_goesTenth 128 = .ok (.if_icmp .ge 42, 3) := by decide +kernel
theorem dX10_goesTenth_131 : decode cX10_goesTenth 131 = .ok (.aload_n 0, 1) := by decide +kernel
theorem dX10_goesTenth_132 : decode cX10_goesTenth 132 = .ok (.getfield 102, 3) := by decide +kernel
theorem dX10_goesTenth_135 : decode cX10_goesTenth 135 = .ok (.iload 4, 2) := by decide +kernel
theorem dX10_goesTenth_137 : decode cX10_goesTenth 137 = .ok (.aload_n 0, 1) := by decide +kernel
theorem dX10_goesTenth_138 : decode cX10_goesTenth 138 = .ok (.iload 4, 2) := by decide +kernel
theorem dX10_goesTenth_140 : decode cX10_goesTenth 140 = .ok (.invokevirtual 300, 3) := by decide +kernel
theorem dX10_goesTenth_143 : decode cX10_goesTenth 143 = .ok (.ifCond .eq 13, 3) := by decide +kernel
theorem dX10_goesTenth_146 : decode cX10_goesTenth 146 = .ok (.aload_n 0, 1) := by decide +kernel
theorem dX10_goesTenth_147 : decode cX10_goesTenth 147 = .ok (.getfield 105, 3) := by decide +kernel
theorem dX10_goesTenth_150 : decode cX10_goesTenth 150 = .ok (.iload 4, 2) := by decide +kernel
theorem dX10_goesTenth_152 : decode cX10_goesTenth 152 = .ok (.iaload, 1) := by decide +kernel
theorem dX10_goesTenth_153 : decode cX10_goesTenth 153 = .ok (.goto 10, 3) := by decide +kernel
theorem dX10_goesTenth_156 : decode cX10_goesTenth 156 = .ok (.aload_n 0, 1) := by decide +kernel
theorem dX10_goesTenth_157 : decode cX10_goesTenth 157 = .ok (.getfield 102, 3) := by decide +kernel
theorem dX10_goesTenth_160 : decode cX10_goesTenth 160 = .ok (.iload 4, 2) := by decide +kernel
theorem dX10_goesTenth_162 : decode cX10_goesTenth 162 = .ok (.iaload, 1) := by decide +kernel
theorem dX10_goesTenth_163 : decode cX10_goesTenth 163 = .ok (.iastore, 1) := by decide +kernel
theorem dX10_goesTenth_164 : decode cX10_goesTenth 164 = .ok (.iinc 4 1, 3) := by decide +kernel
theorem dX10_goesTenth_167 : decode cX10_goesTenth 167 = .ok (.goto (-42), 3) := by decide +kernel
theorem dX10_goesTenth_170 : decode cX10_goesTenth 170 = .ok (.iload_n 3, 1) := by decide +kernel
theorem dX10_goesTenth_171 : decode cX10_goesTenth 171 = .ok (.ifCond .eq 27, 3) := by decide +kernel
theorem dX10_goesTenth_174 : decode cX10_goesTenth 174 = .ok (.aload_n 0, 1) := by decide +kernel
theorem dX10_goesTenth_175 : decode cX10_goesTenth 175 = .ok (.getfield 96, 3) := by decide +kernel
theorem dX10_goesTenth_178 : decode cX10_goesTenth 178 = .ok (.iconst 0, 1) := by decide +kernel
theorem dX10_goesTenth_179 : decode cX10_goesTenth 179 = .ok (.iaload, 1) := by decide +kernel
theorem dX10_goesTenth_180 : decode cX10_goesTenth 180 = .ok (.aload_n 0, 1) := by decide +kernel
theorem dX10_goesTenth_181 : decode cX10_goesTenth 181 = .ok (.getfield 96, 3) := by decide +kernel
theorem dX10_goesTenth_184 : decode cX10_goesTenth 184 = .ok (.iconst 1, 1) := by decide +kernel
theorem dX10_goesTenth_185 : decode cX10_goesTenth 185 = .ok (.iaload, 1) := by decide +kernel
theorem dX10_goesTenth_186 : decode cX10_goesTenth 186 = .ok (.invokestatic 291, 3) := by decide +kernel
theorem dX10_goesTenth_189 : decode cX10_goesTenth 189 = .ok (.bipush 15, 2) := by decide +kernel
theorem dX10_goesTenth_191 : decode cX10_goesTenth 191 = .ok (.if_icmp .gt 7, 3) := by decide +kernel
theorem dX10_goesTenth_194 : decode cX10_goesTenth 194 = .ok (.iconst 1, 1) := by decide +kernel
theorem dX10_goesTenth_195 : decode cX10_goesTenth 195 = .ok (.goto 4, 3) := by decide +kernel
theorem dX10_goesTenth_198 : decode cX10_goesTenth 198 = .ok (.iconst 0, 1) := by decide +kernel
theorem dX10_goesTenth_199 : decode cX10_goesTenth 199 = .ok (.istore 4, 2) := by decide +kernel
theorem dX10_goesTenth_201 : decode cX10_goesTenth 201 = .ok (.iconst 0, 1) := by decide +kernel
theorem dX10_goesTenth_202 : decode cX10_goesTenth 202 = .ok (.istore 5, 2) := by decide +kernel
theorem dX10_goesTenth_204 : decode cX10_goesTenth 204 = .ok (.iload 5, 2) := by decide +kernel
theorem dX10_goesTenth_206 : decode cX10_goesTenth 206 = .ok (.iconst 2, 1) := by decide +kernel
theorem dX10_goesTenth_207 : decode cX10_goesTenth 207 = .ok (.if_icmp .ge 129, 3) := by decide +kernel
theorem dX10_goesTenth_210 : decode cX10_goesTenth 210 = .ok (.aload_n 0, 1) := by decide +kernel
theorem dX10_goesTenth_211 : decode cX10_goesTenth 211 = .ok (.iload 5, 2) := by decide +kernel
theorem dX10_goesTenth_213 : decode cX10_goesTenth 213 = .ok (.invokevirtual 300, 3) := by decide +kernel
theorem dX10_goesTenth_216 : decode cX10_goesTenth 216 = .ok (.ifCond .ne 6, 3) := by decide +kernel
theorem dX10_goesTenth_219 : decode cX10_goesTenth 219 = .ok (.goto 111, 3) := by decide +kernel
theorem dX10_goesTenth_222 : decode cX10_goesTenth 222 = .ok (.iload 4, 2) := by decide +kernel
theorem dX10_goesTenth_224 : decode cX10_goesTenth 224 = .ok (.ifCond .eq 32, 3) := by decide +kernel
theorem dX10_goesTenth_227 : decode cX10_goesTenth 227 = .ok (.aload_n 0, 1) := by decide +kernel
theorem dX10_goesTenth_228 : decode cX10_goesTenth 228 = .ok (.getfield 102, 3) := by decide +kernel
theorem dX10_goesTenth_231 : decode cX10_goesTenth 231 = .ok (.iconst 1, 1) := by decide +kernel
theorem dX10_goesTenth_232 : decode cX10_goesTenth 232 = .ok (.iload 5, 2) := by decide +kernel
theorem dX10_goesTenth_234 : decode cX10_goesTenth 234 = .ok (.isub, 1) := by decide +kernel
theorem dX10_goesTenth_235 : decode cX10_goesTenth 235 = .ok (.iaload, 1) := by decide +kernel
theorem dX10_goesTenth_236 : decode cX10_goesTenth 236 = .ok (.iconst 1, 1) := by decide +kernel
theorem dX10_goesTenth_237 : decode cX10_goesTenth 237 = .ok (.if_icmp .eq 15, 3) := by decide +kernel
theorem dX10_goesTenth_240 : decode cX10_goesTenth 240 = .ok (.aload_n 0, 1) := by decide +kernel
theorem dX10_goesTenth_241 : decode cX10_goesTenth 241 = .ok (.iconst 1, 1) := by decide +kernel
theorem dX10_goesTenth_242 : decode cX10_goesTenth 242 = .ok (.iload 5, 2) := by decide +kernel
theorem dX10_goesTenth_244 : decode cX10_goesTenth 244 = .ok (.isub, 1) := by decide +kernel
theorem dX10_goesTenth_245 : decode cX10_goesTenth 245 = .ok (.invokevirtual 288, 3) := by decide +kernel
theorem dX10_goesTenth_248 : decode cX10_goesTenth 248 = .ok (.iconst 5, 1) := by decide +kernel
theorem dX10_goesTenth_249 : decode cX10_goesTenth 249 = .ok (.if_icmp .lt 7, 3) := by decide +kernel
theorem dX10_goesTenth_252 : decode cX10_goesTenth 252 = .ok (.iconst 1, 1) := by decide +kernel
theorem dX10_goesTenth_253 : decode cX10_goesTenth 253 = .ok (.goto 4, 3) := by decide +kernel
theorem dX10_goesTenth_256 : decode cX10_goesTenth 256 = .ok (.iconst 0, 1) := by decide +kernel
theorem dX10_goesTenth_257 : decode cX10_goesTenth 257 = .ok (.istore 6, 2) := by decide +kernel
theorem dX10_goesTenth_259 : decode cX10_goesTenth 259 = .ok (.aload_n 0, 1) := by decide +kernel
theorem dX10_goesTenth_260 : decode cX10_goesTenth 260 = .ok (.getfield 93, 3) := by decide +kernel
theorem dX10_goesTenth_263 : decode cX10_goesTenth 263 = .ok (.iconst 1, 1) := by decide +kernel
theorem dX10_goesTenth_264 : decode cX10_goesTenth 264 = .ok (.iload 5, 2) := by decide +kernel
theorem dX10_goesTenth_266 : decode cX10_goesTenth 266 = .ok (.isub, 1) := by decide +kernel
theorem dX10_goesTenth_267 : decode cX10_goesTenth 267 = .ok (.dup2, 1) := by decide +kernel
theorem dX10_goesTenth_268 : decode cX10_goesTenth 268 = .ok (.iaload, 1) := by decide +kernel
theorem dX10_goesTenth_269 : decode cX10_goesTenth 269 = .ok (.iload 6, 2) := by decide +kernel
theorem dX10_goesTenth_271 : decode cX10_goesTenth 271 = .ok (.ifCond .eq 7, 3) := by decide +kernel
theorem dX10_goesTenth_274 : decode cX10_goesTenth 274 = .ok (.iconst 1, 1) := by decide +kernel
theorem dX10_goesTenth_275 : decode cX10_goesTenth 275 = .ok (.goto 4, 3) := by decide +kernel
theorem dX10_goesTenth_278 : decode cX10_goesTenth 278 = .ok (.iconst 0, 1) := by decide +kernel
theorem dX10_goesTenth_279 : decode cX10_goesTenth 279 = .ok (.iadd, 1) := by decide +kernel
theorem dX10_goesTenth_280 : decode cX10_goesTenth 280 = .ok (.iastore, 1) := by decide +kernel
theorem dX10_goesTenth_281 : decode cX10_goesTenth 281 = .ok (.aload_n 0, 1) := by decide +kernel
theorem dX10_goesTenth_282 : decode cX10_goesTenth 282 = .ok (.getfield 99, 3) := by decide +kernel
theorem dX10_goesTenth_285 : decode cX10_goesTenth 285 = .ok (.iload 5, 2) := by decide +kernel
theorem dX10_goesTenth_287 : decode cX10_goesTenth 287 = .ok (.iload 6, 2) := by decide +kernel
theorem dX10_goesTenth_289 : decode cX10_goesTenth 289 = .ok (.ifCond .eq 27, 3) := by decide +kernel
theorem dX10_goesTenth_292 : decode cX10_goesTenth 292 = .ok (.aload_n 0, 1) := by decide +kernel
theorem dX10_goesTenth_293 : decode cX10_goesTenth 293 = .ok (.getfield 99, 3) := by decide +kernel
theorem dX10_goesTenth_296 : decode cX10_goesTenth 296 = .ok (.iload 5, 2) := by decide +kernel
theorem dX10_goesTenth_298 : decode cX10_goesTenth 298 = .ok (.iaload, 1) := by decide +kernel
theorem dX10_goesTenth_299 : decode cX10_goesTenth 299 = .ok (.aload_n 0, 1) := by decide +kernel
theorem dX10_goesTenth_300 : decode cX10_goesTenth 300 = .ok (.aload_n 0, 1) := by decide +kernel
theorem dX10_goesTenth_301 : decode cX10_goesTenth 301 = .ok (.getfield 29, 3) := by decide +kernel
theorem dX10_goesTenth_304 : decode cX10_goesTenth 304 = .ok (.iload 5, 2) := by decide +kernel
theorem dX10_goesTenth_306 : decode cX10_goesTenth 306 = .ok (.iaload, 1) := by decide +kernel
theorem dX10_goesTenth_307 : decode cX10_goesTenth 307 = .ok (.invokevirtual 318, 3) := by decide +kernel
theorem dX10_goesTenth_310 : decode cX10_goesTenth 310 = .ok (.invokestatic 272, 3) := by decide +kernel
theorem dX10_goesTenth_313 : decode cX10_goesTenth 313 = .ok (.goto 16, 3) := by decide +kernel
theorem dX10_goesTenth_316 : decode cX10_goesTenth 316 = .ok (.iconst 0, 1) := by decide +kernel
theorem dX10_goesTenth_317 : decode cX10_goesTenth 317 = .ok (.aload_n 0, 1) := by decide +kernel
theorem dX10_goesTenth_318 : decode cX10_goesTenth 318 = .ok (.getfield 99, 3) := by decide +kernel
theorem dX10_goesTenth_321 : decode cX10_goesTenth 321 = .ok (.iload 5, 2) := by decide +kernel
theorem dX10_goesTenth_323 : decode cX10_goesTenth 323 = .ok (.iaload, 1) := by decide +kernel
theorem dX10_goesTenth_324 : decode cX10_goesTenth 324 = .ok (.iconst 1, 1) := by decide +kernel
theorem dX10_goesTenth_325 : decode cX10_goesTenth 325 = .ok (.isub, 1) := by decide +kernel
theorem dX10_goesTenth_326 : decode cX10_goesTenth 326 = .ok (.invokestatic 272, 3) := by decide +kernel
theorem dX10_goesTenth_329 : decode cX10_goesTenth 329 = .ok (.iastore, 1) := by decide +kernel
theorem dX10_goesTenth_330 : decode cX10_goesTenth 330 = .ok (.iinc 5 1, 3) := by decide +kernel
theorem dX10_goesTenth_333 : decode cX10_goesTenth 333 = .ok (.goto (-129), 3) := by decide +kernel
theorem dX10_goesTenth_336 : decode cX10_goesTenth 336 = .ok (.iconst 0, 1) := by decide +kernel
theorem dX10_goesTenth_337 : decode cX10_goesTenth 337 = .ok (.istore 5, 2) := by decide +kernel
theorem dX10_goesTenth_339 : decode cX10_goesTenth 339 = .ok (.iload 5, 2) := by decide +kernel
theorem dX10_goesTenth_341 : decode cX10_goesTenth 341 = .ok (.iconst 2, 1) := by decide +kernel
theorem dX10_goesTenth_342 : decode cX10_goesTenth 342 = .ok (.if_icmp .ge 27, 3) := by decide +kernel
theorem dX10_goesTenth_345 : decode cX10_goesTenth 345 = .ok (.aload_n 0, 1) := by decide +kernel
theorem dX10_goesTenth_346 : decode cX10_goesTenth 346 = .ok (.iload 5, 2) := by decide +kernel
theorem dX10_goesTenth_348 : decode cX10_goesTenth 348 = .ok (.invokevirtual 300, 3) := by decide +kernel
theorem dX10_goesTenth_351 : decode cX10_goesTenth 351 = .ok (.ifCond .eq 12, 3) := by decide +kernel
theorem dX10_goesTenth_354 : decode cX10_goesTenth 354 = .ok (.aload_n 0, 1) := by decide +kernel
theorem dX10_goesTenth_355 : decode cX10_goesTenth 355 = .ok (.iload 5, 2) := by decide +kernel
theorem dX10_goesTenth_357 : decode cX10_goesTenth 357 = .ok (.iload_n 1, 1) := by decide +kernel
theorem dX10_goesTenth_358 : decode cX10_goesTenth 358 = .ok (.iload_n 3, 1) := by decide +kernel
theorem dX10_goesTenth_359 : decode cX10_goesTenth 359 = .ok (.iload_n 2, 1) := by decide +kernel
theorem dX10_goesTenth_360 : decode cX10_goesTenth 360 = .ok (.invokevirtual 321, 3) := by decide +kernel
theorem dX10_goesTenth_363 : decode cX10_goesTenth 363 = .ok (.iinc 5 1, 3) := by decide +kernel
theorem dX10_goesTenth_366 : decode cX10_goesTenth 366 = .ok (.goto (-27), 3) := by decide +kernel
theorem dX10_goesTenth_369 : decode cX10_goesTenth 369 = .ok (.aload_n 0, 1) := by decide +kernel
theorem dX10_goesTenth_370 : decode cX10_goesTenth 370 = .ok (.invokevirtual 325, 3) := by decide +kernel
theorem dX10_goesTenth_373 : decode cX10_goesTenth 373 = .ok (.return_, 1) := by decide +kernel
theorem dX10_looksOut_0 : decode cX10_looksOut 0 = .ok (.aload_n 0, 1) := by decide +kernel
theorem dX10_looksOut_1 : decode cX10_looksOut 1 = .ok (.getfield 81, 3) := by decide +kernel
theorem dX10_looksOut_4 : decode cX10_looksOut 4 = .ok (.iload_n 1, 1) := by decide +kernel
theorem dX10_looksOut_5 : decode cX10_looksOut 5 = .ok (.aaload, 1) := by decide +kernel
theorem dX10_looksOut_6 : decode cX10_looksOut 6 = .ok (.iload_n 2, 1) := by decide +kernel
theorem dX10_looksOut_7 : decode cX10_looksOut 7 = .ok (.aaload, 1) := by decide +kernel
theorem dX10_looksOut_8 : decode cX10_looksOut 8 = .ok (.astore 5, 2) := by decide +kernel
theorem dX10_looksOut_10 : decode cX10_looksOut 10 = .ok (.aload_n 0, 1) := by decide +kernel
theorem dX10_looksOut_11 : decode cX10_looksOut 11 = .ok (.iload_n 1, 1) := by decide +kernel
theorem dX10_looksOut_12 : decode cX10_looksOut 12 = .ok (.iload_n 2, 1) := by decide +kernel
theorem dX10_looksOut_13 : decode cX10_looksOut 13 = .ok (.aload_n 0, 1) := by decide +kernel
theorem dX10_looksOut_14 : decode cX10_looksOut 14 = .ok (.getfield 102, 3) := by decide +kernel
theorem dX10_looksOut_17 : decode cX10_looksOut 17 = .ok (.iload_n 1, 1) := by decide +kernel
theorem dX10_looksOut_18 : decode cX10_looksOut 18 = .ok (.iaload, 1) := by decide +kernel
theorem dX10_looksOut_19 : decode cX10_looksOut 19 = .ok (.iload_n 3, 1) := by decide +kernel
theorem dX10_looksOut_20 : decode cX10_looksOut 20 = .ok (.iload 4, 2) := by decide +kernel
theorem dX10_looksOut_22 : decode cX10_looksOut 22 = .ok (.aload_n 0, 1) := by decide +kernel
theorem dX10_looksOut_23 : decode cX10_looksOut 23 = .ok (.getfield 102, 3) := by decide +kernel
theorem dX10_looksOut_26 : decode cX10_looksOut 26 = .ok (.iconst 1, 1) := by decide +kernel
theorem dX10_looksOut_27 : decode cX10_looksOut 27 = .ok (.iload_n 1, 1) := by decide +kernel
theorem dX10_looksOut_28 : decode cX10_looksOut 28 = .ok (.isub, 1) := by decide +kernel
theorem dX10_looksOut_29 : decode cX10_looksOut 29 = .ok (.iaload, 1) := by decide +kernel
theorem dX10_looksOut_30 : decode cX10_looksOut 30 = .ok (.invokevirtual 311, 3) := by decide +kernel
theorem dX10_looksOut_33 : decode cX10_looksOut 33 = .ok (.aload_n 0, 1) := by decide +kernel
theorem dX10_looksOut_34 : decode cX10_looksOut 34 = .ok (.getfield 96, 3) := by decide +kernel
theorem dX10_looksOut_37 : decode cX10_looksOut 37 = .ok (.iload_n 1, 1) := by decide +kernel
theorem dX10_looksOut_38 : decode cX10_looksOut 38 = .ok (.iaload, 1) := by decide +kernel
theorem dX10_looksOut_39 : decode cX10_looksOut 39 = .ok (.istore 6, 2) := by decide +kernel
theorem dX10_looksOut_41 : decode cX10_looksOut 41 = .ok (.iload_n 1, 1) := by decide +kernel
theorem dX10_looksOut_42 : decode cX10_looksOut 42 = .ok (.ifCond .ne 7, 3) := by decide +kernel
theorem dX10_looksOut_45 : decode cX10_looksOut 45 = .ok (.iconst 1, 1) := by decide +kernel
theorem dX10_looksOut_46 : decode cX10_looksOut 46 = .ok (.goto 4, 3) := by decide +kernel
theorem dX10_looksOut_49 : decode cX10_looksOut 49 = .ok (.iconst (-1), 1) := by decide +kernel
theorem dX10_looksOut_50 : decode cX10_looksOut 50 = .ok (.istore 7, 2) := by decide +kernel
theorem dX10_looksOut_52 : decode cX10_looksOut 52 = .ok (.aload_n 0, 1) := by decide +kernel
theorem dX10_looksOut_53 : decode cX10_looksOut 53 = .ok (.invokevirtual 328, 3) := by decide +kernel
theorem dX10_looksOut_56 : decode cX10_looksOut 56 = .ok (.istore 8, 2) := by decide +kernel
theorem dX10_looksOut_58 : decode cX10_looksOut 58 = .ok (.aload_n 0, 1) := by decide +kernel
theorem dX10_looksOut_59 : decode cX10_looksOut 59 = .ok (.iload_n 1, 1) := by decide +kernel
theorem dX10_looksOut_60 : decode cX10_looksOut 60 = .ok (.iload 6, 2) := by decide +kernel
theorem dX10_looksOut_62 : decode cX10_looksOut 62 = .ok (.invokevirtual 331, 3) := by decide +kernel
theorem dX10_looksOut_65 : decode cX10_looksOut 65 = .ok (.istore 9, 2) := by decide +kernel
theorem dX10_looksOut_67 : decode cX10_looksOut 67 = .ok (.aload 5, 2) := by decide +kernel
theorem dX10_looksOut_69 : decode cX10_looksOut 69 = .ok (.iconst 0, 1) := by decide +kernel
theorem dX10_looksOut_70 : decode cX10_looksOut 70 = .ok (.iload 6, 2) := by decide +kernel
theorem dX10_looksOut_72 : decode cX10_looksOut 72 = .ok (.iastore, 1) := by decide +kernel
theorem dX10_looksOut_73 : decode cX10_looksOut 73 = .ok (.aload 5, 2) := by decide +kernel
theorem dX10_looksOut_75 : decode cX10_looksOut 75 = .ok (.iconst 1, 1) := by decide +kernel
theorem dX10_looksOut_76 : decode cX10_looksOut 76 = .ok (.aload_n 0, 1) := by decide +kernel
theorem dX10_looksOut_77 : decode cX10_looksOut 77 = .ok (.getfield 102, 3) := by decide +kernel
theorem dX10_looksOut_80 : decode cX10_looksOut 80 = .ok (.iload_n 1, 1) := by decide +kernel
theorem dX10_looksOut_81 : decode cX10_looksOut 81 = .ok (.iaload, 1) := by decide +kernel
theorem dX10_looksOut_82 : decode cX10_looksOut 82 = .ok (.iastore, 1) := by decide +kernel
theorem dX10_looksOut_83 : decode cX10_looksOut 83 = .ok (.aload 5, 2) := by decide +kernel
theorem dX10_looksOut_85 : decode cX10_looksOut 85 = .ok (.iconst 2, 1) := by decide +kernel
theorem dX10_looksOut_86 : decode cX10_looksOut 86 = .ok (.aload_n 0, 1) := by decide +kernel
theorem dX10_looksOut_87 : decode cX10_looksOut 87 = .ok (.getfield 99, 3) := by decide +kernel
theorem dX10_looksOut_90 : decode cX10_looksOut 90 = .ok (.iload_n 1, 1) := by decide +kernel
theorem dX10_looksOut_91 : decode cX10_looksOut 91 = .ok (.iaload, 1) := by decide +kernel
theorem dX10_looksOut_92 : decode cX10_looksOut 92 = .ok (.iastore, 1) := by decide +kernel
theorem dX10_looksOut_93 : decode cX10_looksOut 93 = .ok (.aload 5, 2) := by decide +kernel
theorem dX10_looksOut_95 : decode cX10_looksOut 95 = .ok (.iconst 3, 1) := by decide +kernel
theorem dX10_looksOut_96 : decode cX10_looksOut 96 = .ok (.iload 8, 2) := by decide +kernel
theorem dX10_looksOut_98 : decode cX10_looksOut 98 = .ok (.iastore, 1) := by decide +kernel
theorem dX10_looksOut_99 : decode cX10_looksOut 99 = .ok (.aload 5, 2) := by decide +kernel
theorem dX10_looksOut_101 : decode cX10_looksOut 101 = .ok (.iconst 4, 1) := by decide +kernel
theorem dX10_looksOut_102 : decode cX10_looksOut 102 = .ok (.iload 8, 2) := by decide +kernel
theorem dX10_looksOut_104 : decode cX10_looksOut 104 = .ok (.iload 9, 2) := by decide +kernel
theorem dX10_looksOut_106 : decode cX10_looksOut 106 = .ok (.if_icmp .ge 7, 3) := by decide +kernel
theorem dX10_looksOut_109 : decode cX10_looksOut 109 = .ok (.iconst 1, 1) := by decide +kernel
theorem dX10_looksOut_110 : decode cX10_looksOut 110 = .ok (.goto 4, 3) := by decide +kernel
theorem dX10_looksOut_113 : decode cX10_looksOut 113 = .ok (.iconst 0, 1) := by decide +kernel
theorem dX10_looksOut_114 : decode cX10_looksOut 114 = .ok (.iastore, 1) := by decide +kernel
theorem dX10_looksOut_115 : decode cX10_looksOut 115 = .ok (.aload 5, 2) := by decide +kernel
theorem dX10_looksOut_117 : decode cX10_looksOut 117 = .ok (.iconst 5, 1) := by decide +kernel
theorem dX10_looksOut_118 : decode cX10_looksOut 118 = .ok (.iload_n 3, 1) := by decide +kernel
theorem dX10_looksOut_119 : decode cX10_looksOut 119 = .ok (.ifCond .eq 7, 3) := by decide +kernel
theorem dX10_looksOut_122 : decode cX10_looksOut 122 = .ok (.iconst 1, 1) := by decide +kernel
theorem dX10_looksOut_123 : decode cX10_looksOut 123 = .ok (.goto 4, 3) := by decide +kernel
theorem dX10_looksOut_126 : decode cX10_looksOut 126 = .ok (.iconst 0, 1) := by decide +kernel
theorem dX10_looksOut_127 : decode cX10_looksOut 127 = .ok (.iastore, 1) := by decide +kernel
theorem dX10_looksOut_128 : decode cX10_looksOut 128 = .ok (.iconst 0, 1) := by decide +kernel
theorem dX10_looksOut_129 : decode cX10_looksOut 129 = .ok (.istore 10, 2) := by decide +kernel
theorem dX10_looksOut_131 : decode cX10_looksOut 131 = .ok (.iload 10, 2) := by decide +kernel
theorem dX10_looksOut_133 : decode cX10_looksOut 133 = .ok (.aload_n 0, 1) := by decide +kernel
theorem dX10_looksOut_134 : decode cX10_looksOut 134 = .ok (.getfield 23, 3) := by decide +kernel
theorem dX10_looksOut_137 : decode cX10_looksOut 137 = .ok (.iconst 2, 1) := by decide +kernel
theorem dX10_looksOut_138 : decode cX10_looksOut 138 = .ok (.iaload, 1) := by decide +kernel
theorem dX10_looksOut_139 : decode cX10_looksOut 139 = .ok (.if_icmp .ge 116, 3) := by decide +kernel
theorem dX10_looksOut_142 : decode cX10_looksOut 142 = .ok (.aload_n 0, 1) := by decide +kernel
theorem dX10_looksOut_143 : decode cX10_looksOut 143 = .ok (.getfield 41, 3) := by decide +kernel
theorem dX10_looksOut_146 : decode cX10_looksOut 146 = .ok (.iconst 4, 1) := by decide +kernel
theorem dX10_looksOut_147 : decode cX10_looksOut 147 = .ok (.iconst 2, 1) := by decide +kernel
theorem dX10_looksOut_148 : decode cX10_looksOut 148 = .ok (.iload 10, 2) := by decide +kernel
theorem dX10_looksOut_150 : decode cX10_looksOut 150 = .ok (.imul, 1) := by decide +kernel
theorem dX10_looksOut_151 : decode cX10_looksOut 151 = .ok (.iadd, 1) := by decide +kernel
theorem dX10_looksOut_152 : decode cX10_looksOut 152 = .ok (.iaload, 1) := by decide +kernel
theorem dX10_looksOut_153 : decode cX10_looksOut 153 = .ok (.iload 6, 2) := by decide +kernel
theorem dX10_looksOut_155 : decode cX10_looksOut 155 = .ok (.isub, 1) := by decide +kernel
theorem dX10_looksOut_156 : decode cX10_looksOut 156 = .ok (.iload 7, 2) := by decide +kernel
theorem dX10_looksOut_158 : decode cX10_looksOut 158 = .ok (.imul, 1) := by decide +kernel
theorem dX10_looksOut_159 : decode cX10_looksOut 159 = .ok (.istore 11, 2) := by decide +kernel
theorem dX10_looksOut_161 : decode cX10_looksOut 161 = .ok (.iload 8, 2) := by decide +kernel
theorem dX10_looksOut_163 : decode cX10_looksOut 163 = .ok (.ifCond .eq 86, 3) := by decide +kernel
theorem dX10_looksOut_166 : decode cX10_looksOut 166 = .ok (.iload 11, 2) := by decide +kernel
theorem dX10_looksOut_168 : decode cX10_looksOut 168 = .ok (.ifCond .lt 81, 3) := by decide +kernel
theorem dX10_looksOut_171 : decode cX10_looksOut 171 = .ok (.iload 11, 2) := by decide +kernel
theorem dX10_looksOut_173 : decode cX10_looksOut 173 = .ok (.iload 8, 2) := by decide +kernel
theorem dX10_looksOut_175 : decode cX10_looksOut 175 = .ok (.aload_n 0, 1) := by decide +kernel
theorem dX10_looksOut_176 : decode cX10_looksOut 176 = .ok (.getfield 41, 3) := by decide +kernel
theorem dX10_looksOut_179 : decode cX10_looksOut 179 = .ok (.iconst 4, 1) := by decide +kernel
theorem dX10_looksOut_180 : decode cX10_looksOut 180 = .ok (.iconst 2, 1) := by decide +kernel
theorem dX10_looksOut_181 : decode cX10_looksOut 181 = .ok (.iload 10, 2) := by decide +kernel
theorem dX10_looksOut_183 : decode cX10_looksOut 183 = .ok (.imul, 1) := by decide +kernel
theorem dX10_looksOut_184 : decode cX10_looksOut 184 = .ok (.iadd, 1) := by decide +kernel
theorem dX10_looksOut_185 : decode cX10_looksOut 185 = .ok (.iconst 1, 1) := by decide +kernel
theorem dX10_looksOut_186 : decode cX10_looksOut 186 = .ok (.iadd, 1) := by decide +kernel
theorem dX10_looksOut_187 : decode cX10_looksOut 187 = .ok (.iaload, 1) := by decide +kernel
theorem dX10_looksOut_188 : decode cX10_looksOut 188 = .ok (.iadd, 1) := by decide +kernel
theorem dX10_looksOut_189 : decode cX10_looksOut 189 = .ok (.if_icmp .gt 60, 3) := by decide +kernel
theorem dX10_looksOut_192 : decode cX10_looksOut 192 = .ok (.aload_n 0, 1) := by decide +kernel
theorem dX10_looksOut_193 : decode cX10_looksOut 193 = .ok (.iload 6, 2) := by decide +kernel
theorem dX10_looksOut_195 : decode cX10_looksOut 195 = .ok (.aload_n 0, 1) := by decide +kernel
theorem dX10_looksOut_196 : decode cX10_looksOut 196 = .ok (.getfield 41, 3) := by decide +kernel
theorem dX10_looksOut_199 : decode cX10_looksOut 199 = .ok (.iconst 4, 1) := by decide +kernel
theorem dX10_looksOut_200 : decode cX10_looksOut 200 = .ok (.iconst 2, 1) := by decide +kernel
theorem dX10_looksOut_201 : decode cX10_looksOut 201 = .ok (.iload 10, 2) := by decide +kernel
theorem dX10_looksOut_203 : decode cX10_looksOut 203 = .ok (.imul, 1) := by decide +kernel
theorem dX10_looksOut_204 : decode cX10_looksOut 204 = .ok (.iadd, 1) := by decide +kernel
theorem dX10_looksOut_205 : decode cX10_looksOut 205 = .ok (.iaload, 1) := by decide +kernel
theorem dX10_looksOut_206 : decode cX10_looksOut 206 = .ok (.invokevirtual 307, 3) := by decide +kernel
theorem dX10_looksOut_209 : decode cX10_looksOut 209 = .ok (.ifCond .ne 40, 3) := by decide +kernel
theorem dX10_looksOut_212 : decode cX10_looksOut 212 = .ok (.aload_n 0, 1) := by decide +kernel
theorem dX10_looksOut_213 : decode cX10_looksOut 213 = .ok (.getfield 84, 3) := by decide +kernel
theorem dX10_looksOut_216 : decode cX10_looksOut 216 = .ok (.iload_n 1, 1) := by decide +kernel
theorem dX10_looksOut_217 : decode cX10_looksOut 217 = .ok (.aaload, 1) := by decide +kernel
theorem dX10_looksOut_218 : decode cX10_looksOut 218 = .ok (.iload 10, 2) := by decide +kernel
theorem dX10_looksOut_220 : decode cX10_looksOut 220 = .ok (.iaload, 1) := by decide +kernel
theorem dX10_looksOut_221 : decode cX10_looksOut 221 = .ok (.iconst (-1), 1) := by decide +kernel
theorem dX10_looksOut_222 : decode cX10_looksOut 222 = .ok (.if_icmp .eq 6, 3) := by decide +kernel
theorem dX10_looksOut_225 : decode cX10_looksOut 225 = .ok (.goto 24, 3) := by decide +kernel
theorem dX10_looksOut_228 : decode cX10_looksOut 228 = .ok (.aload_n 0, 1) := by decide +kernel
theorem dX10_looksOut_229 : decode cX10_looksOut 229 = .ok (.getfield 84, 3) := by decide +kernel
theorem dX10_looksOut_232 : decode cX10_looksOut 232 = .ok (.iload_n 1, 1) := by decide +kernel
theorem dX10_looksOut_233 : decode cX10_looksOut 233 = .ok (.aaload, 1) := by decide +kernel
theorem dX10_looksOut_234 : decode cX10_looksOut 234 = .ok (.iload 10, 2) := by decide +kernel
theorem dX10_looksOut_236 : decode cX10_looksOut 236 = .ok (.iload 11, 2) := by decide +kernel
theorem dX10_looksOut_238 : decode cX10_looksOut 238 = .ok (.iastore, 1) := by decide +kernel
theorem dX10_looksOut_239 : decode cX10_looksOut 239 = .ok (.aload_n 0, 1) := by decide +kernel
theorem dX10_looksOut_240 : decode cX10_looksOut 240 = .ok (.getfield 87, 3) := by decide +kernel
theorem dX10_looksOut_243 : decode cX10_looksOut 243 = .ok (.iload_n 1, 1) := by decide +kernel
theorem dX10_looksOut_244 : decode cX10_looksOut 244 = .ok (.aaload, 1) := by decide +kernel
theorem dX10_looksOut_245 : decode cX10_looksOut 245 = .ok (.iload 10, 2) := by decide +kernel
theorem dX10_looksOut_247 : decode cX10_looksOut 247 = .ok (.iload_n 2, 1) := by decide +kernel
theorem dX10_looksOut_248 : decode cX10_looksOut 248 = .ok (.iastore, 1) := by decide +kernel
theorem dX10_looksOut_249 : decode cX10_looksOut 249 = .ok (.iinc 10 1, 3) := by decide +kernel
theorem dX10_looksOut_252 : decode cX10_looksOut 252 = .ok (.goto (-121), 3) := by decide +kernel
theorem dX10_looksOut_255 : decode cX10_looksOut 255 = .ok (.iconst 0, 1) := by decide +kernel
theorem dX10_looksOut_256 : decode cX10_looksOut 256 = .ok (.istore 10, 2) := by decide +kernel
theorem dX10_looksOut_258 : decode cX10_looksOut 258 = .ok (.iload 10, 2) := by decide +kernel
theorem dX10_looksOut_260 : decode cX10_looksOut 260 = .ok (.aload_n 0, 1) := by decide +kernel
theorem dX10_looksOut_261 : decode cX10_looksOut 261 = .ok (.getfield 23, 3) := by decide +kernel
theorem dX10_looksOut_264 : decode cX10_looksOut 264 = .ok (.iconst 2, 1) := by decide +kernel
theorem dX10_looksOut_265 : decode cX10_looksOut 265 = .ok (.iaload, 1) := by decide +kernel
theorem dX10_looksOut_266 : decode cX10_looksOut 266 = .ok (.if_icmp .ge 103, 3) := by decide +kernel
theorem dX10_looksOut_269 : decode cX10_looksOut 269 = .ok (.aload_n 0, 1) := by decide +kernel
theorem dX10_looksOut_270 : decode cX10_looksOut 270 = .ok (.getfield 41, 3) := by decide +kernel
theorem dX10_looksOut_273 : decode cX10_looksOut 273 = .ok (.iconst 4, 1) := by decide +kernel
theorem dX10_looksOut_274 : decode cX10_looksOut 274 = .ok (.iconst 2, 1) := by decide +kernel
theorem dX10_looksOut_275 : decode cX10_looksOut 275 = .ok (.iload 10, 2) := by decide +kernel
theorem dX10_looksOut_277 : decode cX10_looksOut 277 = .ok (.imul, 1) := by decide +kernel
theorem dX10_looksOut_278 : decode cX10_looksOut 278 = .ok (.iadd, 1) := by decide +kernel
theorem dX10_looksOut_279 : decode cX10_looksOut 279 = .ok (.iaload, 1) := by decide +kernel
theorem dX10_looksOut_280 : decode cX10_looksOut 280 = .ok (.iload 6, 2) := by decide +kernel
theorem dX10_looksOut_282 : decode cX10_looksOut 282 = .ok (.isub, 1) := by decide +kernel
theorem dX10_looksOut_283 : decode cX10_looksOut 283 = .ok (.iload 7, 2) := by decide +kernel
theorem dX10_looksOut_285 : decode cX10_looksOut 285 = .ok (.imul, 1) := by decide +kernel
theorem dX10_looksOut_286 : decode cX10_looksOut 286 = .ok (.istore 11, 2) := by decide +kernel
theorem dX10_looksOut_288 : decode cX10_looksOut 288 = .ok (.iload 11, 2) := by decide +kernel
theorem dX10_looksOut_290 : decode cX10_looksOut 290 = .ok (.iconst 1, 1) := by decide +kernel
theorem dX10_looksOut_291 : decode cX10_looksOut 291 = .ok (.aload_n 0, 1) := by decide +kernel
theorem dX10_looksOut_292 : decode cX10_looksOut 292 = .ok (.iload_n 1, 1) := by decide +kernel
theorem dX10_looksOut_293 : decode cX10_looksOut 293 = .ok (.invokevirtual 282, 3) := by decide +kernel
theorem dX10_looksOut_296 : decode cX10_looksOut 296 = .ok (.invokestatic 167, 3) := by decide +kernel
theorem dX10_looksOut_299 : decode cX10_looksOut 299 = .ok (.ifCond .ne 12, 3) := by decide +kernel
theorem dX10_looksOut_302 : decode cX10_looksOut 302 = .ok (.iload 11, 2) := by decide +kernel
theorem dX10_looksOut_304 : decode cX10_looksOut 304 = .ok (.ifCond .ne 11, 3) := by decide +kernel
theorem dX10_looksOut_307 : decode cX10_looksOut 307 = .ok (.iload_n 2, 1) := by decide +kernel
theorem dX10_looksOut_308 : decode cX10_looksOut 308 = .ok (.ifCond .ne 7, 3) := by decide +kernel
theorem dX10_looksOut_311 : decode cX10_looksOut 311 = .ok (.iconst 1, 1) := by decide +kernel
theorem dX10_looksOut_312 : decode cX10_looksOut 312 = .ok (.goto 4, 3) := by decide +kernel
theorem dX10_looksOut_315 : decode cX10_looksOut 315 = .ok (.iconst 0, 1) := by decide +kernel
theorem dX10_looksOut_316 : decode cX10_looksOut 316 = .ok (.istore 12, 2) := by decide +kernel
theorem dX10_looksOut_318 : decode cX10_looksOut 318 = .ok (.iload 12, 2) := by decide +kernel
theorem dX10_looksOut_320 : decode cX10_looksOut 320 = .ok (.ifCond .eq 43, 3) := by decide +kernel
theorem dX10_looksOut_323 : decode cX10_looksOut 323 = .ok (.aload_n 0, 1) := by decide +kernel
theorem dX10_looksOut_324 : decode cX10_looksOut 324 = .ok (.getfield 84, 3) := by decide +kernel
theorem dX10_looksOut_327 : decode cX10_looksOut 327 = .ok (.iload_n 1, 1) := by decide +kernel
theorem dX10_looksOut_328 : decode cX10_looksOut 328 = .ok (.aaload, 1) := by decide +kernel
theorem dX10_looksOut_329 : decode cX10_looksOut 329 = .ok (.iload 10, 2) := by decide +kernel
theorem dX10_looksOut_331 : decode cX10_looksOut 331 = .ok (.iaload, 1) := by decide +kernel
theorem dX10_looksOut_332 : decode cX10_looksOut 332 = .ok (.iconst (-1), 1) := by decide +kernel
theorem dX10_looksOut_333 : decode cX10_looksOut 333 = .ok (.if_icmp .eq 17, 3) := by decide +kernel
theorem dX10_looksOut_336 : decode cX10_looksOut 336 = .ok (.aload_n 0, 1) := by decide +kernel
theorem dX10_looksOut_337 : decode cX10_looksOut 337 = .ok (.getfield 84, 3) := by decide +kernel
theorem dX10_looksOut_340 : decode cX10_looksOut 340 = .ok (.iload_n 1, 1) := by decide +kernel
theorem dX10_looksOut_341 : decode cX10_looksOut 341 = .ok (.aaload, 1) := by decide +kernel
theorem dX10_looksOut_342 : decode cX10_looksOut 342 = .ok (.iload 10, 2) := by decide +kernel
theorem dX10_looksOut_344 : decode cX10_looksOut 344 = .ok (.iaload, 1) := by decide +kernel
theorem dX10_looksOut_345 : decode cX10_looksOut 345 = .ok (.iload 9, 2) := by decide +kernel
theorem dX10_looksOut_347 : decode cX10_looksOut 347 = .ok (.if_icmp .ge 16, 3) := by decide +kernel
theorem dX10_looksOut_350 : decode cX10_looksOut 350 = .ok (.aload_n 0, 1) := by decide +kernel
theorem dX10_looksOut_351 : decode cX10_looksOut 351 = .ok (.getfield 90, 3) := by decide +kernel
theorem dX10_looksOut_354 : decode cX10_looksOut 354 = .ok (.iload_n 1, 1) := by decide +kernel
theorem dX10_looksOut_355 : decode cX10_looksOut 355 = .ok (.dup2, 1) := by decide +kernel
theorem dX10_looksOut_356 : decode cX10_looksOut 356 = .ok (.iaload, 1) := by decide +kernel
theorem dX10_looksOut_357 : decode cX10_looksOut 357 = .ok (.iconst 1, 1) := by decide +kernel
theorem dX10_looksOut_358 : decode cX10_looksOut 358 = .ok (.iload 10, 2) := by decide +kernel
theorem dX10_looksOut_360 : decode cX10_looksOut 360 = .ok (.ishl, 1) := by decide +kernel
theorem dX10_looksOut_361 : decode cX10_looksOut 361 = .ok (.ior, 1) := by decide +kernel
theorem dX10_looksOut_362 : decode cX10_looksOut 362 = .ok (.iastore, 1) := by decide +kernel
theorem dX10_looksOut_363 : decode cX10_looksOut 363 = .ok (.iinc 10 1, 3) := by decide +kernel
theorem dX10_looksOut_366 : decode cX10_looksOut 366 = .ok (.goto (-108), 3) := by decide +kernel
theorem dX10_looksOut_369 : decode cX10_looksOut 369 = .ok (.return_, 1) := by decide +kernel
theorem dX10_leaves_0 : decode cX10_leaves 0 = .ok (.iconst 0, 1) := by decide +kernel
theorem dX10_leaves_1 : decode cX10_leaves 1 = .ok (.istore_n 1, 1) := by decide +kernel
theorem dX10_leaves_2 : decode cX10_leaves 2 = .ok (.iload_n 1, 1) := by decide +kernel
theorem dX10_leaves_3 : decode cX10_leaves 3 = .ok (.aload_n 0, 1) := by decide +kernel
theorem dX10_leaves_4 : decode cX10_leaves 4 = .ok (.getfield 23, 3) := by decide +kernel
theorem dX10_leaves_7 : decode cX10_leaves 7 = .ok (.iconst 1, 1) := by decide +kernel
theorem dX10_leaves_8 : decode cX10_leaves 8 = .ok (.iaload, 1) := by decide +kernel
theorem dX10_leaves_9 : decode cX10_leaves 9 = .ok (.if_icmp .ge 41, 3) := by decide +kernel
theorem dX10_leaves_12 : decode cX10_leaves 12 = .ok (.aload_n 0, 1) := by decide +kernel
theorem dX10_leaves_13 : decode cX10_leaves 13 = .ok (.iload_n 1, 1) := by decide +kernel
theorem dX10_leaves_14 : decode cX10_leaves 14 = .ok (.invokevirtual 300, 3) := by decide +kernel
theorem dX10_leaves_17 : decode cX10_leaves 17 = .ok (.ifCond .eq 27, 3) := by decide +kernel
theorem dX10_leaves_20 : decode cX10_leaves 20 = .ok (.aload_n 0, 1) := by decide +kernel
theorem dX10_leaves_21 : decode cX10_leaves 21 = .ok (.getfield 96, 3) := by decide +kernel
theorem dX10_leaves_24 : decode cX10_leaves 24 = .ok (.iload_n 1, 1) := by decide +kernel
theorem dX10_leaves_25 : decode cX10_leaves 25 = .ok (.dup2, 1) := by decide +kernel
theorem dX10_leaves_26 : decode cX10_leaves 26 = .ok (.iaload, 1) := by decide +kernel
theorem dX10_leaves_27 : decode cX10_leaves 27 = .ok (.iload_n 1, 1) := by decide +kernel
theorem dX10_leaves_28 : decode cX10_leaves 28 = .ok (.ifCond .ne 7, 3) := by decide +kernel
theorem dX10_leaves_31 : decode cX10_leaves 31 = .ok (.iconst 1, 1) := by decide +kernel
theorem dX10_leaves_32 : decode cX10_leaves 32 = .ok (.goto 4, 3) := by decide +kernel
theorem dX10_leaves_35 : decode cX10_leaves 35 = .ok (.iconst (-1), 1) := by decide +kernel
theorem dX10_leaves_36 : decode cX10_leaves 36 = .ok (.aload_n 0, 1) := by decide +kernel
theorem dX10_leaves_37 : decode cX10_leaves 37 = .ok (.iload_n 1, 1) := by decide +kernel
theorem dX10_leaves_38 : decode cX10_leaves 38 = .ok (.invokevirtual 282, 3) := by decide +kernel
theorem dX10_leaves_41 : decode cX10_leaves 41 = .ok (.imul, 1) := by decide +kernel
theorem dX10_leaves_42 : decode cX10_leaves 42 = .ok (.iadd, 1) := by decide +kernel
theorem dX10_leaves_43 : decode cX10_leaves 43 = .ok (.iastore, 1) := by decide +kernel
theorem dX10_leaves_44 : decode cX10_leaves 44 = .ok (.iinc 1 1, 3) := by decide +kernel
theorem dX10_leaves_47 : decode cX10_leaves 47 = .ok (.goto (-45), 3) := by decide +kernel
theorem dX10_leaves_50 : decode cX10_leaves 50 = .ok (.return_, 1) := by decide +kernel
theorem dX10_asTold_0 : decode cX10_asTold 0 = .ok (.aload_n 0, 1) := by decide +kernel
theorem dX10_asTold_1 : decode cX10_asTold 1 = .ok (.iconst (-1), 1) := by decide +kernel
theorem dX10_asTold_2 : decode cX10_asTold 2 = .ok (.iconst (-1), 1) := by decide +kernel
theorem dX10_asTold_3 : decode cX10_asTold 3 = .ok (.invokevirtual 334, 3) := by decide +kernel
theorem dX10_asTold_6 : decode cX10_asTold 6 = .ok (.return_, 1) := by decide +kernel
theorem dX10_ones_0 : decode cX10_ones 0 = .ok (.iconst 0, 1) := by decide +kernel
theorem dX10_ones_1 : decode cX10_ones 1 = .ok (.istore_n 1, 1) := by decide +kernel
theorem dX10_ones_2 : decode cX10_ones 2 = .ok (.iconst 0, 1) := by decide +kernel
theorem dX10_ones_3 : decode cX10_ones 3 = .ok (.istore_n 2, 1) := by decide +kernel
theorem dX10_ones_4 : decode cX10_ones 4 = .ok (.iload_n 2, 1) := by decide +kernel
theorem dX10_ones_5 : decode cX10_ones 5 = .ok (.bipush 10, 2) := by decide +kernel
theorem dX10_ones_7 : decode cX10_ones 7 = .ok (.if_icmp .ge 17, 3) := by decide +kernel
theorem dX10_ones_10 : decode cX10_ones 10 = .ok (.iload_n 1, 1) := by decide +kernel
theorem dX10_ones_11 : decode cX10_ones 11 = .ok (.iload_n 0, 1) := by decide +kernel
theorem dX10_ones_12 : decode cX10_ones 12 = .ok (.iload_n 2, 1) := by decide +kernel
theorem dX10_ones_13 : decode cX10_ones 13 = .ok (.ishr, 1) := by decide +kernel
theorem dX10_ones_14 : decode cX10_ones 14 = .ok (.iconst 1, 1) := by decide +kernel
theorem dX10_ones_15 : decode cX10_ones 15 = .ok (.iand, 1) := by decide +kernel
theorem dX10_ones_16 : decode cX10_ones 16 = .ok (.iadd, 1) := by decide +kernel
theorem dX10_ones_17 : decode cX10_ones 17 = .ok (.istore_n 1, 1) := by decide +kernel
theorem dX10_ones_18 : decode cX10_ones 18 = .ok (.iinc 2 1, 3) := by decide +kernel
theorem dX10_ones_21 : decode cX10_ones 21 = .ok (.goto (-17), 3) := by decide +kernel
theorem dX10_ones_24 : decode cX10_ones 24 = .ok (.iload_n 1, 1) := by decide +kernel
theorem dX10_ones_25 : decode cX10_ones 25 = .ok (.ireturn, 1) := by decide +kernel
theorem dX10_unsafeOf_0 : decode cX10_unsafeOf 0 = .ok (.iconst 0, 1) := by decide +kernel
theorem dX10_unsafeOf_1 : decode cX10_unsafeOf 1 = .ok (.istore_n 2, 1) := by decide +kernel
theorem dX10_unsafeOf_2 : decode cX10_unsafeOf 2 = .ok (.iconst 0, 1) := by decide +kernel
theorem dX10_unsafeOf_3 : decode cX10_unsafeOf 3 = .ok (.istore_n 3, 1) := by decide +kernel
theorem dX10_unsafeOf_4 : decode cX10_unsafeOf 4 = .ok (.iload_n 3, 1) := by decide +kernel
theorem dX10_unsafeOf_5 : decode cX10_unsafeOf 5 = .ok (.aload_n 0, 1) := by decide +kernel
theorem dX10_unsafeOf_6 : decode cX10_unsafeOf 6 = .ok (.getfield 294, 3) := by decide +kernel
theorem dX10_unsafeOf_9 : decode cX10_unsafeOf 9 = .ok (.if_icmp .ge 45, 3) := by decide +kernel
theorem dX10_unsafeOf_12 : decode cX10_unsafeOf 12 = .ok (.iload_n 2, 1) := by decide +kernel
theorem dX10_unsafeOf_13 : decode cX10_unsafeOf 13 = .ok (.aload_n 0, 1) := by decide +kernel
theorem dX10_unsafeOf_14 : decode cX10_unsafeOf 14 = .ok (.getfield 81, 3) := by decide +kernel
theorem dX10_unsafeOf_17 : decode cX10_unsafeOf 17 = .ok (.iload_n 1, 1) := by decide +kernel
theorem dX10_unsafeOf_18 : decode cX10_unsafeOf 18 = .ok (.aaload, 1) := by decide +kernel
theorem dX10_unsafeOf_19 : decode cX10_unsafeOf 19 = .ok (.iload_n 3, 1) := by decide +kernel
theorem dX10_unsafeOf_20 : decode cX10_unsafeOf 20 = .ok (.aaload, 1) := by decide +kernel
theorem dX10_unsafeOf_21 : decode cX10_unsafeOf 21 = .ok (.iconst 0, 1) := by decide +kernel
theorem dX10_unsafeOf_22 : decode cX10_unsafeOf 22 = .ok (.iaload, 1) := by decide +kernel
theorem dX10_unsafeOf_23 : decode cX10_unsafeOf 23 = .ok (.iconst (-1), 1) := by decide +kernel
theorem dX10_unsafeOf_24 : decode cX10_unsafeOf 24 = .ok (.if_icmp .eq 21, 3) := by decide +kernel
theorem dX10_unsafeOf_27 : decode cX10_unsafeOf 27 = .ok (.aload_n 0, 1) := by decide +kernel
theorem dX10_unsafeOf_28 : decode cX10_unsafeOf 28 = .ok (.getfield 81, 3) := by decide +kernel
theorem dX10_unsafeOf_31 : decode cX10_unsafeOf 31 = .ok (.iload_n 1, 1) := by decide +kernel
theorem dX10_unsafeOf_32 : decode cX10_unsafeOf 32 = .ok (.aaload, 1) := by decide +kernel
theorem dX10_unsafeOf_33 : decode cX10_unsafeOf 33 = .ok (.iload_n 3, 1) := by decide +kernel
theorem dX10_unsafeOf_34 : decode cX10_unsafeOf 34 = .ok (.aaload, 1) := by decide +kernel
theorem dX10_unsafeOf_35 : decode cX10_unsafeOf 35 = .ok (.iconst 4, 1) := by decide +kernel
theorem dX10_unsafeOf_36 : decode cX10_unsafeOf 36 = .ok (.iaload, 1) := by decide +kernel
theorem dX10_unsafeOf_37 : decode cX10_unsafeOf 37 = .ok (.iconst 1, 1) := by decide +kernel
theorem dX10_unsafeOf_38 : decode cX10_unsafeOf 38 = .ok (.if_icmp .ne 7, 3) := by decide +kernel
theorem dX10_unsafeOf_41 : decode cX10_unsafeOf 41 = .ok (.iconst 1, 1) := by decide +kernel
theorem dX10_unsafeOf_42 : decode cX10_unsafeOf 42 = .ok (.goto 4, 3) := by decide +kernel
theorem dX10_unsafeOf_45 : decode cX10_unsafeOf 45 = .ok (.iconst 0, 1) := by decide +kernel
theorem dX10_unsafeOf_46 : decode cX10_unsafeOf 46 = .ok (.iadd, 1) := by decide +kernel
theorem dX10_unsafeOf_47 : decode cX10_unsafeOf 47 = .ok (.istore_n 2, 1) := by decide +kernel
theorem dX10_unsafeOf_48 : decode cX10_unsafeOf 48 = .ok (.iinc 3 1, 3) := by decide +kernel
theorem dX10_unsafeOf_51 : decode cX10_unsafeOf 51 = .ok (.goto (-47), 3) := by decide +kernel
theorem dX10_unsafeOf_54 : decode cX10_unsafeOf 54 = .ok (.iload_n 2, 1) := by decide +kernel
theorem dX10_unsafeOf_55 : decode cX10_unsafeOf 55 = .ok (.ireturn, 1) := by decide +kernel
theorem dX10_costOf_0 : decode cX10_costOf 0 = .ok (.bipush 10, 2) := by decide +kernel
theorem dX10_costOf_2 : decode cX10_costOf 2 = .ok (.aload_n 0, 1) := by decide +kernel
theorem dX10_costOf_3 : decode cX10_costOf 3 = .ok (.getfield 90, 3) := by decide +kernel
theorem dX10_costOf_6 : decode cX10_costOf 6 = .ok (.iload_n 1, 1) := by decide +kernel
theorem dX10_costOf_7 : decode cX10_costOf 7 = .ok (.iaload, 1) := by decide +kernel
theorem dX10_costOf_8 : decode cX10_costOf 8 = .ok (.invokestatic 337, 3) := by decide +kernel
theorem dX10_costOf_11 : decode cX10_costOf 11 = .ok (.imul, 1) := by decide +kernel
theorem dX10_costOf_12 : decode cX10_costOf 12 = .ok (.aload_n 0, 1) := by decide +kernel
theorem dX10_costOf_13 : decode cX10_costOf 13 = .ok (.iload_n 1, 1) := by decide +kernel
theorem dX10_costOf_14 : decode cX10_costOf 14 = .ok (.invokevirtual 340, 3) := by decide +kernel
theorem dX10_costOf_17 : decode cX10_costOf 17 = .ok (.iadd, 1) := by decide +kernel
theorem dX10_costOf_18 : decode cX10_costOf 18 = .ok (.ireturn, 1) := by decide +kernel
theorem dX10_told_0 : decode cX10_told 0 = .ok (.aload_n 0, 1) := by decide +kernel
theorem dX10_told_1 : decode cX10_told 1 = .ok (.iconst 0, 1) := by decide +kernel
theorem dX10_told_2 : decode cX10_told 2 = .ok (.putfield 133, 3) := by decide +kernel
theorem dX10_told_5 : decode cX10_told 5 = .ok (.aload_n 0, 1) := by decide +kernel
theorem dX10_told_6 : decode cX10_told 6 = .ok (.iload_n 1, 1) := by decide +kernel
theorem dX10_told_7 : decode cX10_told 7 = .ok (.iconst 0, 1) := by decide +kernel
theorem dX10_told_8 : decode cX10_told 8 = .ok (.bipush 9, 2) := by decide +kernel
theorem dX10_told_10 : decode cX10_told 10 = .ok (.invokestatic 167, 3) := by decide +kernel
theorem dX10_told_13 : decode cX10_told 13 = .ok (.ifCond .ne 7, 3) := by decide +kernel
theorem dX10_told_16 : decode cX10_told 16 = .ok (.iconst 1, 1) := by decide +kernel
theorem dX10_told_17 : decode cX10_told 17 = .ok (.goto 4, 3) := by decide +kernel
theorem dX10_told_20 : decode cX10_told 20 = .ok (.iconst 0, 1) := by decide +kernel
theorem dX10_told_21 : decode cX10_told 21 = .ok (.iconst 1, 1) := by decide +kernel
theorem dX10_told_22 : decode cX10_told 22 = .ok (.iconst 1, 1) := by decide +kernel
theorem dX10_told_23 : decode cX10_told 23 = .ok (.invokevirtual 212, 3) := by decide +kernel
theorem dX10_told_26 : decode cX10_told 26 = .ok (.ifCond .eq 5, 3) := by decide +kernel
theorem dX10_told_29 : decode cX10_told 29 = .ok (.iconst 0, 1) := by decide +kernel
theorem dX10_told_30 : decode cX10_told 30 = .ok (.ireturn, 1) := by decide +kernel
theorem dX10_told_31 : decode cX10_told 31 = .ok (.iload_n 1, 1) := by decide +kernel
theorem dX10_told_32 : decode cX10_told 32 = .ok (.tableswitch 135 0 7 #[48, 48, 48, 55, 55, 114, 122, 130], 48) := by decide +kernel
theorem dX10_told_80 : decode cX10_told 80 = .ok (.aload_n 0, 1) := by decide +kernel
theorem dX10_told_81 : decode cX10_told 81 = .ok (.getfield 23, 3) := by decide +kernel
theorem dX10_told_84 : decode cX10_told 84 = .ok (.iload_n 1, 1) := by decide +kernel
theorem dX10_told_85 : decode cX10_told 85 = .ok (.iaload, 1) := by decide +kernel
theorem dX10_told_86 : decode cX10_told 86 = .ok (.ireturn, 1) := by decide +kernel
theorem dX10_told_87 : decode cX10_told 87 = .ok (.iconst 0, 1) := by decide +kernel
theorem dX10_told_88 : decode cX10_told 88 = .ok (.istore_n 2, 1) := by decide +kernel
theorem dX10_told_89 : decode cX10_told 89 = .ok (.iconst 0, 1) := by decide +kernel
theorem dX10_told_90 : decode cX10_told 90 = .ok (.istore_n 3, 1) := by decide +kernel
theorem dX10_told_91 : decode cX10_told 91 = .ok (.iload_n 3, 1) := by decide +kernel
theorem dX10_told_92 : decode cX10_told 92 = .ok (.aload_n 0, 1) := by decide +kernel
theorem dX10_told_93 : decode cX10_told 93 = .ok (.getfield 23, 3) := by decide +kernel
theorem dX10_told_96 : decode cX10_told 96 = .ok (.iconst 0, 1) := by decide +kernel
theorem dX10_told_97 : decode cX10_told 97 = .ok (.iaload, 1) := by decide +kernel
theorem dX10_told_98 : decode cX10_told 98 = .ok (.if_icmp .ge 46, 3) := by decide +kernel
theorem dX10_told_101 : decode cX10_told 101 = .ok (.iload_n 2, 1) := by decide +kernel
theorem dX10_told_102 : decode cX10_told 102 = .ok (.iload_n 1, 1) := by decide +kernel
theorem dX10_told_103 : decode cX10_told 103 = .ok (.iconst 3, 1) := by decide +kernel
theorem dX10_told_104 : decode cX10_told 104 = .ok (.if_icmp .ne 19, 3) := by decide +kernel
theorem dX10_told_107 : decode cX10_told 107 = .ok (.aload_n 0, 1) := by decide +kernel
theorem dX10_told_108 : decode cX10_told 108 = .ok (.iload_n 3, 1) := by decide +kernel
theorem dX10_told_109 : decode cX10_told 109 = .ok (.iconst 1, 1) := by decide +kernel
theorem dX10_told_110 : decode cX10_told 110 = .ok (.isub, 1) := by decide +kernel
theorem dX10_told_111 : decode cX10_told 111 = .ok (.iload_n 3, 1) := by decide +kernel
theorem dX10_told_112 : decode cX10_told 112 = .ok (.iconst 1, 1) := by decide +kernel
theorem dX10_told_113 : decode cX10_told 113 = .ok (.iadd, 1) := by decide +kernel
theorem dX10_told_114 : decode cX10_told 114 = .ok (.invokevirtual 307, 3) := by decide +kernel
theorem dX10_told_117 : decode cX10_told 117 = .ok (.ifCond .eq 18, 3) := by decide +kernel
theorem dX10_told_120 : decode cX10_told 120 = .ok (.goto 11, 3) := by decide +kernel
theorem dX10_told_123 : decode cX10_told 123 = .ok (.aload_n 0, 1) := by decide +kernel
theorem dX10_told_124 : decode cX10_told 124 = .ok (.iload_n 3, 1) := by decide +kernel
theorem dX10_told_125 : decode cX10_told 125 = .ok (.invokevirtual 285, 3) := by decide +kernel
theorem dX10_told_128 : decode cX10_told 128 = .ok (.ifCond .eq 7, 3) := by decide +kernel
theorem dX10_told_131 : decode cX10_told 131 = .ok (.iconst 1, 1) := by decide +kernel
theorem dX10_told_132 : decode cX10_told 132 = .ok (.goto 4, 3) := by decide +kernel
theorem dX10_told_135 : decode cX10_told 135 = .ok (.iconst 0, 1) := by decide +kernel
theorem dX10_told_136 : decode cX10_told 136 = .ok (.iadd, 1) := by decide +kernel
theorem dX10_told_137 : decode cX10_told 137 = .ok (.istore_n 2, 1) := by decide +kernel
theorem dX10_told_138 : decode cX10_told 138 = .ok (.iinc 3 1, 3) := by decide +kernel
theorem dX10_told_141 : decode cX10_told 141 = .ok (.goto (-50), 3) := by decide +kernel
theorem dX10_told_144 : decode cX10_told 144 = .ok (.iload_n 2, 1) := by decide +kernel
theorem dX10_told_145 : decode cX10_told 145 = .ok (.ireturn, 1) := by decide +kernel
theorem dX10_told_146 : decode cX10_told 146 = .ok (.aload_n 0, 1) := by decide +kernel
theorem dX10_told_147 : decode cX10_told 147 = .ok (.getfield 41, 3) := by decide +kernel
theorem dX10_told_150 : decode cX10_told 150 = .ok (.bipush 24, 2) := by decide +kernel
theorem dX10_told_152 : decode cX10_told 152 = .ok (.iaload, 1) := by decide +kernel
theorem dX10_told_153 : decode cX10_told 153 = .ok (.ireturn, 1) := by decide +kernel
theorem dX10_told_154 : decode cX10_told 154 = .ok (.aload_n 0, 1) := by decide +kernel
theorem dX10_told_155 : decode cX10_told 155 = .ok (.getfield 41, 3) := by decide +kernel
theorem dX10_told_158 : decode cX10_told 158 = .ok (.bipush 25, 2) := by decide +kernel
theorem dX10_told_160 : decode cX10_told 160 = .ok (.iaload, 1) := by decide +kernel
theorem dX10_told_161 : decode cX10_told 161 = .ok (.ireturn, 1) := by decide +kernel
theorem dX10_told_162 : decode cX10_told 162 = .ok (.aload_n 0, 1) := by decide +kernel
theorem dX10_told_163 : decode cX10_told 163 = .ok (.getfield 229, 3) := by decide +kernel
theorem dX10_told_166 : decode cX10_told 166 = .ok (.ireturn, 1) := by decide +kernel
theorem dX10_told_167 : decode cX10_told 167 = .ok (.aload_n 0, 1) := by decide +kernel
theorem dX10_told_168 : decode cX10_told 168 = .ok (.getfield 23, 3) := by decide +kernel
theorem dX10_told_171 : decode cX10_told 171 = .ok (.iload_n 1, 1) := by decide +kernel
theorem dX10_told_172 : decode cX10_told 172 = .ok (.iconst 3, 1) := by decide +kernel
theorem dX10_told_173 : decode cX10_told 173 = .ok (.isub, 1) := by decide +kernel
theorem dX10_told_174 : decode cX10_told 174 = .ok (.iaload, 1) := by decide +kernel
theorem dX10_told_175 : decode cX10_told 175 = .ok (.ireturn, 1) := by decide +kernel
theorem dX10_isCar_0 : decode cX10_isCar 0 = .ok (.iload_n 1, 1) := by decide +kernel
theorem dX10_isCar_1 : decode cX10_isCar 1 = .ok (.iconst 0, 1) := by decide +kernel
theorem dX10_isCar_2 : decode cX10_isCar 2 = .ok (.aload_n 0, 1) := by decide +kernel
theorem dX10_isCar_3 : decode cX10_isCar 3 = .ok (.getfield 23, 3) := by decide +kernel
theorem dX10_isCar_6 : decode cX10_isCar 6 = .ok (.iconst 1, 1) := by decide +kernel
theorem dX10_isCar_7 : decode cX10_isCar 7 = .ok (.iaload, 1) := by decide +kernel
theorem dX10_isCar_8 : decode cX10_isCar 8 = .ok (.iconst 1, 1) := by decide +kernel
theorem dX10_isCar_9 : decode cX10_isCar 9 = .ok (.isub, 1) := by decide +kernel
theorem dX10_isCar_10 : decode cX10_isCar 10 = .ok (.invokestatic 167, 3) := by decide +kernel
theorem dX10_isCar_13 : decode cX10_isCar 13 = .ok (.ireturn, 1) := by decide +kernel
theorem dX10_isCoat_0 : decode cX10_isCoat 0 = .ok (.iload_n 1, 1) := by decide +kernel
theorem dX10_isCoat_1 : decode cX10_isCoat 1 = .ok (.iconst 0, 1) := by decide +kernel
theorem dX10_isCoat_2 : decode cX10_isCoat 2 = .ok (.aload_n 0, 1) := by decide +kernel
theorem dX10_isCoat_3 : decode cX10_isCoat 3 = .ok (.getfield 23, 3) := by decide +kernel
theorem dX10_isCoat_6 : decode cX10_isCoat 6 = .ok (.iconst 2, 1) := by decide +kernel
theorem dX10_isCoat_7 : decode cX10_isCoat 7 = .ok (.iaload, 1) := by decide +kernel
theorem dX10_isCoat_8 : decode cX10_isCoat 8 = .ok (.iconst 1, 1) := by decide +kernel
theorem dX10_isCoat_9 : decode cX10_isCoat 9 = .ok (.isub, 1) := by decide +kernel
theorem dX10_isCoat_10 : decode cX10_isCoat 10 = .ok (.invokestatic 167, 3) := by decide +kernel
theorem dX10_isCoat_13 : decode cX10_isCoat 13 = .ok (.ireturn, 1) := by decide +kernel
theorem dX10_car_0 : decode cX10_car 0 = .ok (.aload_n 0, 1) := by decide +kernel
theorem dX10_car_1 : decode cX10_car 1 = .ok (.iconst 0, 1) := by decide +kernel
theorem dX10_car_2 : decode cX10_car 2 = .ok (.putfield 133, 3) := by decide +kernel
theorem dX10_car_5 : decode cX10_car 5 = .ok (.aload_n 0, 1) := by decide +kernel
theorem dX10_car_6 : decode cX10_car 6 = .ok (.aload_n 0, 1) := by decide +kernel
theorem dX10_car_7 : decode cX10_car 7 = .ok (.iload_n 1, 1) := by decide +kernel
theorem dX10_car_8 : decode cX10_car 8 = .ok (.invokevirtual 343, 3) := by decide +kernel
theorem dX10_car_11 : decode cX10_car 11 = .ok (.ifCond .ne 7, 3) := by decide +kernel
theorem dX10_car_14 : decode cX10_car 14 = .ok (.iconst 1, 1) := by decide +kernel
theorem dX10_car_15 : decode cX10_car 15 = .ok (.goto 4, 3) := by decide +kernel
theorem dX10_car_18 : decode cX10_car 18 = .ok (.iconst 0, 1) := by decide +kernel
theorem dX10_car_19 : decode cX10_car 19 = .ok (.iconst 1, 1) := by decide +kernel
theorem dX10_car_20 : decode cX10_car 20 = .ok (.iconst 0, 1) := by decide +kernel
theorem dX10_car_21 : decode cX10_car 21 = .ok (.invokevirtual 212, 3) := by decide +kernel
theorem dX10_car_24 : decode cX10_car 24 = .ok (.ifCond .ne 26, 3) := by decide +kernel
theorem dX10_car_27 : decode cX10_car 27 = .ok (.aload_n 0, 1) := by decide +kernel
theorem dX10_car_28 : decode cX10_car 28 = .ok (.iload_n 2, 1) := by decide +kernel
theorem dX10_car_29 : decode cX10_car 29 = .ok (.iconst 0, 1) := by decide +kernel
theorem dX10_car_30 : decode cX10_car 30 = .ok (.iconst 3, 1) := by decide +kernel
theorem dX10_car_31 : decode cX10_car 31 = .ok (.invokestatic 167, 3) := by decide +kernel
theorem dX10_car_34 : decode cX10_car 34 = .ok (.ifCond .ne 7, 3) := by decide +kernel
theorem dX10_car_37 : decode cX10_car 37 = .ok (.iconst 1, 1) := by decide +kernel
theorem dX10_car_38 : decode cX10_car 38 = .ok (.goto 4, 3) := by decide +kernel
theorem dX10_car_41 : decode cX10_car 41 = .ok (.iconst 0, 1) := by decide +kernel
theorem dX10_car_42 : decode cX10_car 42 = .ok (.iconst 2, 1) := by decide +kernel
theorem dX10_car_43 : decode cX10_car 43 = .ok (.iconst 1, 1) := by decide +kernel
theorem dX10_car_44 : decode cX10_car 44 = .ok (.invokevirtual 212, 3) := by decide +kernel
theorem dX10_car_47 : decode cX10_car 47 = .ok (.ifCond .eq 5, 3) := by decide +kernel
theorem dX10_car_50 : decode cX10_car 50 = .ok (.iconst 0, 1) := by decide +kernel
theorem dX10_car_51 : decode cX10_car 51 = .ok (.ireturn, 1) := by decide +kernel
theorem dX10_car_52 : decode cX10_car 52 = .ok (.iload_n 2, 1) := by decide +kernel
theorem dX10_car_53 : decode cX10_car 53 = .ok (.ifCond .ne 12, 3) := by decide +kernel
theorem dX10_car_56 : decode cX10_car 56 = .ok (.aload_n 0, 1) := by decide +kernel
theorem dX10_car_57 : decode cX10_car 57 = .ok (.getfield 29, 3) := by decide +kernel
theorem dX10_car_60 : decode cX10_car 60 = .ok (.iload_n 1, 1) := by decide +kernel
theorem dX10_car_61 : decode cX10_car 61 = .ok (.iaload, 1) := by decide +kernel
theorem dX10_car_62 : decode cX10_car 62 = .ok (.goto 45, 3) := by decide +kernel
theorem dX10_car_65 : decode cX10_car 65 = .ok (.iload_n 2, 1) := by decide +kernel
theorem dX10_car_66 : decode cX10_car 66 = .ok (.iconst 1, 1) := by decide +kernel
theorem dX10_car_67 : decode cX10_car 67 = .ok (.if_icmp .ne 11, 3) := by decide +kernel
theorem dX10_car_70 : decode cX10_car 70 = .ok (.aload_n 0, 1) := by decide +kernel
theorem dX10_car_71 : decode cX10_car 71 = .ok (.iload_n 1, 1) := by decide +kernel
theorem dX10_car_72 : decode cX10_car 72 = .ok (.invokevirtual 282, 3) := by decide +kernel
theorem dX10_car_75 : decode cX10_car 75 = .ok (.goto 32, 3) := by decide +kernel
theorem dX10_car_78 : decode cX10_car 78 = .ok (.iload_n 2, 1) := by decide +kernel
theorem dX10_car_79 : decode cX10_car 79 = .ok (.iconst 2, 1) := by decide +kernel
theorem dX10_car_80 : decode cX10_car 80 = .ok (.if_icmp .ne 11, 3) := by decide +kernel
theorem dX10_car_83 : decode cX10_car 83 = .ok (.aload_n 0, 1) := by decide +kernel
theorem dX10_car_84 : decode cX10_car 84 = .ok (.iload_n 1, 1) := by decide +kernel
theorem dX10_car_85 : decode cX10_car 85 = .ok (.invokevirtual 288, 3) := by decide +kernel
theorem dX10_car_88 : decode cX10_car 88 = .ok (.goto 19, 3) := by decide +kernel
theorem dX10_car_91 : decode cX10_car 91 = .ok (.iload_n 1, 1) := by decide +kernel
theorem dX10_car_92 : decode cX10_car 92 = .ok (.ifCond .ne 7, 3) := by decide +kernel
theorem dX10_car_95 : decode cX10_car 95 = .ok (.iconst 0, 1) := by decide +kernel
theorem dX10_car_96 : decode cX10_car 96 = .ok (.goto 11, 3) := by decide +kernel
theorem dX10_car_99 : decode cX10_car 99 = .ok (.aload_n 0, 1) := by decide +kernel
theorem dX10_car_100 : decode cX10_car 100 = .ok (.getfield 23, 3) := by decide +kernel
theorem dX10_car_103 : decode cX10_car 103 = .ok (.iconst 0, 1) := by decide +kernel
theorem dX10_car_104 : decode cX10_car 104 = .ok (.iaload, 1) := by decide +kernel
theorem dX10_car_105 : decode cX10_car 105 = .ok (.iconst 1, 1) := by decide +kernel
theorem dX10_car_106 : decode cX10_car 106 = .ok (.isub, 1) := by decide +kernel
theorem dX10_car_107 : decode cX10_car 107 = .ok (.ireturn, 1) := by decide +kernel
theorem dX10_coat_0 : decode cX10_coat 0 = .ok (.aload_n 0, 1) := by decide +kernel
theorem dX10_coat_1 : decode cX10_coat 1 = .ok (.iconst 0, 1) := by decide +kernel
theorem dX10_coat_2 : decode cX10_coat 2 = .ok (.putfield 133, 3) := by decide +kernel
theorem dX10_coat_5 : decode cX10_coat 5 = .ok (.aload_n 0, 1) := by decide +kernel
theorem dX10_coat_6 : decode cX10_coat 6 = .ok (.aload_n 0, 1) := by decide +kernel
theorem dX10_coat_7 : decode cX10_coat 7 = .ok (.iload_n 1, 1) := by decide +kernel
theorem dX10_coat_8 : decode cX10_coat 8 = .ok (.invokevirtual 346, 3) := by decide +kernel
theorem dX10_coat_11 : decode cX10_coat 11 = .ok (.ifCond .ne 7, 3) := by decide +kernel
theorem dX10_coat_14 : decode cX10_coat 14 = .ok (.iconst 1, 1) := by decide +kernel
theorem dX10_coat_15 : decode cX10_coat 15 = .ok (.goto 4, 3) := by decide +kernel
theorem dX10_coat_18 : decode cX10_coat 18 = .ok (.iconst 0, 1) := by decide +kernel
theorem dX10_coat_19 : decode cX10_coat 19 = .ok (.iconst 1, 1) := by decide +kernel
theorem dX10_coat_20 : decode cX10_coat 20 = .ok (.iconst 0, 1) := by decide +kernel
theorem dX10_coat_21 : decode cX10_coat 21 = .ok (.invokevirtual 212, 3) := by decide +kernel
theorem dX10_coat_24 : decode cX10_coat 24 = .ok (.ifCond .ne 26, 3) := by decide +kernel
theorem dX10_coat_27 : decode cX10_coat 27 = .ok (.aload_n 0, 1) := by decide +kernel
theorem dX10_coat_28 : decode cX10_coat 28 = .ok (.iload_n 2, 1) := by decide +kernel
theorem dX10_coat_29 : decode cX10_coat 29 = .ok (.iconst 0, 1) := by decide +kernel
theorem dX10_coat_30 : decode cX10_coat 30 = .ok (.iconst 1, 1) := by decide +kernel
theorem dX10_coat_31 : decode cX10_coat 31 = .ok (.invokestatic 167, 3) := by decide +kernel
theorem dX10_coat_34 : decode cX10_coat 34 = .ok (.ifCond .ne 7, 3) := by decide +kernel
theorem dX10_coat_37 : decode cX10_coat 37 = .ok (.iconst 1, 1) := by decide +kernel
theorem dX10_coat_38 : decode cX10_coat 38 = .ok (.goto 4, 3) := by decide +kernel
theorem dX10_coat_41 : decode cX10_coat 41 = .ok (.iconst 0, 1) := by decide +kernel
theorem dX10_coat_42 : decode cX10_coat 42 = .ok (.iconst 2, 1) := by decide +kernel
theorem dX10_coat_43 : decode cX10_coat 43 = .ok (.iconst 1, 1) := by decide +kernel
theorem dX10_coat_44 : decode cX10_coat 44 = .ok (.invokevirtual 212, 3) := by decide +kernel
theorem dX10_coat_47 : decode cX10_coat 47 = .ok (.ifCond .eq 5, 3) := by decide +kernel
theorem dX10_coat_50 : decode cX10_coat 50 = .ok (.iconst 0, 1) := by decide +kernel
theorem dX10_coat_51 : decode cX10_coat 51 = .ok (.ireturn, 1) := by decide +kernel
theorem dX10_coat_52 : decode cX10_coat 52 = .ok (.aload_n 0, 1) := by decide +kernel
theorem dX10_coat_53 : decode cX10_coat 53 = .ok (.getfield 41, 3) := by decide +kernel
theorem dX10_coat_56 : decode cX10_coat 56 = .ok (.iconst 4, 1) := by decide +kernel
theorem dX10_coat_57 : decode cX10_coat 57 = .ok (.iconst 2, 1) := by decide +kernel
theorem dX10_coat_58 : decode cX10_coat 58 = .ok (.iload_n 1, 1) := by decide +kernel
theorem dX10_coat_59 : decode cX10_coat 59 = .ok (.imul, 1) := by decide +kernel
theorem dX10_coat_60 : decode cX10_coat 60 = .ok (.iadd, 1) := by decide +kernel
theorem dX10_coat_61 : decode cX10_coat 61 = .ok (.iload_n 2, 1) := by decide +kernel
theorem dX10_coat_62 : decode cX10_coat 62 = .ok (.iadd, 1) := by decide +kernel
theorem dX10_coat_63 : decode cX10_coat 63 = .ok (.iaload, 1) := by decide +kernel
theorem dX10_coat_64 : decode cX10_coat 64 = .ok (.ireturn, 1) := by decide +kernel
theorem dX10_tenths_0 : decode cX10_tenths 0 = .ok (.aload_n 0, 1) := by decide +kernel
theorem dX10_tenths_1 : decode cX10_tenths 1 = .ok (.iconst 0, 1) := by decide +kernel
theorem dX10_tenths_2 : decode cX10_tenths 2 = .ok (.putfield 133, 3) := by decide +kernel
theorem dX10_tenths_5 : decode cX10_tenths 5 = .ok (.aload_n 0, 1) := by decide +kernel
theorem dX10_tenths_6 : decode cX10_tenths 6 = .ok (.invokevirtual 349, 3) := by decide +kernel
theorem dX10_tenths_9 : decode cX10_tenths 9 = .ok (.aload_n 0, 1) := by decide +kernel
theorem dX10_tenths_10 : decode cX10_tenths 10 = .ok (.getfield 294, 3) := by decide +kernel
theorem dX10_tenths_13 : decode cX10_tenths 13 = .ok (.ireturn, 1) := by decide +kernel
theorem dX10_at_0 : decode cX10_at 0 = .ok (.aload_n 0, 1) := by decide +kernel
theorem dX10_at_1 : decode cX10_at 1 = .ok (.iconst 0, 1) := by decide +kernel
theorem dX10_at_2 : decode cX10_at 2 = .ok (.putfield 133, 3) := by decide +kernel
theorem dX10_at_5 : decode cX10_at 5 = .ok (.aload_n 0, 1) := by decide +kernel
theorem dX10_at_6 : decode cX10_at 6 = .ok (.aload_n 0, 1) := by decide +kernel
theorem dX10_at_7 : decode cX10_at 7 = .ok (.iload_n 1, 1) := by decide +kernel
theorem dX10_at_8 : decode cX10_at 8 = .ok (.invokevirtual 343, 3) := by decide +kernel
theorem dX10_at_11 : decode cX10_at 11 = .ok (.ifCond .ne 7, 3) := by decide +kernel
theorem dX10_at_14 : decode cX10_at 14 = .ok (.iconst 1, 1) := by decide +kernel
theorem dX10_at_15 : decode cX10_at 15 = .ok (.goto 4, 3) := by decide +kernel
theorem dX10_at_18 : decode cX10_at 18 = .ok (.iconst 0, 1) := by decide +kernel
theorem dX10_at_19 : decode cX10_at 19 = .ok (.iconst 1, 1) := by decide +kernel
theorem dX10_at_20 : decode cX10_at 20 = .ok (.iconst 0, 1) := by decide +kernel
theorem dX10_at_21 : decode cX10_at 21 = .ok (.invokevirtual 212, 3) := by decide +kernel
theorem dX10_at_24 : decode cX10_at 24 = .ok (.ifCond .ne 36, 3) := by decide +kernel
theorem dX10_at_27 : decode cX10_at 27 = .ok (.aload_n 0, 1) := by decide +kernel
theorem dX10_at_28 : decode cX10_at 28 = .ok (.iload_n 2, 1) := by decide +kernel
theorem dX10_at_29 : decode cX10_at 29 = .ok (.iconst 0, 1) := by decide +kernel
theorem dX10_at_30 : decode cX10_at 30 = .ok (.bipush 98, 2) := by decide +kernel
theorem dX10_at_32 : decode cX10_at 32 = .ok (.invokestatic 167, 3) := by decide +kernel
theorem dX10_at_35 : decode cX10_at 35 = .ok (.ifCond .eq 12, 3) := by decide +kernel
theorem dX10_at_38 : decode cX10_at 38 = .ok (.iload_n 3, 1) := by decide +kernel
theorem dX10_at_39 : decode cX10_at 39 = .ok (.iconst 0, 1) := by decide +kernel
theorem dX10_at_40 : decode cX10_at 40 = .ok (.iconst 5, 1) := by decide +kernel
theorem dX10_at_41 : decode cX10_at 41 = .ok (.invokestatic 167, 3) := by decide +kernel
theorem dX10_at_44 : decode cX10_at 44 = .ok (.ifCond .ne 7, 3) := by decide +kernel
theorem dX10_at_47 : decode cX10_at 47 = .ok (.iconst 1, 1) := by decide +kernel
theorem dX10_at_48 : decode cX10_at 48 = .ok (.goto 4, 3) := by decide +kernel
theorem dX10_at_51 : decode cX10_at 51 = .ok (.iconst 0, 1) := by decide +kernel
theorem dX10_at_52 : decode cX10_at 52 = .ok (.iconst 2, 1) := by decide +kernel
theorem dX10_at_53 : decode cX10_at 53 = .ok (.iconst 1, 1) := by decide +kernel
theorem dX10_at_54 : decode cX10_at 54 = .ok (.invokevirtual 212, 3) := by decide +kernel
theorem dX10_at_57 : decode cX10_at 57 = .ok (.ifCond .eq 5, 3) := by decide +kernel
theorem dX10_at_60 : decode cX10_at 60 = .ok (.iconst 0, 1) := by decide +kernel
theorem dX10_at_61 : decode cX10_at 61 = .ok (.ireturn, 1) := by decide +kernel
theorem dX10_at_62 : decode cX10_at 62 = .ok (.aload_n 0, 1) := by decide +kernel
theorem dX10_at_63 : decode cX10_at 63 = .ok (.invokevirtual 349, 3) := by decide +kernel
theorem dX10_at_66 : decode cX10_at 66 = .ok (.iload_n 2, 1) := by decide +kernel
theorem dX10_at_67 : decode cX10_at 67 = .ok (.aload_n 0, 1) := by decide +kernel
theorem dX10_at_68 : decode cX10_at 68 = .ok (.getfield 294, 3) := by decide +kernel
theorem dX10_at_71 : decode cX10_at 71 = .ok (.if_icmp .ge 17, 3) := by decide +kernel
theorem dX10_at_74 : decode cX10_at 74 = .ok (.aload_n 0, 1) := by decide +kernel
theorem dX10_at_75 : decode cX10_at 75 = .ok (.getfield 81, 3) := by decide +kernel
theorem dX10_at_78 : decode cX10_at 78 = .ok (.iload_n 1, 1) := by decide +kernel
theorem dX10_at_79 : decode cX10_at 79 = .ok (.aaload, 1) := by decide +kernel
theorem dX10_at_80 : decode cX10_at 80 = .ok (.iload_n 2, 1) := by decide +kernel
theorem dX10_at_81 : decode cX10_at 81 = .ok (.aaload, 1) := by decide +kernel
theorem dX10_at_82 : decode cX10_at 82 = .ok (.iconst 0, 1) := by decide +kernel
theorem dX10_at_83 : decode cX10_at 83 = .ok (.iaload, 1) := by decide +kernel
theorem dX10_at_84 : decode cX10_at 84 = .ok (.iconst (-1), 1) := by decide +kernel
theorem dX10_at_85 : decode cX10_at 85 = .ok (.if_icmp .ne 7, 3) := by decide +kernel
theorem dX10_at_88 : decode cX10_at 88 = .ok (.iconst (-1), 1) := by decide +kernel
theorem dX10_at_89 : decode cX10_at 89 = .ok (.goto 13, 3) := by decide +kernel
theorem dX10_at_92 : decode cX10_at 92 = .ok (.aload_n 0, 1) := by decide +kernel
theorem dX10_at_93 : decode cX10_at 93 = .ok (.getfield 81, 3) := by decide +kernel
theorem dX10_at_96 : decode cX10_at 96 = .ok (.iload_n 1, 1) := by decide +kernel
theorem dX10_at_97 : decode cX10_at 97 = .ok (.aaload, 1) := by decide +kernel
theorem dX10_at_98 : decode cX10_at 98 = .ok (.iload_n 2, 1) := by decide +kernel
theorem dX10_at_99 : decode cX10_at 99 = .ok (.aaload, 1) := by decide +kernel
theorem dX10_at_100 : decode cX10_at 100 = .ok (.iload_n 3, 1) := by decide +kernel
theorem dX10_at_101 : decode cX10_at 101 = .ok (.iaload, 1) := by decide +kernel
theorem dX10_at_102 : decode cX10_at 102 = .ok (.ireturn, 1) := by decide +kernel
theorem dX10_passes_0 : decode cX10_passes 0 = .ok (.aload_n 0, 1) := by decide +kernel
theorem dX10_passes_1 : decode cX10_passes 1 = .ok (.iconst 0, 1) := by decide +kernel
theorem dX10_passes_2 : decode cX10_passes 2 = .ok (.putfield 133, 3) := by decide +kernel
theorem dX10_passes_5 : decode cX10_passes 5 = .ok (.aload_n 0, 1) := by decide +kernel
theorem dX10_passes_6 : decode cX10_passes 6 = .ok (.invokevirtual 349, 3) := by decide +kernel
theorem dX10_passes_9 : decode cX10_passes 9 = .ok (.aload_n 0, 1) := by decide +kernel
theorem dX10_passes_10 : decode cX10_passes 10 = .ok (.getfield 297, 3) := by decide +kernel
theorem dX10_passes_13 : decode cX10_passes 13 = .ok (.ireturn, 1) := by decide +kernel
theorem dX10_hits_0 : decode cX10_hits 0 = .ok (.aload_n 0, 1) := by decide +kernel
theorem dX10_hits_1 : decode cX10_hits 1 = .ok (.iconst 0, 1) := by decide +kernel
theorem dX10_hits_2 : decode cX10_hits 2 = .ok (.putfield 133, 3) := by decide +kernel
theorem dX10_hits_5 : decode cX10_hits 5 = .ok (.aload_n 0, 1) := by decide +kernel
theorem dX10_hits_6 : decode cX10_hits 6 = .ok (.aload_n 0, 1) := by decide +kernel
theorem dX10_hits_7 : decode cX10_hits 7 = .ok (.iload_n 1, 1) := by decide +kernel
theorem dX10_hits_8 : decode cX10_hits 8 = .ok (.invokevirtual 343, 3) := by decide +kernel
theorem dX10_hits_11 : decode cX10_hits 11 = .ok (.ifCond .ne 7, 3) := by decide +kernel
theorem dX10_hits_14 : decode cX10_hits 14 = .ok (.iconst 1, 1) := by decide +kernel
theorem dX10_hits_15 : decode cX10_hits 15 = .ok (.goto 4, 3) := by decide +kernel
theorem dX10_hits_18 : decode cX10_hits 18 = .ok (.iconst 0, 1) := by decide +kernel
theorem dX10_hits_19 : decode cX10_hits 19 = .ok (.iconst 1, 1) := by decide +kernel
theorem dX10_hits_20 : decode cX10_hits 20 = .ok (.iconst 0, 1) := by decide +kernel
theorem dX10_hits_21 : decode cX10_hits 21 = .ok (.invokevirtual 212, 3) := by decide +kernel
theorem dX10_hits_24 : decode cX10_hits 24 = .ok (.ifCond .eq 5, 3) := by decide +kernel
theorem dX10_hits_27 : decode cX10_hits 27 = .ok (.iconst 0, 1) := by decide +kernel
theorem dX10_hits_28 : decode cX10_hits 28 = .ok (.ireturn, 1) := by decide +kernel
theorem dX10_hits_29 : decode cX10_hits 29 = .ok (.aload_n 0, 1) := by decide +kernel
theorem dX10_hits_30 : decode cX10_hits 30 = .ok (.invokevirtual 349, 3) := by decide +kernel
theorem dX10_hits_33 : decode cX10_hits 33 = .ok (.aload_n 0, 1) := by decide +kernel
theorem dX10_hits_34 : decode cX10_hits 34 = .ok (.getfield 90, 3) := by decide +kernel
theorem dX10_hits_37 : decode cX10_hits 37 = .ok (.iload_n 1, 1) := by decide +kernel
theorem dX10_hits_38 : decode cX10_hits 38 = .ok (.iaload, 1) := by decide +kernel
theorem dX10_hits_39 : decode cX10_hits 39 = .ok (.ireturn, 1) := by decide +kernel
theorem dX10_sees_0 : decode cX10_sees 0 = .ok (.aload_n 0, 1) := by decide +kernel
theorem dX10_sees_1 : decode cX10_sees 1 = .ok (.iconst 0, 1) := by decide +kernel
theorem dX10_sees_2 : decode cX10_sees 2 = .ok (.putfield 133, 3) := by decide +kernel
theorem dX10_sees_5 : decode cX10_sees 5 = .ok (.aload_n 0, 1) := by decide +kernel
theorem dX10_sees_6 : decode cX10_sees 6 = .ok (.aload_n 0, 1) := by decide +kernel
theorem dX10_sees_7 : decode cX10_sees 7 = .ok (.iload_n 1, 1) := by decide +kernel
theorem dX10_sees_8 : decode cX10_sees 8 = .ok (.invokevirtual 343, 3) := by decide +kernel
theorem dX10_sees_11 : decode cX10_sees 11 = .ok (.ifCond .eq 11, 3) := by decide +kernel
theorem dX10_sees_14 : decode cX10_sees 14 = .ok (.aload_n 0, 1) := by decide +kernel
theorem dX10_sees_15 : decode cX10_sees 15 = .ok (.iload_n 2, 1) := by decide +kernel
theorem dX10_sees_16 : decode cX10_sees 16 = .ok (.invokevirtual 346, 3) := by decide +kernel
theorem dX10_sees_19 : decode cX10_sees 19 = .ok (.ifCond .ne 7, 3) := by decide +kernel
theorem dX10_sees_22 : decode cX10_sees 22 = .ok (.iconst 1, 1) := by decide +kernel
theorem dX10_sees_23 : decode cX10_sees 23 = .ok (.goto 4, 3) := by decide +kernel
theorem dX10_sees_26 : decode cX10_sees 26 = .ok (.iconst 0, 1) := by decide +kernel
theorem dX10_sees_27 : decode cX10_sees 27 = .ok (.iconst 1, 1) := by decide +kernel
theorem dX10_sees_28 : decode cX10_sees 28 = .ok (.iconst 0, 1) := by decide +kernel
theorem dX10_sees_29 : decode cX10_sees 29 = .ok (.invokevirtual 212, 3) := by decide +kernel
theorem dX10_sees_32 : decode cX10_sees 32 = .ok (.ifCond .eq 5, 3) := by decide +kernel
theorem dX10_sees_35 : decode cX10_sees 35 = .ok (.iconst 0, 1) := by decide +kernel
theorem dX10_sees_36 : decode cX10_sees 36 = .ok (.ireturn, 1) := by decide +kernel
theorem dX10_sees_37 : decode cX10_sees 37 = .ok (.aload_n 0, 1) := by decide +kernel
theorem dX10_sees_38 : decode cX10_sees 38 = .ok (.invokevirtual 349, 3) := by decide +kernel
theorem dX10_sees_41 : decode cX10_sees 41 = .ok (.aload_n 0, 1) := by decide +kernel
theorem dX10_sees_42 : decode cX10_sees 42 = .ok (.getfield 84, 3) := by decide +kernel
theorem dX10_sees_45 : decode cX10_sees 45 = .ok (.iload_n 1, 1) := by decide +kernel
theorem dX10_sees_46 : decode cX10_sees 46 = .ok (.aaload, 1) := by decide +kernel
theorem dX10_sees_47 : decode cX10_sees 47 = .ok (.iload_n 2, 1) := by decide +kernel
theorem dX10_sees_48 : decode cX10_sees 48 = .ok (.iaload, 1) := by decide +kernel
theorem dX10_sees_49 : decode cX10_sees 49 = .ok (.ireturn, 1) := by decide +kernel
theorem dX10_sums_0 : decode cX10_sums 0 = .ok (.aload_n 0, 1) := by decide +kernel
theorem dX10_sums_1 : decode cX10_sums 1 = .ok (.iconst 0, 1) := by decide +kernel
theorem dX10_sums_2 : decode cX10_sums 2 = .ok (.putfield 133, 3) := by decide +kernel
theorem dX10_sums_5 : decode cX10_sums 5 = .ok (.aload_n 0, 1) := by decide +kernel
theorem dX10_sums_6 : decode cX10_sums 6 = .ok (.aload_n 0, 1) := by decide +kernel
theorem dX10_sums_7 : decode cX10_sums 7 = .ok (.iload_n 1, 1) := by decide +kernel
theorem dX10_sums_8 : decode cX10_sums 8 = .ok (.invokevirtual 343, 3) := by decide +kernel
theorem dX10_sums_11 : decode cX10_sums 11 = .ok (.ifCond .ne 7, 3) := by decide +kernel
theorem dX10_sums_14 : decode cX10_sums 14 = .ok (.iconst 1, 1) := by decide +kernel
theorem dX10_sums_15 : decode cX10_sums 15 = .ok (.goto 4, 3) := by decide +kernel
theorem dX10_sums_18 : decode cX10_sums 18 = .ok (.iconst 0, 1) := by decide +kernel
theorem dX10_sums_19 : decode cX10_sums 19 = .ok (.iconst 1, 1) := by decide +kernel
theorem dX10_sums_20 : decode cX10_sums 20 = .ok (.iconst 0, 1) := by decide +kernel
theorem dX10_sums_21 : decode cX10_sums 21 = .ok (.invokevirtual 212, 3) := by decide +kernel
theorem dX10_sums_24 : decode cX10_sums 24 = .ok (.ifCond .ne 26, 3) := by decide +kernel
theorem dX10_sums_27 : decode cX10_sums 27 = .ok (.aload_n 0, 1) := by decide +kernel
theorem dX10_sums_28 : decode cX10_sums 28 = .ok (.iload_n 2, 1) := by decide +kernel
theorem dX10_sums_29 : decode cX10_sums 29 = .ok (.iconst 0, 1) := by decide +kernel
theorem dX10_sums_30 : decode cX10_sums 30 = .ok (.iconst 5, 1) := by decide +kernel
theorem dX10_sums_31 : decode cX10_sums 31 = .ok (.invokestatic 167, 3) := by decide +kernel
theorem dX10_sums_34 : decode cX10_sums 34 = .ok (.ifCond .ne 7, 3) := by decide +kernel
theorem dX10_sums_37 : decode cX10_sums 37 = .ok (.iconst 1, 1) := by decide +kernel
theorem dX10_sums_38 : decode cX10_sums 38 = .ok (.goto 4, 3) := by decide +kernel
theorem dX10_sums_41 : decode cX10_sums 41 = .ok (.iconst 0, 1) := by decide +kernel
theorem dX10_sums_42 : decode cX10_sums 42 = .ok (.iconst 2, 1) := by decide +kernel
theorem dX10_sums_43 : decode cX10_sums 43 = .ok (.iconst 1, 1) := by decide +kernel
theorem dX10_sums_44 : decode cX10_sums 44 = .ok (.invokevirtual 212, 3) := by decide +kernel
theorem dX10_sums_47 : decode cX10_sums 47 = .ok (.ifCond .eq 5, 3) := by decide +kernel
theorem dX10_sums_50 : decode cX10_sums 50 = .ok (.iconst 0, 1) := by decide +kernel
theorem dX10_sums_51 : decode cX10_sums 51 = .ok (.ireturn, 1) := by decide +kernel
theorem dX10_sums_52 : decode cX10_sums 52 = .ok (.aload_n 0, 1) := by decide +kernel
theorem dX10_sums_53 : decode cX10_sums 53 = .ok (.invokevirtual 349, 3) := by decide +kernel
theorem dX10_sums_56 : decode cX10_sums 56 = .ok (.iconst 0, 1) := by decide +kernel
theorem dX10_sums_57 : decode cX10_sums 57 = .ok (.istore_n 3, 1) := by decide +kernel
theorem dX10_sums_58 : decode cX10_sums 58 = .ok (.iconst 0, 1) := by decide +kernel
theorem dX10_sums_59 : decode cX10_sums 59 = .ok (.istore 4, 2) := by decide +kernel
theorem dX10_sums_61 : decode cX10_sums 61 = .ok (.iconst 0, 1) := by decide +kernel
theorem dX10_sums_62 : decode cX10_sums 62 = .ok (.istore 5, 2) := by decide +kernel
theorem dX10_sums_64 : decode cX10_sums 64 = .ok (.iconst (-1), 1) := by decide +kernel
theorem dX10_sums_65 : decode cX10_sums 65 = .ok (.istore 6, 2) := by decide +kernel
theorem dX10_sums_67 : decode cX10_sums 67 = .ok (.iconst 1, 1) := by decide +kernel
theorem dX10_sums_68 : decode cX10_sums 68 = .ok (.istore 7, 2) := by decide +kernel
theorem dX10_sums_70 : decode cX10_sums 70 = .ok (.iconst 0, 1) := by decide +kernel
theorem dX10_sums_71 : decode cX10_sums 71 = .ok (.istore 8, 2) := by decide +kernel
theorem dX10_sums_73 : decode cX10_sums 73 = .ok (.iload 8, 2) := by decide +kernel
theorem dX10_sums_75 : decode cX10_sums 75 = .ok (.aload_n 0, 1) := by decide +kernel
theorem dX10_sums_76 : decode cX10_sums 76 = .ok (.getfield 294, 3) := by decide +kernel
theorem dX10_sums_79 : decode cX10_sums 79 = .ok (.if_icmp .ge 104, 3) := by decide +kernel
theorem dX10_sums_82 : decode cX10_sums 82 = .ok (.aload_n 0, 1) := by decide +kernel
theorem dX10_sums_83 : decode cX10_sums 83 = .ok (.getfield 81, 3) := by decide +kernel
theorem dX10_sums_86 : decode cX10_sums 86 = .ok (.iload_n 1, 1) := by decide +kernel
theorem dX10_sums_87 : decode cX10_sums 87 = .ok (.aaload, 1) := by decide +kernel
theorem dX10_sums_88 : decode cX10_sums 88 = .ok (.iload 8, 2) := by decide +kernel
theorem dX10_sums_90 : decode cX10_sums 90 = .ok (.aaload, 1) := by decide +kernel
theorem dX10_sums_91 : decode cX10_sums 91 = .ok (.astore 9, 2) := by decide +kernel
theorem dX10_sums_93 : decode cX10_sums 93 = .ok (.aload 9, 2) := by decide +kernel
theorem dX10_sums_95 : decode cX10_sums 95 = .ok (.iconst 0, 1) := by decide +kernel
theorem dX10_sums_96 : decode cX10_sums 96 = .ok (.iaload, 1) := by decide +kernel
theorem dX10_sums_97 : decode cX10_sums 97 = .ok (.iconst (-1), 1) := by decide +kernel
theorem dX10_sums_98 : decode cX10_sums 98 = .ok (.if_icmp .ne 6, 3) := by decide +kernel
theorem dX10_sums_101 : decode cX10_sums 101 = .ok (.goto 76, 3) := by decide +kernel
theorem dX10_sums_104 : decode cX10_sums 104 = .ok (.iload_n 3, 1) := by decide +kernel
theorem dX10_sums_105 : decode cX10_sums 105 = .ok (.aload 9, 2) := by decide +kernel
theorem dX10_sums_107 : decode cX10_sums 107 = .ok (.iconst 2, 1) := by decide +kernel
theorem dX10_sums_108 : decode cX10_sums 108 = .ok (.iaload, 1) := by decide +kernel
theorem dX10_sums_109 : decode cX10_sums 109 = .ok (.ifCond .le 7, 3) := by decide +kernel
theorem dX10_sums_112 : decode cX10_sums 112 = .ok (.iconst 1, 1) := by decide +kernel
theorem dX10_sums_113 : decode cX10_sums 113 = .ok (.goto 4, 3) := by decide +kernel
theorem dX10_sums_116 : decode cX10_sums 116 = .ok (.iconst 0, 1) := by decide +kernel
theorem dX10_sums_117 : decode cX10_sums 117 = .ok (.iadd, 1) := by decide +kernel
theorem dX10_sums_118 : decode cX10_sums 118 = .ok (.istore_n 3, 1) := by decide +kernel
theorem dX10_sums_119 : decode cX10_sums 119 = .ok (.iload 4, 2) := by decide +kernel
theorem dX10_sums_121 : decode cX10_sums 121 = .ok (.aload 9, 2) := by decide +kernel
theorem dX10_sums_123 : decode cX10_sums 123 = .ok (.iconst 1, 1) := by decide +kernel
theorem dX10_sums_124 : decode cX10_sums 124 = .ok (.iaload, 1) := by decide +kernel
theorem dX10_sums_125 : decode cX10_sums 125 = .ok (.iadd, 1) := by decide +kernel
theorem dX10_sums_126 : decode cX10_sums 126 = .ok (.istore 4, 2) := by decide +kernel
theorem dX10_sums_128 : decode cX10_sums 128 = .ok (.iload 5, 2) := by decide +kernel
theorem dX10_sums_130 : decode cX10_sums 130 = .ok (.aload 9, 2) := by decide +kernel
theorem dX10_sums_132 : decode cX10_sums 132 = .ok (.iconst 1, 1) := by decide +kernel
theorem dX10_sums_133 : decode cX10_sums 133 = .ok (.iaload, 1) := by decide +kernel
theorem dX10_sums_134 : decode cX10_sums 134 = .ok (.iload 7, 2) := by decide +kernel
theorem dX10_sums_136 : decode cX10_sums 136 = .ok (.if_icmp .eq 7, 3) := by decide +kernel
theorem dX10_sums_139 : decode cX10_sums 139 = .ok (.iconst 1, 1) := by decide +kernel
theorem dX10_sums_140 : decode cX10_sums 140 = .ok (.goto 4, 3) := by decide +kernel
theorem dX10_sums_143 : decode cX10_sums 143 = .ok (.iconst 0, 1) := by decide +kernel
theorem dX10_sums_144 : decode cX10_sums 144 = .ok (.iadd, 1) := by decide +kernel
theorem dX10_sums_145 : decode cX10_sums 145 = .ok (.istore 5, 2) := by decide +kernel
theorem dX10_sums_147 : decode cX10_sums 147 = .ok (.aload 9, 2) := by decide +kernel
theorem dX10_sums_149 : decode cX10_sums 149 = .ok (.iconst 1, 1) := by decide +kernel
theorem dX10_sums_150 : decode cX10_sums 150 = .ok (.iaload, 1) := by decide +kernel
theorem dX10_sums_151 : decode cX10_sums 151 = .ok (.istore 7, 2) := by decide +kernel
theorem dX10_sums_153 : decode cX10_sums 153 = .ok (.iload 6, 2) := by decide +kernel
theorem dX10_sums_155 : decode cX10_sums 155 = .ok (.iconst (-1), 1) := by decide +kernel
theorem dX10_sums_156 : decode cX10_sums 156 = .ok (.if_icmp .ne 10, 3) := by decide +kernel
theorem dX10_sums_159 : decode cX10_sums 159 = .ok (.aload 9, 2) := by decide +kernel
theorem dX10_sums_161 : decode cX10_sums 161 = .ok (.iconst 3, 1) := by decide +kernel
theorem dX10_sums_162 : decode cX10_sums 162 = .ok (.iaload, 1) := by decide +kernel
theorem dX10_sums_163 : decode cX10_sums 163 = .ok (.goto 12, 3) := by decide +kernel
theorem dX10_sums_166 : decode cX10_sums 166 = .ok (.iload 6, 2) := by decide +kernel
theorem dX10_sums_168 : decode cX10_sums 168 = .ok (.aload 9, 2) := by decide +kernel
theorem dX10_sums_170 : decode cX10_sums 170 = .ok (.iconst 3, 1) := by decide +kernel
theorem dX10_sums_171 : decode cX10_sums 171 = .ok (.iaload, 1) := by decide +kernel
theorem dX10_sums_172 : decode cX10_sums 172 = .ok (.invokestatic 269, 3) := by decide +kernel
theorem dX10_sums_175 : decode cX10_sums 175 = .ok (.istore 6, 2) := by decide +kernel
theorem dX10_sums_177 : decode cX10_sums 177 = .ok (.iinc 8 1, 3) := by decide +kernel
theorem dX10_sums_180 : decode cX10_sums 180 = .ok (.goto (-107), 3) := by decide +kernel
theorem dX10_sums_183 : decode cX10_sums 183 = .ok (.iload_n 2, 1) := by decide +kernel
theorem dX10_sums_184 : decode cX10_sums 184 = .ok (.tableswitch 57 0 4 #[36, 42, 49, 51, 54], 36) := by decide +kernel
theorem dX10_sums_220 : decode cX10_sums 220 = .ok (.aload_n 0, 1) := by decide +kernel
theorem dX10_sums_221 : decode cX10_sums 221 = .ok (.iload_n 1, 1) := by decide +kernel
theorem dX10_sums_222 : decode cX10_sums 222 = .ok (.invokevirtual 340, 3) := by decide +kernel
theorem dX10_sums_225 : decode cX10_sums 225 = .ok (.ireturn, 1) := by decide +kernel
theorem dX10_sums_226 : decode cX10_sums 226 = .ok (.aload_n 0, 1) := by decide +kernel
theorem dX10_sums_227 : decode cX10_sums 227 = .ok (.getfield 93, 3) := by decide +kernel
theorem dX10_sums_230 : decode cX10_sums 230 = .ok (.iload_n 1, 1) := by decide +kernel
theorem dX10_sums_231 : decode cX10_sums 231 = .ok (.iaload, 1) := by decide +kernel
theorem dX10_sums_232 : decode cX10_sums 232 = .ok (.ireturn, 1) := by decide +kernel
theorem dX10_sums_233 : decode cX10_sums 233 = .ok (.iload_n 3, 1) := by decide +kernel
theorem dX10_sums_234 : decode cX10_sums 234 = .ok (.ireturn, 1) := by decide +kernel
theorem dX10_sums_235 : decode cX10_sums 235 = .ok (.iload 4, 2) := by decide +kernel
theorem dX10_sums_237 : decode cX10_sums 237 = .ok (.ireturn, 1) := by decide +kernel
theorem dX10_sums_238 : decode cX10_sums 238 = .ok (.iload 5, 2) := by decide +kernel
theorem dX10_sums_240 : decode cX10_sums 240 = .ok (.ireturn, 1) := by decide +kernel
theorem dX10_sums_241 : decode cX10_sums 241 = .ok (.iload 6, 2) := by decide +kernel
theorem dX10_sums_243 : decode cX10_sums 243 = .ok (.ireturn, 1) := by decide +kernel
theorem dX10_would_0 : decode cX10_would 0 = .ok (.aload_n 0, 1) := by decide +kernel
theorem dX10_would_1 : decode cX10_would 1 = .ok (.iconst 0, 1) := by decide +kernel
theorem dX10_would_2 : decode cX10_would 2 = .ok (.putfield 133, 3) := by decide +kernel
theorem dX10_would_5 : decode cX10_would 5 = .ok (.aload_n 0, 1) := by decide +kernel
theorem dX10_would_6 : decode cX10_would 6 = .ok (.iload_n 1, 1) := by decide +kernel
theorem dX10_would_7 : decode cX10_would 7 = .ok (.iconst 0, 1) := by decide +kernel
theorem dX10_would_8 : decode cX10_would 8 = .ok (.bipush 60, 2) := by decide +kernel
theorem dX10_would_10 : decode cX10_would 10 = .ok (.invokestatic 167, 3) := by decide +kernel
theorem dX10_would_13 : decode cX10_would 13 = .ok (.ifCond .eq 34, 3) := by decide +kernel
theorem dX10_would_16 : decode cX10_would 16 = .ok (.iload_n 2, 1) := by decide +kernel
theorem dX10_would_17 : decode cX10_would 17 = .ok (.iconst 0, 1) := by decide +kernel
theorem dX10_would_18 : decode cX10_would 18 = .ok (.bipush 20, 2) := by decide +kernel
theorem dX10_would_20 : decode cX10_would 20 = .ok (.invokestatic 167, 3) := by decide +kernel
theorem dX10_would_23 : decode cX10_would 23 = .ok (.ifCond .eq 24, 3) := by decide +kernel
theorem dX10_would_26 : decode cX10_would 26 = .ok (.iload_n 3, 1) := by decide +kernel
theorem dX10_would_27 : decode cX10_would 27 = .ok (.bipush 17, 2) := by decide +kernel
theorem dX10_would_29 : decode cX10_would 29 = .ok (.bipush 99, 2) := by decide +kernel
theorem dX10_would_31 : decode cX10_would 31 = .ok (.invokestatic 167, 3) := by decide +kernel
theorem dX10_would_34 : decode cX10_would 34 = .ok (.ifCond .eq 13, 3) := by decide +kernel
theorem dX10_would_37 : decode cX10_would 37 = .ok (.iload 4, 2) := by decide +kernel
theorem dX10_would_39 : decode cX10_would 39 = .ok (.iconst 0, 1) := by decide +kernel
theorem dX10_would_40 : decode cX10_would 40 = .ok (.iconst 1, 1) := by decide +kernel
theorem dX10_would_41 : decode cX10_would 41 = .ok (.invokestatic 167, 3) := by decide +kernel
theorem dX10_would_44 : decode cX10_would 44 = .ok (.ifCond .ne 7, 3) := by decide +kernel
theorem dX10_would_47 : decode cX10_would 47 = .ok (.iconst 1, 1) := by decide +kernel
theorem dX10_would_48 : decode cX10_would 48 = .ok (.goto 4, 3) := by decide +kernel
theorem dX10_would_51 : decode cX10_would 51 = .ok (.iconst 0, 1) := by decide +kernel
theorem dX10_would_52 : decode cX10_would 52 = .ok (.iconst 1, 1) := by decide +kernel
theorem dX10_would_53 : decode cX10_would 53 = .ok (.iconst 1, 1) := by decide +kernel
theorem dX10_would_54 : decode cX10_would 54 = .ok (.invokevirtual 212, 3) := by decide +kernel
theorem dX10_would_57 : decode cX10_would 57 = .ok (.ifCond .eq 5, 3) := by decide +kernel
theorem dX10_would_60 : decode cX10_would 60 = .ok (.iconst 0, 1) := by decide +kernel
theorem dX10_would_61 : decode cX10_would 61 = .ok (.ireturn, 1) := by decide +kernel
theorem dX10_would_62 : decode cX10_would 62 = .ok (.iconst 0, 1) := by decide +kernel
theorem dX10_would_63 : decode cX10_would 63 = .ok (.istore 5, 2) := by decide +kernel
theorem dX10_would_65 : decode cX10_would 65 = .ok (.iload 5, 2) := by decide +kernel
theorem dX10_would_67 : decode cX10_would 67 = .ok (.bipush 12, 2) := by decide +kernel
theorem dX10_would_69 : decode cX10_would 69 = .ok (.if_icmp .ge 17, 3) := by decide +kernel
theorem dX10_would_72 : decode cX10_would 72 = .ok (.aload_n 0, 1) := by decide +kernel
theorem dX10_would_73 : decode cX10_would 73 = .ok (.getfield 64, 3) := by decide +kernel
theorem dX10_would_76 : decode cX10_would 76 = .ok (.iload 5, 2) := by decide +kernel
theorem dX10_would_78 : decode cX10_would 78 = .ok (.iconst 0, 1) := by decide +kernel
theorem dX10_would_79 : decode cX10_would 79 = .ok (.iastore, 1) := by decide +kernel
theorem dX10_would_80 : decode cX10_would 80 = .ok (.iinc 5 1, 3) := by decide +kernel
theorem dX10_would_83 : decode cX10_would 83 = .ok (.goto (-18), 3) := by decide +kernel
theorem dX10_would_86 : decode cX10_would 86 = .ok (.aload_n 0, 1) := by decide +kernel
theorem dX10_would_87 : decode cX10_would 87 = .ok (.getfield 64, 3) := by decide +kernel
theorem dX10_would_90 : decode cX10_would 90 = .ok (.iconst 0, 1) := by decide +kernel
theorem dX10_would_91 : decode cX10_would 91 = .ok (.iload_n 1, 1) := by decide +kernel
theorem dX10_would_92 : decode cX10_would 92 = .ok (.iastore, 1) := by decide +kernel
theorem dX10_would_93 : decode cX10_would 93 = .ok (.aload_n 0, 1) := by decide +kernel
theorem dX10_would_94 : decode cX10_would 94 = .ok (.getfield 64, 3) := by decide +kernel
theorem dX10_would_97 : decode cX10_would 97 = .ok (.iconst 1, 1) := by decide +kernel
theorem dX10_would_98 : decode cX10_would 98 = .ok (.aload_n 0, 1) := by decide +kernel
theorem dX10_would_99 : decode cX10_would 99 = .ok (.getfield 41, 3) := by decide +kernel
theorem dX10_would_102 : decode cX10_would 102 = .ok (.bipush 24, 2) := by decide +kernel
theorem dX10_would_104 : decode cX10_would 104 = .ok (.iaload, 1) := by decide +kernel
theorem dX10_would_105 : decode cX10_would 105 = .ok (.iastore, 1) := by decide +kernel
theorem dX10_would_106 : decode cX10_would 106 = .ok (.aload_n 0, 1) := by decide +kernel
theorem dX10_would_107 : decode cX10_would 107 = .ok (.getfield 64, 3) := by decide +kernel
theorem dX10_would_110 : decode cX10_would 110 = .ok (.iconst 2, 1) := by decide +kernel
theorem dX10_would_111 : decode cX10_would 111 = .ok (.iload_n 2, 1) := by decide +kernel
theorem dX10_would_112 : decode cX10_would 112 = .ok (.iastore, 1) := by decide +kernel
theorem dX10_would_113 : decode cX10_would 113 = .ok (.aload_n 0, 1) := by decide +kernel
theorem dX10_would_114 : decode cX10_would 114 = .ok (.getfield 64, 3) := by decide +kernel
theorem dX10_would_117 : decode cX10_would 117 = .ok (.iconst 3, 1) := by decide +kernel
theorem dX10_would_118 : decode cX10_would 118 = .ok (.iload_n 3, 1) := by decide +kernel
theorem dX10_would_119 : decode cX10_would 119 = .ok (.iastore, 1) := by decide +kernel
theorem dX10_would_120 : decode cX10_would 120 = .ok (.aload_n 0, 1) := by decide +kernel
theorem dX10_would_121 : decode cX10_would 121 = .ok (.getfield 64, 3) := by decide +kernel
theorem dX10_would_124 : decode cX10_would 124 = .ok (.iconst 4, 1) := by decide +kernel
theorem dX10_would_125 : decode cX10_would 125 = .ok (.iload 4, 2) := by decide +kernel
theorem dX10_would_127 : decode cX10_would 127 = .ok (.iastore, 1) := by decide +kernel
theorem dX10_would_128 : decode cX10_would 128 = .ok (.aload_n 0, 1) := by decide +kernel
theorem dX10_would_129 : decode cX10_would 129 = .ok (.getfield 64, 3) := by decide +kernel
theorem dX10_would_132 : decode cX10_would 132 = .ok (.bipush 8, 2) := by decide +kernel
theorem dX10_would_134 : decode cX10_would 134 = .ok (.bipush 99, 2) := by decide +kernel
theorem dX10_would_136 : decode cX10_would 136 = .ok (.iastore, 1) := by decide +kernel
theorem dX10_would_137 : decode cX10_would 137 = .ok (.aload_n 0, 1) := by decide +kernel
theorem dX10_would_138 : decode cX10_would 138 = .ok (.invokevirtual 328, 3) := by decide +kernel
theorem dX10_would_141 : decode cX10_would 141 = .ok (.ireturn, 1) := by decide +kernel
theorem dX10_notTwo_0 : decode cX10_notTwo 0 = .ok (.aload_n 0, 1) := by decide +kernel
theorem dX10_notTwo_1 : decode cX10_notTwo 1 = .ok (.aload_n 0, 1) := by decide +kernel
theorem dX10_notTwo_2 : decode cX10_notTwo 2 = .ok (.getfield 23, 3) := by decide +kernel
theorem dX10_notTwo_5 : decode cX10_notTwo 5 = .ok (.iconst 1, 1) := by decide +kernel
theorem dX10_notTwo_6 : decode cX10_notTwo 6 = .ok (.iaload, 1) := by decide +kernel
theorem dX10_notTwo_7 : decode cX10_notTwo 7 = .ok (.iconst 2, 1) := by decide +kernel
theorem dX10_notTwo_8 : decode cX10_notTwo 8 = .ok (.if_icmp .ge 7, 3) := by decide +kernel
theorem dX10_notTwo_11 : decode cX10_notTwo 11 = .ok (.iconst 1, 1) := by decide +kernel
theorem dX10_notTwo_12 : decode cX10_notTwo 12 = .ok (.goto 4, 3) := by decide +kernel
theorem dX10_notTwo_15 : decode cX10_notTwo 15 = .ok (.iconst 0, 1) := by decide +kernel
theorem dX10_notTwo_16 : decode cX10_notTwo 16 = .ok (.iload_n 1, 1) := by decide +kernel
theorem dX10_notTwo_17 : decode cX10_notTwo 17 = .ok (.iconst 2, 1) := by decide +kernel
theorem dX10_notTwo_18 : decode cX10_notTwo 18 = .ok (.invokevirtual 212, 3) := by decide +kernel
theorem dX10_notTwo_21 : decode cX10_notTwo 21 = .ok (.ireturn, 1) := by decide +kernel
theorem dX10_costBy_0 : decode cX10_costBy 0 = .ok (.aload_n 0, 1) := by decide +kernel
theorem dX10_costBy_1 : decode cX10_costBy 1 = .ok (.iload_n 1, 1) := by decide +kernel
theorem dX10_costBy_2 : decode cX10_costBy 2 = .ok (.ifCond .ne 7, 3) := by decide +kernel
theorem dX10_costBy_5 : decode cX10_costBy 5 = .ok (.iload_n 2, 1) := by decide +kernel
theorem dX10_costBy_6 : decode cX10_costBy 6 = .ok (.goto 4, 3) := by decide +kernel
theorem dX10_costBy_9 : decode cX10_costBy 9 = .ok (.iload_n 3, 1) := by decide +kernel
theorem dX10_costBy_10 : decode cX10_costBy 10 = .ok (.iload_n 1, 1) := by decide +kernel
theorem dX10_costBy_11 : decode cX10_costBy 11 = .ok (.ifCond .ne 7, 3) := by decide +kernel
theorem dX10_costBy_14 : decode cX10_costBy 14 = .ok (.iload_n 3, 1) := by decide +kernel
theorem dX10_costBy_15 : decode cX10_costBy 15 = .ok (.goto 4, 3) := by decide +kernel
theorem dX10_costBy_18 : decode cX10_costBy 18 = .ok (.iload_n 2, 1) := by decide +kernel
theorem dX10_costBy_19 : decode cX10_costBy 19 = .ok (.invokevirtual 334, 3) := by decide +kernel
theorem dX10_costBy_22 : decode cX10_costBy 22 = .ok (.aload_n 0, 1) := by decide +kernel
theorem dX10_costBy_23 : decode cX10_costBy 23 = .ok (.iload_n 1, 1) := by decide +kernel
theorem dX10_costBy_24 : decode cX10_costBy 24 = .ok (.invokevirtual 352, 3) := by decide +kernel
theorem dX10_costBy_27 : decode cX10_costBy 27 = .ok (.ireturn, 1) := by decide +kernel
theorem dX10_cost_0 : decode cX10_cost 0 = .ok (.aload_n 0, 1) := by decide +kernel
theorem dX10_cost_1 : decode cX10_cost 1 = .ok (.iconst 0, 1) := by decide +kernel
theorem dX10_cost_2 : decode cX10_cost 2 = .ok (.putfield 133, 3) := by decide +kernel
theorem dX10_cost_5 : decode cX10_cost 5 = .ok (.aload_n 0, 1) := by decide +kernel
theorem dX10_cost_6 : decode cX10_cost 6 = .ok (.aload_n 0, 1) := by decide +kernel
theorem dX10_cost_7 : decode cX10_cost 7 = .ok (.iload_n 1, 1) := by decide +kernel
theorem dX10_cost_8 : decode cX10_cost 8 = .ok (.invokevirtual 343, 3) := by decide +kernel
theorem dX10_cost_11 : decode cX10_cost 11 = .ok (.ifCond .ne 7, 3) := by decide +kernel
theorem dX10_cost_14 : decode cX10_cost 14 = .ok (.iconst 1, 1) := by decide +kernel
theorem dX10_cost_15 : decode cX10_cost 15 = .ok (.goto 4, 3) := by decide +kernel
theorem dX10_cost_18 : decode cX10_cost 18 = .ok (.iconst 0, 1) := by decide +kernel
theorem dX10_cost_19 : decode cX10_cost 19 = .ok (.iconst 1, 1) := by decide +kernel
theorem dX10_cost_20 : decode cX10_cost 20 = .ok (.iconst 0, 1) := by decide +kernel
theorem dX10_cost_21 : decode cX10_cost 21 = .ok (.invokevirtual 212, 3) := by decide +kernel
theorem dX10_cost_24 : decode cX10_cost 24 = .ok (.ifCond .ne 45, 3) := by decide +kernel
theorem dX10_cost_27 : decode cX10_cost 27 = .ok (.aload_n 0, 1) := by decide +kernel
theorem dX10_cost_28 : decode cX10_cost 28 = .ok (.iload_n 2, 1) := by decide +kernel
theorem dX10_cost_29 : decode cX10_cost 29 = .ok (.iconst 0, 1) := by decide +kernel
theorem dX10_cost_30 : decode cX10_cost 30 = .ok (.bipush 60, 2) := by decide +kernel
theorem dX10_cost_32 : decode cX10_cost 32 = .ok (.invokestatic 167, 3) := by decide +kernel
theorem dX10_cost_35 : decode cX10_cost 35 = .ok (.ifCond .eq 13, 3) := by decide +kernel
theorem dX10_cost_38 : decode cX10_cost 38 = .ok (.iload_n 3, 1) := by decide +kernel
theorem dX10_cost_39 : decode cX10_cost 39 = .ok (.iconst 0, 1) := by decide +kernel
theorem dX10_cost_40 : decode cX10_cost 40 = .ok (.bipush 60, 2) := by decide +kernel
theorem dX10_cost_42 : decode cX10_cost 42 = .ok (.invokestatic 167, 3) := by decide +kernel
theorem dX10_cost_45 : decode cX10_cost 45 = .ok (.ifCond .ne 7, 3) := by decide +kernel
theorem dX10_cost_48 : decode cX10_cost 48 = .ok (.iconst 1, 1) := by decide +kernel
theorem dX10_cost_49 : decode cX10_cost 49 = .ok (.goto 4, 3) := by decide +kernel
theorem dX10_cost_52 : decode cX10_cost 52 = .ok (.iconst 0, 1) := by decide +kernel
theorem dX10_cost_53 : decode cX10_cost 53 = .ok (.iconst 2, 1) := by decide +kernel
theorem dX10_cost_54 : decode cX10_cost 54 = .ok (.iconst 1, 1) := by decide +kernel
theorem dX10_cost_55 : decode cX10_cost 55 = .ok (.invokevirtual 212, 3) := by decide +kernel
theorem dX10_cost_58 : decode cX10_cost 58 = .ok (.ifCond .ne 11, 3) := by decide +kernel
theorem dX10_cost_61 : decode cX10_cost 61 = .ok (.aload_n 0, 1) := by decide +kernel
theorem dX10_cost_62 : decode cX10_cost 62 = .ok (.iconst 3, 1) := by decide +kernel
theorem dX10_cost_63 : decode cX10_cost 63 = .ok (.invokevirtual 355, 3) := by decide +kernel
theorem dX10_cost_66 : decode cX10_cost 66 = .ok (.ifCond .eq 5, 3) := by decide +kernel
theorem dX10_cost_69 : decode cX10_cost 69 = .ok (.iconst 0, 1) := by decide +kernel
theorem dX10_cost_70 : decode cX10_cost 70 = .ok (.ireturn, 1) := by decide +kernel
theorem dX10_cost_71 : decode cX10_cost 71 = .ok (.aload_n 0, 1) := by decide +kernel
theorem dX10_cost_72 : decode cX10_cost 72 = .ok (.iload_n 1, 1) := by decide +kernel
theorem dX10_cost_73 : decode cX10_cost 73 = .ok (.iload_n 2, 1) := by decide +kernel
theorem dX10_cost_74 : decode cX10_cost 74 = .ok (.iload_n 3, 1) := by decide +kernel
theorem dX10_cost_75 : decode cX10_cost 75 = .ok (.invokevirtual 358, 3) := by decide +kernel
theorem dX10_cost_78 : decode cX10_cost 78 = .ok (.ireturn, 1) := by decide +kernel
theorem dX10_isRest_0 : decode cX10_isRest 0 = .ok (.iconst 0, 1) := by decide +kernel
theorem dX10_isRest_1 : decode cX10_isRest 1 = .ok (.istore 4, 2) := by decide +kernel
theorem dX10_isRest_3 : decode cX10_isRest 3 = .ok (.iload 4, 2) := by decide +kernel
theorem dX10_isRest_5 : decode cX10_isRest 5 = .ok (.iload_n 3, 1) := by decide +kernel
theorem dX10_isRest_6 : decode cX10_isRest 6 = .ok (.if_icmp .gt 59, 3) := by decide +kernel
theorem dX10_isRest_9 : decode cX10_isRest 9 = .ok (.aload_n 0, 1) := by decide +kernel
theorem dX10_isRest_10 : decode cX10_isRest 10 = .ok (.getfield 111, 3) := by decide +kernel
theorem dX10_isRest_13 : decode cX10_isRest 13 = .ok (.iconst 0, 1) := by decide +kernel
theorem dX10_isRest_14 : decode cX10_isRest 14 = .ok (.aaload, 1) := by decide +kernel
theorem dX10_isRest_15 : decode cX10_isRest 15 = .ok (.iload 4, 2) := by decide +kernel
theorem dX10_isRest_17 : decode cX10_isRest 17 = .ok (.aaload, 1) := by decide +kernel
theorem dX10_isRest_18 : decode cX10_isRest 18 = .ok (.iload_n 2, 1) := by decide +kernel
theorem dX10_isRest_19 : decode cX10_isRest 19 = .ok (.iaload, 1) := by decide +kernel
theorem dX10_isRest_20 : decode cX10_isRest 20 = .ok (.aload_n 0, 1) := by decide +kernel
theorem dX10_isRest_21 : decode cX10_isRest 21 = .ok (.getfield 111, 3) := by decide +kernel
theorem dX10_isRest_24 : decode cX10_isRest 24 = .ok (.iconst 0, 1) := by decide +kernel
theorem dX10_isRest_25 : decode cX10_isRest 25 = .ok (.aaload, 1) := by decide +kernel
theorem dX10_isRest_26 : decode cX10_isRest 26 = .ok (.iload_n 1, 1) := by decide +kernel
theorem dX10_isRest_27 : decode cX10_isRest 27 = .ok (.aaload, 1) := by decide +kernel
theorem dX10_isRest_28 : decode cX10_isRest 28 = .ok (.iload_n 2, 1) := by decide +kernel
theorem dX10_isRest_29 : decode cX10_isRest 29 = .ok (.iaload, 1) := by decide +kernel
theorem dX10_isRest_30 : decode cX10_isRest 30 = .ok (.if_icmp .lt 27, 3) := by decide +kernel
theorem dX10_isRest_33 : decode cX10_isRest 33 = .ok (.aload_n 0, 1) := by decide +kernel
theorem dX10_isRest_34 : decode cX10_isRest 34 = .ok (.getfield 111, 3) := by decide +kernel
theorem dX10_isRest_37 : decode cX10_isRest 37 = .ok (.iconst 1, 1) := by decide +kernel
theorem dX10_isRest_38 : decode cX10_isRest 38 = .ok (.aaload, 1) := by decide +kernel
theorem dX10_isRest_39 : decode cX10_isRest 39 = .ok (.iload_n 1, 1) := by decide +kernel
theorem dX10_isRest_40 : decode cX10_isRest 40 = .ok (.aaload, 1) := by decide +kernel
theorem dX10_isRest_41 : decode cX10_isRest 41 = .ok (.iload 4, 2) := by decide +kernel
theorem dX10_isRest_43 : decode cX10_isRest 43 = .ok (.iaload, 1) := by decide +kernel
theorem dX10_isRest_44 : decode cX10_isRest 44 = .ok (.aload_n 0, 1) := by decide +kernel
theorem dX10_isRest_45 : decode cX10_isRest 45 = .ok (.getfield 111, 3) := by decide +kernel
theorem dX10_isRest_48 : decode cX10_isRest 48 = .ok (.iconst 1, 1) := by decide +kernel
theorem dX10_isRest_49 : decode cX10_isRest 49 = .ok (.aaload, 1) := by decide +kernel
theorem dX10_isRest_50 : decode cX10_isRest 50 = .ok (.iload_n 1, 1) := by decide +kernel
theorem dX10_isRest_51 : decode cX10_isRest 51 = .ok (.aaload, 1) := by decide +kernel
theorem dX10_isRest_52 : decode cX10_isRest 52 = .ok (.iload_n 2, 1) := by decide +kernel
theorem dX10_isRest_53 : decode cX10_isRest 53 = .ok (.iaload, 1) := by decide +kernel
theorem dX10_isRest_54 : decode cX10_isRest 54 = .ok (.if_icmp .ge 5, 3) := by decide +kernel
theorem dX10_isRest_57 : decode cX10_isRest 57 = .ok (.iconst 0, 1) := by decide +kernel
theorem dX10_isRest_58 : decode cX10_isRest 58 = .ok (.ireturn, 1) := by decide +kernel
theorem dX10_isRest_59 : decode cX10_isRest 59 = .ok (.iinc 4 1, 3) := by decide +kernel
theorem dX10_isRest_62 : decode cX10_isRest 62 = .ok (.goto (-59), 3) := by decide +kernel
theorem dX10_isRest_65 : decode cX10_isRest 65 = .ok (.iconst 1, 1) := by decide +kernel
theorem dX10_isRest_66 : decode cX10_isRest 66 = .ok (.ireturn, 1) := by decide +kernel
theorem dX10_duel_0 : decode cX10_duel 0 = .ok (.aload_n 0, 1) := by decide +kernel
theorem dX10_duel_1 : decode cX10_duel 1 = .ok (.iconst 0, 1) := by decide +kernel
theorem dX10_duel_2 : decode cX10_duel 2 = .ok (.putfield 133, 3) := by decide +kernel
theorem dX10_duel_5 : decode cX10_duel 5 = .ok (.aload_n 0, 1) := by decide +kernel
theorem dX10_duel_6 : decode cX10_duel 6 = .ok (.iload_n 1, 1) := by decide +kernel
theorem dX10_duel_7 : decode cX10_duel 7 = .ok (.iconst 0, 1) := by decide +kernel
theorem dX10_duel_8 : decode cX10_duel 8 = .ok (.bipush 20, 2) := by decide +kernel
theorem dX10_duel_10 : decode cX10_duel 10 = .ok (.invokestatic 167, 3) := by decide +kernel
theorem dX10_duel_13 : decode cX10_duel 13 = .ok (.ifCond .eq 12, 3) := by decide +kernel
theorem dX10_duel_16 : decode cX10_duel 16 = .ok (.iload_n 2, 1) := by decide +kernel
theorem dX10_duel_17 : decode cX10_duel 17 = .ok (.iconst 0, 1) := by decide +kernel
theorem dX10_duel_18 : decode cX10_duel 18 = .ok (.iconst 3, 1) := by decide +kernel
theorem dX10_duel_19 : decode cX10_duel 19 = .ok (.invokestatic 167, 3) := by decide +kernel
theorem dX10_duel_22 : decode cX10_duel 22 = .ok (.ifCond .ne 7, 3) := by decide +kernel
theorem dX10_duel_25 : decode cX10_duel 25 = .ok (.iconst 1, 1) := by decide +kernel
theorem dX10_duel_26 : decode cX10_duel 26 = .ok (.goto 4, 3) := by decide +kernel
theorem dX10_duel_29 : decode cX10_duel 29 = .ok (.iconst 0, 1) := by decide +kernel
theorem dX10_duel_30 : decode cX10_duel 30 = .ok (.iconst 1, 1) := by decide +kernel
theorem dX10_duel_31 : decode cX10_duel 31 = .ok (.iconst 1, 1) := by decide +kernel
theorem dX10_duel_32 : decode cX10_duel 32 = .ok (.invokevirtual 212, 3) := by decide +kernel
theorem dX10_duel_35 : decode cX10_duel 35 = .ok (.ifCond .ne 11, 3) := by decide +kernel
theorem dX10_duel_38 : decode cX10_duel 38 = .ok (.aload_n 0, 1) := by decide +kernel
theorem dX10_duel_39 : decode cX10_duel 39 = .ok (.iconst 2, 1) := by decide +kernel
theorem dX10_duel_40 : decode cX10_duel 40 = .ok (.invokevirtual 355, 3) := by decide +kernel
theorem dX10_duel_43 : decode cX10_duel 43 = .ok (.ifCond .eq 5, 3) := by decide +kernel
theorem dX10_duel_46 : decode cX10_duel 46 = .ok (.iconst 0, 1) := by decide +kernel
theorem dX10_duel_47 : decode cX10_duel 47 = .ok (.ireturn, 1) := by decide +kernel
theorem dX10_duel_48 : decode cX10_duel 48 = .ok (.iconst 0, 1) := by decide +kernel
theorem dX10_duel_49 : decode cX10_duel 49 = .ok (.istore_n 3, 1) := by decide +kernel
theorem dX10_duel_50 : decode cX10_duel 50 = .ok (.iconst (-1), 1) := by decide +kernel
theorem dX10_duel_51 : decode cX10_duel 51 = .ok (.istore 4, 2) := by decide +kernel
theorem dX10_duel_53 : decode cX10_duel 53 = .ok (.iconst (-1), 1) := by decide +kernel
theorem dX10_duel_54 : decode cX10_duel 54 = .ok (.istore 5, 2) := by decide +kernel
theorem dX10_duel_56 : decode cX10_duel 56 = .ok (.iconst 0, 1) := by decide +kernel
theorem dX10_duel_57 : decode cX10_duel 57 = .ok (.istore 6, 2) := by decide +kernel
theorem dX10_duel_59 : decode cX10_duel 59 = .ok (.iconst 0, 1) := by decide +kernel
theorem dX10_duel_60 : decode cX10_duel 60 = .ok (.istore 7, 2) := by decide +kernel
theorem dX10_duel_62 : decode cX10_duel 62 = .ok (.iload 7, 2) := by decide +kernel
theorem dX10_duel_64 : decode cX10_duel 64 = .ok (.iload_n 1, 1) := by decide +kernel
theorem dX10_duel_65 : decode cX10_duel 65 = .ok (.if_icmp .gt 114, 3) := by decide +kernel
theorem dX10_duel_68 : decode cX10_duel 68 = .ok (.iconst 0, 1) := by decide +kernel
theorem dX10_duel_69 : decode cX10_duel 69 = .ok (.istore 8, 2) := by decide +kernel
theorem dX10_duel_71 : decode cX10_duel 71 = .ok (.iload 8, 2) := by decide +kernel
theorem dX10_duel_73 : decode cX10_duel 73 = .ok (.iload_n 1, 1) := by decide +kernel
theorem dX10_duel_74 : decode cX10_duel 74 = .ok (.if_icmp .gt 99, 3) := by decide +kernel
theorem dX10_duel_77 : decode cX10_duel 77 = .ok (.aload_n 0, 1) := by decide +kernel
theorem dX10_duel_78 : decode cX10_duel 78 = .ok (.iload 7, 2) := by decide +kernel
theorem dX10_duel_80 : decode cX10_duel 80 = .ok (.iload 8, 2) := by decide +kernel
theorem dX10_duel_82 : decode cX10_duel 82 = .ok (.invokevirtual 334, 3) := by decide +kernel
theorem dX10_duel_85 : decode cX10_duel 85 = .ok (.aload_n 0, 1) := by decide +kernel
theorem dX10_duel_86 : decode cX10_duel 86 = .ok (.getfield 111, 3) := by decide +kernel
theorem dX10_duel_89 : decode cX10_duel 89 = .ok (.iconst 0, 1) := by decide +kernel
theorem dX10_duel_90 : decode cX10_duel 90 = .ok (.aaload, 1) := by decide +kernel
theorem dX10_duel_91 : decode cX10_duel 91 = .ok (.iload 7, 2) := by decide +kernel
theorem dX10_duel_93 : decode cX10_duel 93 = .ok (.aaload, 1) := by decide +kernel
theorem dX10_duel_94 : decode cX10_duel 94 = .ok (.iload 8, 2) := by decide +kernel
theorem dX10_duel_96 : decode cX10_duel 96 = .ok (.aload_n 0, 1) := by decide +kernel
theorem dX10_duel_97 : decode cX10_duel 97 = .ok (.iconst 0, 1) := by decide +kernel
theorem dX10_duel_98 : decode cX10_duel 98 = .ok (.invokevirtual 352, 3) := by decide +kernel
theorem dX10_duel_101 : decode cX10_duel 101 = .ok (.iastore, 1) := by decide +kernel
theorem dX10_duel_102 : decode cX10_duel 102 = .ok (.aload_n 0, 1) := by decide +kernel
theorem dX10_duel_103 : decode cX10_duel 103 = .ok (.getfield 111, 3) := by decide +kernel
theorem dX10_duel_106 : decode cX10_duel 106 = .ok (.iconst 1, 1) := by decide +kernel
theorem dX10_duel_107 : decode cX10_duel 107 = .ok (.aaload, 1) := by decide +kernel
theorem dX10_duel_108 : decode cX10_duel 108 = .ok (.iload 7, 2) := by decide +kernel
theorem dX10_duel_110 : decode cX10_duel 110 = .ok (.aaload, 1) := by decide +kernel
theorem dX10_duel_111 : decode cX10_duel 111 = .ok (.iload 8, 2) := by decide +kernel
theorem dX10_duel_113 : decode cX10_duel 113 = .ok (.aload_n 0, 1) := by decide +kernel
theorem dX10_duel_114 : decode cX10_duel 114 = .ok (.iconst 1, 1) := by decide +kernel
theorem dX10_duel_115 : decode cX10_duel 115 = .ok (.invokevirtual 352, 3) := by decide +kernel
theorem dX10_duel_118 : decode cX10_duel 118 = .ok (.iastore, 1) := by decide +kernel
theorem dX10_duel_119 : decode cX10_duel 119 = .ok (.iload 5, 2) := by decide +kernel
theorem dX10_duel_121 : decode cX10_duel 121 = .ok (.iconst (-1), 1) := by decide +kernel
theorem dX10_duel_122 : decode cX10_duel 122 = .ok (.if_icmp .eq 22, 3) := by decide +kernel
theorem dX10_duel_125 : decode cX10_duel 125 = .ok (.aload_n 0, 1) := by decide +kernel
theorem dX10_duel_126 : decode cX10_duel 126 = .ok (.iconst 0, 1) := by decide +kernel
theorem dX10_duel_127 : decode cX10_duel 127 = .ok (.invokevirtual 352, 3) := by decide +kernel
theorem dX10_duel_130 : decode cX10_duel 130 = .ok (.aload_n 0, 1) := by decide +kernel
theorem dX10_duel_131 : decode cX10_duel 131 = .ok (.iconst 1, 1) := by decide +kernel
theorem dX10_duel_132 : decode cX10_duel 132 = .ok (.invokevirtual 352, 3) := by decide +kernel
theorem dX10_duel_135 : decode cX10_duel 135 = .ok (.iadd, 1) := by decide +kernel
theorem dX10_duel_136 : decode cX10_duel 136 = .ok (.iload 6, 2) := by decide +kernel
theorem dX10_duel_138 : decode cX10_duel 138 = .ok (.if_icmp .lt 6, 3) := by decide +kernel
theorem dX10_duel_141 : decode cX10_duel 141 = .ok (.goto 26, 3) := by decide +kernel
theorem dX10_duel_144 : decode cX10_duel 144 = .ok (.bipush 100, 2) := by decide +kernel
theorem dX10_duel_146 : decode cX10_duel 146 = .ok (.iload 7, 2) := by decide +kernel
theorem dX10_duel_148 : decode cX10_duel 148 = .ok (.imul, 1) := by decide +kernel
theorem dX10_duel_149 : decode cX10_duel 149 = .ok (.iload 8, 2) := by decide +kernel
theorem dX10_duel_151 : decode cX10_duel 151 = .ok (.iadd, 1) := by decide +kernel
theorem dX10_duel_152 : decode cX10_duel 152 = .ok (.istore 5, 2) := by decide +kernel
theorem dX10_duel_154 : decode cX10_duel 154 = .ok (.aload_n 0, 1) := by decide +kernel
theorem dX10_duel_155 : decode cX10_duel 155 = .ok (.iconst 0, 1) := by decide +kernel
theorem dX10_duel_156 : decode cX10_duel 156 = .ok (.invokevirtual 352, 3) := by decide +kernel
theorem dX10_duel_159 : decode cX10_duel 159 = .ok (.aload_n 0, 1) := by decide +kernel
theorem dX10_duel_160 : decode cX10_duel 160 = .ok (.iconst 1, 1) := by decide +kernel
theorem dX10_duel_161 : decode cX10_duel 161 = .ok (.invokevirtual 352, 3) := by decide +kernel
theorem dX10_duel_164 : decode cX10_duel 164 = .ok (.iadd, 1) := by decide +kernel
theorem dX10_duel_165 : decode cX10_duel 165 = .ok (.istore 6, 2) := by decide +kernel
theorem dX10_duel_167 : decode cX10_duel 167 = .ok (.iinc 8 1, 3) := by decide +kernel
theorem dX10_duel_170 : decode cX10_duel 170 = .ok (.goto (-99), 3) := by decide +kernel
theorem dX10_duel_173 : decode cX10_duel 173 = .ok (.iinc 7 1, 3) := by decide +kernel
theorem dX10_duel_176 : decode cX10_duel 176 = .ok (.goto (-114), 3) := by decide +kernel
theorem dX10_duel_179 : decode cX10_duel 179 = .ok (.iconst 0, 1) := by decide +kernel
theorem dX10_duel_180 : decode cX10_duel 180 = .ok (.istore 7, 2) := by decide +kernel
theorem dX10_duel_182 : decode cX10_duel 182 = .ok (.iload 7, 2) := by decide +kernel
theorem dX10_duel_184 : decode cX10_duel 184 = .ok (.iload_n 1, 1) := by decide +kernel
theorem dX10_duel_185 : decode cX10_duel 185 = .ok (.if_icmp .gt 61, 3) := by decide +kernel
theorem dX10_duel_188 : decode cX10_duel 188 = .ok (.iconst 0, 1) := by decide +kernel
theorem dX10_duel_189 : decode cX10_duel 189 = .ok (.istore 8, 2) := by decide +kernel
theorem dX10_duel_191 : decode cX10_duel 191 = .ok (.iload 8, 2) := by decide +kernel
theorem dX10_duel_193 : decode cX10_duel 193 = .ok (.iload_n 1, 1) := by decide +kernel
theorem dX10_duel_194 : decode cX10_duel 194 = .ok (.if_icmp .gt 46, 3) := by decide +kernel
theorem dX10_duel_197 : decode cX10_duel 197 = .ok (.aload_n 0, 1) := by decide +kernel
theorem dX10_duel_198 : decode cX10_duel 198 = .ok (.iload 7, 2) := by decide +kernel
theorem dX10_duel_200 : decode cX10_duel 200 = .ok (.iload 8, 2) := by decide +kernel
theorem dX10_duel_202 : decode cX10_duel 202 = .ok (.iload_n 1, 1) := by decide +kernel
theorem dX10_duel_203 : decode cX10_duel 203 = .ok (.invokevirtual 361, 3) := by decide +kernel
theorem dX10_duel_206 : decode cX10_duel 206 = .ok (.ifCond .ne 6, 3) := by decide +kernel
theorem dX10_duel_209 : decode cX10_duel 209 = .ok (.goto 25, 3) := by decide +kernel
theorem dX10_duel_212 : decode cX10_duel 212 = .ok (.iload_n 3, 1) := by decide +kernel
theorem dX10_duel_213 : decode cX10_duel 213 = .ok (.ifCond .ne 14, 3) := by decide +kernel
theorem dX10_duel_216 : decode cX10_duel 216 = .ok (.bipush 100, 2) := by decide +kernel
theorem dX10_duel_218 : decode cX10_duel 218 = .ok (.iload 7, 2) := by decide +kernel
theorem dX10_duel_220 : decode cX10_duel 220 = .ok (.imul, 1) := by decide +kernel
theorem dX10_duel_221 : decode cX10_duel 221 = .ok (.iload 8, 2) := by decide +kernel
theorem dX10_duel_223 : decode cX10_duel 223 = .ok (.iadd, 1) := by decide +kernel
theorem dX10_duel_224 : decode cX10_duel 224 = .ok (.goto 5, 3) := by decide +kernel
theorem dX10_duel_227 : decode cX10_duel 227 = .ok (.iload 4, 2) := by decide +kernel
theorem dX10_duel_229 : decode cX10_duel 229 = .ok (.istore 4, 2) := by decide +kernel
theorem dX10_duel_231 : decode cX10_duel 231 = .ok (.iinc 3 1, 3) := by decide +kernel
theorem dX10_duel_234 : decode cX10_duel 234 = .ok (.iinc 8 1, 3) := by decide +kernel
theorem dX10_duel_237 : decode cX10_duel 237 = .ok (.goto (-46), 3) := by decide +kernel
theorem dX10_duel_240 : decode cX10_duel 240 = .ok (.iinc 7 1, 3) := by decide +kernel
theorem dX10_duel_243 : decode cX10_duel 243 = .ok (.goto (-61), 3) := by decide +kernel
theorem dX10_duel_246 : decode cX10_duel 246 = .ok (.iload_n 2, 1) := by decide +kernel
theorem dX10_duel_247 : decode cX10_duel 247 = .ok (.ifCond .ne 7, 3) := by decide +kernel
theorem dX10_duel_250 : decode cX10_duel 250 = .ok (.iload_n 3, 1) := by decide +kernel
theorem dX10_duel_251 : decode cX10_duel 251 = .ok (.goto 25, 3) := by decide +kernel
theorem dX10_duel_254 : decode cX10_duel 254 = .ok (.iload_n 2, 1) := by decide +kernel
theorem dX10_duel_255 : decode cX10_duel 255 = .ok (.iconst 1, 1) := by decide +kernel
theorem dX10_duel_256 : decode cX10_duel 256 = .ok (.if_icmp .ne 8, 3) := by decide +kernel
theorem dX10_duel_259 : decode cX10_duel 259 = .ok (.iload 4, 2) := by decide +kernel
theorem dX10_duel_261 : decode cX10_duel 261 = .ok (.goto 15, 3) := by decide +kernel
theorem dX10_duel_264 : decode cX10_duel 264 = .ok (.iload_n 2, 1) := by decide +kernel
theorem dX10_duel_265 : decode cX10_duel 265 = .ok (.iconst 2, 1) := by decide +kernel
theorem dX10_duel_266 : decode cX10_duel 266 = .ok (.if_icmp .ne 8, 3) := by decide +kernel
theorem dX10_duel_269 : decode cX10_duel 269 = .ok (.iload 5, 2) := by decide +kernel
theorem dX10_duel_271 : decode cX10_duel 271 = .ok (.goto 5, 3) := by decide +kernel
theorem dX10_duel_274 : decode cX10_duel 274 = .ok (.iload 6, 2) := by decide +kernel
theorem dX10_duel_276 : decode cX10_duel 276 = .ok (.ireturn, 1) := by decide +kernel
theorem dX10_answer_0 : decode cX10_answer 0 = .ok (.aload_n 0, 1) := by decide +kernel
theorem dX10_answer_1 : decode cX10_answer 1 = .ok (.iconst 0, 1) := by decide +kernel
theorem dX10_answer_2 : decode cX10_answer 2 = .ok (.putfield 133, 3) := by decide +kernel
theorem dX10_answer_5 : decode cX10_answer 5 = .ok (.aload_n 0, 1) := by decide +kernel
theorem dX10_answer_6 : decode cX10_answer 6 = .ok (.aload_n 0, 1) := by decide +kernel
theorem dX10_answer_7 : decode cX10_answer 7 = .ok (.iload_n 1, 1) := by decide +kernel
theorem dX10_answer_8 : decode cX10_answer 8 = .ok (.invokevirtual 343, 3) := by decide +kernel
theorem dX10_answer_11 : decode cX10_answer 11 = .ok (.ifCond .ne 7, 3) := by decide +kernel
theorem dX10_answer_14 : decode cX10_answer 14 = .ok (.iconst 1, 1) := by decide +kernel
theorem dX10_answer_15 : decode cX10_answer 15 = .ok (.goto 4, 3) := by decide +kernel
theorem dX10_answer_18 : decode cX10_answer 18 = .ok (.iconst 0, 1) := by decide +kernel
theorem dX10_answer_19 : decode cX10_answer 19 = .ok (.iconst 1, 1) := by decide +kernel
theorem dX10_answer_20 : decode cX10_answer 20 = .ok (.iconst 0, 1) := by decide +kernel
theorem dX10_answer_21 : decode cX10_answer 21 = .ok (.invokevirtual 212, 3) := by decide +kernel
theorem dX10_answer_24 : decode cX10_answer 24 = .ok (.ifCond .ne 35, 3) := by decide +kernel
theorem dX10_answer_27 : decode cX10_answer 27 = .ok (.aload_n 0, 1) := by decide +kernel
theorem dX10_answer_28 : decode cX10_answer 28 = .ok (.iload_n 2, 1) := by decide +kernel
theorem dX10_answer_29 : decode cX10_answer 29 = .ok (.iconst 0, 1) := by decide +kernel
theorem dX10_answer_30 : decode cX10_answer 30 = .ok (.bipush 20, 2) := by decide +kernel
theorem dX10_answer_32 : decode cX10_answer 32 = .ok (.invokestatic 167, 3) := by decide +kernel
theorem dX10_answer_35 : decode cX10_answer 35 = .ok (.ifCond .ne 7, 3) := by decide +kernel
theorem dX10_answer_38 : decode cX10_answer 38 = .ok (.iconst 1, 1) := by decide +kernel
theorem dX10_answer_39 : decode cX10_answer 39 = .ok (.goto 4, 3) := by decide +kernel
theorem dX10_answer_42 : decode cX10_answer 42 = .ok (.iconst 0, 1) := by decide +kernel
theorem dX10_answer_43 : decode cX10_answer 43 = .ok (.iconst 2, 1) := by decide +kernel
theorem dX10_answer_44 : decode cX10_answer 44 = .ok (.iconst 1, 1) := by decide +kernel
theorem dX10_answer_45 : decode cX10_answer 45 = .ok (.invokevirtual 212, 3) := by decide +kernel
theorem dX10_answer_48 : decode cX10_answer 48 = .ok (.ifCond .ne 11, 3) := by decide +kernel
theorem dX10_answer_51 : decode cX10_answer 51 = .ok (.aload_n 0, 1) := by decide +kernel
theorem dX10_answer_52 : decode cX10_answer 52 = .ok (.iconst 3, 1) := by decide +kernel
theorem dX10_answer_53 : decode cX10_answer 53 = .ok (.invokevirtual 355, 3) := by decide +kernel
theorem dX10_answer_56 : decode cX10_answer 56 = .ok (.ifCond .eq 5, 3) := by decide +kernel
theorem dX10_answer_59 : decode cX10_answer 59 = .ok (.iconst 0, 1) := by decide +kernel
theorem dX10_answer_60 : decode cX10_answer 60 = .ok (.ireturn, 1) := by decide +kernel
theorem dX10_answer_61 : decode cX10_answer 61 = .ok (.iconst 0, 1) := by decide +kernel
theorem dX10_answer_62 : decode cX10_answer 62 = .ok (.istore_n 3, 1) := by decide +kernel
theorem dX10_answer_63 : decode cX10_answer 63 = .ok (.iconst (-1), 1) := by decide +kernel
theorem dX10_answer_64 : decode cX10_answer 64 = .ok (.istore 4, 2) := by decide +kernel
theorem dX10_answer_66 : decode cX10_answer 66 = .ok (.iconst 0, 1) := by decide +kernel
theorem dX10_answer_67 : decode cX10_answer 67 = .ok (.istore 5, 2) := by decide +kernel
theorem dX10_answer_69 : decode cX10_answer 69 = .ok (.iload 5, 2) := by decide +kernel
theorem dX10_answer_71 : decode cX10_answer 71 = .ok (.iload_n 2, 1) := by decide +kernel
theorem dX10_answer_72 : decode cX10_answer 72 = .ok (.if_icmp .gt 42, 3) := by decide +kernel
theorem dX10_answer_75 : decode cX10_answer 75 = .ok (.aload_n 0, 1) := by decide +kernel
theorem dX10_answer_76 : decode cX10_answer 76 = .ok (.iload_n 1, 1) := by decide +kernel
theorem dX10_answer_77 : decode cX10_answer 77 = .ok (.iload 5, 2) := by decide +kernel
theorem dX10_answer_79 : decode cX10_answer 79 = .ok (.iconst (-1), 1) := by decide +kernel
theorem dX10_answer_80 : decode cX10_answer 80 = .ok (.invokevirtual 358, 3) := by decide +kernel
theorem dX10_answer_83 : decode cX10_answer 83 = .ok (.istore 6, 2) := by decide +kernel
theorem dX10_answer_85 : decode cX10_answer 85 = .ok (.iload 4, 2) := by decide +kernel
theorem dX10_answer_87 : decode cX10_answer 87 = .ok (.iconst (-1), 1) := by decide +kernel
theorem dX10_answer_88 : decode cX10_answer 88 = .ok (.if_icmp .eq 13, 3) := by decide +kernel
theorem dX10_answer_91 : decode cX10_answer 91 = .ok (.iload 6, 2) := by decide +kernel
theorem dX10_answer_93 : decode cX10_answer 93 = .ok (.iload 4, 2) := by decide +kernel
theorem dX10_answer_95 : decode cX10_answer 95 = .ok (.if_icmp .lt 6, 3) := by decide +kernel
theorem dX10_answer_98 : decode cX10_answer 98 = .ok (.goto 10, 3) := by decide +kernel
theorem dX10_answer_101 : decode cX10_answer 101 = .ok (.iload 5, 2) := by decide +kernel
theorem dX10_answer_103 : decode cX10_answer 103 = .ok (.istore_n 3, 1) := by decide +kernel
theorem dX10_answer_104 : decode cX10_answer 104 = .ok (.iload 6, 2) := by decide +kernel
theorem dX10_answer_106 : decode cX10_answer 106 = .ok (.istore 4, 2) := by decide +kernel
theorem dX10_answer_108 : decode cX10_answer 108 = .ok (.iinc 5 1, 3) := by decide +kernel
theorem dX10_answer_111 : decode cX10_answer 111 = .ok (.goto (-42), 3) := by decide +kernel
theorem dX10_answer_114 : decode cX10_answer 114 = .ok (.iload_n 3, 1) := by decide +kernel
theorem dX10_answer_115 : decode cX10_answer 115 = .ok (.ireturn, 1) := by decide +kernel
theorem dX10_habitBehind_0 : decode cX10_habitBehind 0 = .ok (.aload_n 0, 1) := by decide +kernel
theorem dX10_habitBehind_1 : decode cX10_habitBehind 1 = .ok (.iload_n 1, 1) := by decide +kernel
theorem dX10_habitBehind_2 : decode cX10_habitBehind 2 = .ok (.iconst (-1), 1) := by decide +kernel
theorem dX10_habitBehind_3 : decode cX10_habitBehind 3 = .ok (.invokevirtual 334, 3) := by decide +kernel
theorem dX10_habitBehind_6 : decode cX10_habitBehind 6 = .ok (.iconst 0, 1) := by decide +kernel
theorem dX10_habitBehind_7 : decode cX10_habitBehind 7 = .ok (.istore_n 2, 1) := by decide +kernel
theorem dX10_habitBehind_8 : decode cX10_habitBehind 8 = .ok (.iconst 0, 1) := by decide +kernel
theorem dX10_habitBehind_9 : decode cX10_habitBehind 9 = .ok (.istore_n 3, 1) := by decide +kernel
theorem dX10_habitBehind_10 : decode cX10_habitBehind 10 = .ok (.iload_n 3, 1) := by decide +kernel
theorem dX10_habitBehind_11 : decode cX10_habitBehind 11 = .ok (.aload_n 0, 1) := by decide +kernel
theorem dX10_habitBehind_12 : decode cX10_habitBehind 12 = .ok (.getfield 294, 3) := by decide +kernel
theorem dX10_habitBehind_15 : decode cX10_habitBehind 15 = .ok (.if_icmp .ge 46, 3) := by decide +kernel
theorem dX10_habitBehind_18 : decode cX10_habitBehind 18 = .ok (.iload_n 2, 1) := by decide +kernel
theorem dX10_habitBehind_19 : decode cX10_habitBehind 19 = .ok (.ifCond .ne 30, 3) := by decide +kernel
theorem dX10_habitBehind_22 : decode cX10_habitBehind 22 = .ok (.aload_n 0, 1) := by decide +kernel
theorem dX10_habitBehind_23 : decode cX10_habitBehind 23 = .ok (.getfield 81, 3) := by decide +kernel
theorem dX10_habitBehind_26 : decode cX10_habitBehind 26 = .ok (.iconst 0, 1) := by decide +kernel
theorem dX10_habitBehind_27 : decode cX10_habitBehind 27 = .ok (.aaload, 1) := by decide +kernel
theorem dX10_habitBehind_28 : decode cX10_habitBehind 28 = .ok (.iload_n 3, 1) := by decide +kernel
theorem dX10_habitBehind_29 : decode cX10_habitBehind 29 = .ok (.aaload, 1) := by decide +kernel
theorem dX10_habitBehind_30 : decode cX10_habitBehind 30 = .ok (.iconst 0, 1) := by decide +kernel
theorem dX10_habitBehind_31 : decode cX10_habitBehind 31 = .ok (.iaload, 1) := by decide +kernel
theorem dX10_habitBehind_32 : decode cX10_habitBehind 32 = .ok (.iconst (-1), 1) := by decide +kernel
theorem dX10_habitBehind_33 : decode cX10_habitBehind 33 = .ok (.if_icmp .eq 20, 3) := by decide +kernel
theorem dX10_habitBehind_36 : decode cX10_habitBehind 36 = .ok (.aload_n 0, 1) := by decide +kernel
theorem dX10_habitBehind_37 : decode cX10_habitBehind 37 = .ok (.getfield 81, 3) := by decide +kernel
theorem dX10_habitBehind_40 : decode cX10_habitBehind 40 = .ok (.iconst 0, 1) := by decide +kernel
theorem dX10_habitBehind_41 : decode cX10_habitBehind 41 = .ok (.aaload, 1) := by decide +kernel
theorem dX10_habitBehind_42 : decode cX10_habitBehind 42 = .ok (.iload_n 3, 1) := by decide +kernel
theorem dX10_habitBehind_43 : decode cX10_habitBehind 43 = .ok (.aaload, 1) := by decide +kernel
theorem dX10_habitBehind_44 : decode cX10_habitBehind 44 = .ok (.iconst 2, 1) := by decide +kernel
theorem dX10_habitBehind_45 : decode cX10_habitBehind 45 = .ok (.iaload, 1) := by decide +kernel
theorem dX10_habitBehind_46 : decode cX10_habitBehind 46 = .ok (.ifCond .le 7, 3) := by decide +kernel
theorem dX10_habitBehind_49 : decode cX10_habitBehind 49 = .ok (.iconst 1, 1) := by decide +kernel
theorem dX10_habitBehind_50 : decode cX10_habitBehind 50 = .ok (.goto 4, 3) := by decide +kernel
theorem dX10_habitBehind_53 : decode cX10_habitBehind 53 = .ok (.iconst 0, 1) := by decide +kernel
theorem dX10_habitBehind_54 : decode cX10_habitBehind 54 = .ok (.istore_n 2, 1) := by decide +kernel
theorem dX10_habitBehind_55 : decode cX10_habitBehind 55 = .ok (.iinc 3 1, 3) := by decide +kernel
theorem dX10_habitBehind_58 : decode cX10_habitBehind 58 = .ok (.goto (-48), 3) := by decide +kernel
theorem dX10_habitBehind_61 : decode cX10_habitBehind 61 = .ok (.iload_n 2, 1) := by decide +kernel
theorem dX10_habitBehind_62 : decode cX10_habitBehind 62 = .ok (.ifCond .eq 14, 3) := by decide +kernel
theorem dX10_habitBehind_65 : decode cX10_habitBehind 65 = .ok (.bipush 20, 2) := by decide +kernel
theorem dX10_habitBehind_67 : decode cX10_habitBehind 67 = .ok (.iload_n 1, 1) := by decide +kernel
theorem dX10_habitBehind_68 : decode cX10_habitBehind 68 = .ok (.iconst 1, 1) := by decide +kernel
theorem dX10_habitBehind_69 : decode cX10_habitBehind 69 = .ok (.iadd, 1) := by decide +kernel
theorem dX10_habitBehind_70 : decode cX10_habitBehind 70 = .ok (.invokestatic 269, 3) := by decide +kernel
theorem dX10_habitBehind_73 : decode cX10_habitBehind 73 = .ok (.goto 10, 3) := by decide +kernel
theorem dX10_habitBehind_76 : decode cX10_habitBehind 76 = .ok (.iconst 0, 1) := by decide +kernel
theorem dX10_habitBehind_77 : decode cX10_habitBehind 77 = .ok (.iload_n 1, 1) := by decide +kernel
theorem dX10_habitBehind_78 : decode cX10_habitBehind 78 = .ok (.iconst 1, 1) := by decide +kernel
theorem dX10_habitBehind_79 : decode cX10_habitBehind 79 = .ok (.isub, 1) := by decide +kernel
theorem dX10_habitBehind_80 : decode cX10_habitBehind 80 = .ok (.invokestatic 272, 3) := by decide +kernel
theorem dX10_habitBehind_83 : decode cX10_habitBehind 83 = .ok (.ireturn, 1) := by decide +kernel
theorem dX10_habit_0 : decode cX10_habit 0 = .ok (.aload_n 0, 1) := by decide +kernel
theorem dX10_habit_1 : decode cX10_habit 1 = .ok (.iconst 0, 1) := by decide +kernel
theorem dX10_habit_2 : decode cX10_habit 2 = .ok (.putfield 133, 3) := by decide +kernel
theorem dX10_habit_5 : decode cX10_habit 5 = .ok (.aload_n 0, 1) := by decide +kernel
theorem dX10_habit_6 : decode cX10_habit 6 = .ok (.iload_n 1, 1) := by decide +kernel
theorem dX10_habit_7 : decode cX10_habit 7 = .ok (.iconst 0, 1) := by decide +kernel
theorem dX10_habit_8 : decode cX10_habit 8 = .ok (.bipush 20, 2) := by decide +kernel
theorem dX10_habit_10 : decode cX10_habit 10 = .ok (.invokestatic 167, 3) := by decide +kernel
theorem dX10_habit_13 : decode cX10_habit 13 = .ok (.ifCond .eq 12, 3) := by decide +kernel
theorem dX10_habit_16 : decode cX10_habit 16 = .ok (.iload_n 2, 1) := by decide +kernel
theorem dX10_habit_17 : decode cX10_habit 17 = .ok (.iconst 0, 1) := by decide +kernel
theorem dX10_habit_18 : decode cX10_habit 18 = .ok (.iconst 3, 1) := by decide +kernel
theorem dX10_habit_19 : decode cX10_habit 19 = .ok (.invokestatic 167, 3) := by decide +kernel
theorem dX10_habit_22 : decode cX10_habit 22 = .ok (.ifCond .ne 7, 3) := by decide +kernel
theorem dX10_habit_25 : decode cX10_habit 25 = .ok (.iconst 1, 1) := by decide +kernel
theorem dX10_habit_26 : decode cX10_habit 26 = .ok (.goto 4, 3) := by decide +kernel
theorem dX10_habit_29 : decode cX10_habit 29 = .ok (.iconst 0, 1) := by decide +kernel
theorem dX10_habit_30 : decode cX10_habit 30 = .ok (.iconst 1, 1) := by decide +kernel
theorem dX10_habit_31 : decode cX10_habit 31 = .ok (.iconst 1, 1) := by decide +kernel
theorem dX10_habit_32 : decode cX10_habit 32 = .ok (.invokevirtual 212, 3) := by decide +kernel
theorem dX10_habit_35 : decode cX10_habit 35 = .ok (.ifCond .ne 11, 3) := by decide +kernel
theorem dX10_habit_38 : decode cX10_habit 38 = .ok (.aload_n 0, 1) := by decide +kernel
theorem dX10_habit_39 : decode cX10_habit 39 = .ok (.iconst 2, 1) := by decide +kernel
theorem dX10_habit_40 : decode cX10_habit 40 = .ok (.invokevirtual 355, 3) := by decide +kernel
theorem dX10_habit_43 : decode cX10_habit 43 = .ok (.ifCond .eq 5, 3) := by decide +kernel
theorem dX10_habit_46 : decode cX10_habit 46 = .ok (.iconst 0, 1) := by decide +kernel
theorem dX10_habit_47 : decode cX10_habit 47 = .ok (.ireturn, 1) := by decide +kernel
theorem dX10_habit_48 : decode cX10_habit 48 = .ok (.iconst 0, 1) := by decide +kernel
theorem dX10_habit_49 : decode cX10_habit 49 = .ok (.istore_n 3, 1) := by decide +kernel
theorem dX10_habit_50 : decode cX10_habit 50 = .ok (.iload_n 3, 1) := by decide +kernel
theorem dX10_habit_51 : decode cX10_habit 51 = .ok (.bipush 21, 2) := by decide +kernel
theorem dX10_habit_53 : decode cX10_habit 53 = .ok (.if_icmp .ge 16, 3) := by decide +kernel
theorem dX10_habit_56 : decode cX10_habit 56 = .ok (.aload_n 0, 1) := by decide +kernel
theorem dX10_habit_57 : decode cX10_habit 57 = .ok (.getfield 114, 3) := by decide +kernel
theorem dX10_habit_60 : decode cX10_habit 60 = .ok (.iload_n 3, 1) := by decide +kernel
theorem dX10_habit_61 : decode cX10_habit 61 = .ok (.iconst (-1), 1) := by decide +kernel
theorem dX10_habit_62 : decode cX10_habit 62 = .ok (.iastore, 1) := by decide +kernel
theorem dX10_habit_63 : decode cX10_habit 63 = .ok (.iinc 3 1, 3) := by decide +kernel
theorem dX10_habit_66 : decode cX10_habit 66 = .ok (.goto (-16), 3) := by decide +kernel
theorem dX10_habit_69 : decode cX10_habit 69 = .ok (.iload_n 1, 1) := by decide +kernel
theorem dX10_habit_70 : decode cX10_habit 70 = .ok (.istore_n 3, 1) := by decide +kernel
theorem dX10_habit_71 : decode cX10_habit 71 = .ok (.iconst 0, 1) := by decide +kernel
theorem dX10_habit_72 : decode cX10_habit 72 = .ok (.istore 4, 2) := by decide +kernel
theorem dX10_habit_74 : decode cX10_habit 74 = .ok (.aload_n 0, 1) := by decide +kernel
theorem dX10_habit_75 : decode cX10_habit 75 = .ok (.getfield 114, 3) := by decide +kernel
theorem dX10_habit_78 : decode cX10_habit 78 = .ok (.iload_n 3, 1) := by decide +kernel
theorem dX10_habit_79 : decode cX10_habit 79 = .ok (.iaload, 1) := by decide +kernel
theorem dX10_habit_80 : decode cX10_habit 80 = .ok (.iconst (-1), 1) := by decide +kernel
theorem dX10_habit_81 : decode cX10_habit 81 = .ok (.if_icmp .ne 23, 3) := by decide +kernel
theorem dX10_habit_84 : decode cX10_habit 84 = .ok (.aload_n 0, 1) := by decide +kernel
theorem dX10_habit_85 : decode cX10_habit 85 = .ok (.getfield 114, 3) := by decide +kernel
theorem dX10_habit_88 : decode cX10_habit 88 = .ok (.iload_n 3, 1) := by decide +kernel
theorem dX10_habit_89 : decode cX10_habit 89 = .ok (.iload 4, 2) := by decide +kernel
theorem dX10_habit_91 : decode cX10_habit 91 = .ok (.iastore, 1) := by decide +kernel
theorem dX10_habit_92 : decode cX10_habit 92 = .ok (.aload_n 0, 1) := by decide +kernel
theorem dX10_habit_93 : decode cX10_habit 93 = .ok (.iload_n 3, 1) := by decide +kernel
theorem dX10_habit_94 : decode cX10_habit 94 = .ok (.invokevirtual 364, 3) := by decide +kernel
theorem dX10_habit_97 : decode cX10_habit 97 = .ok (.istore_n 3, 1) := by decide +kernel
theorem dX10_habit_98 : decode cX10_habit 98 = .ok (.iinc 4 1, 3) := by decide +kernel
theorem dX10_habit_101 : decode cX10_habit 101 = .ok (.goto (-27), 3) := by decide +kernel
theorem dX10_habit_104 : decode cX10_habit 104 = .ok (.aload_n 0, 1) := by decide +kernel
theorem dX10_habit_105 : decode cX10_habit 105 = .ok (.getfield 114, 3) := by decide +kernel
theorem dX10_habit_108 : decode cX10_habit 108 = .ok (.iload_n 3, 1) := by decide +kernel
theorem dX10_habit_109 : decode cX10_habit 109 = .ok (.iaload, 1) := by decide +kernel
theorem dX10_habit_110 : decode cX10_habit 110 = .ok (.istore 5, 2) := by decide +kernel
theorem dX10_habit_112 : decode cX10_habit 112 = .ok (.iload_n 3, 1) := by decide +kernel
theorem dX10_habit_113 : decode cX10_habit 113 = .ok (.istore 6, 2) := by decide +kernel
theorem dX10_habit_115 : decode cX10_habit 115 = .ok (.iload_n 3, 1) := by decide +kernel
theorem dX10_habit_116 : decode cX10_habit 116 = .ok (.istore 7, 2) := by decide +kernel
theorem dX10_habit_118 : decode cX10_habit 118 = .ok (.iconst 0, 1) := by decide +kernel
theorem dX10_habit_119 : decode cX10_habit 119 = .ok (.istore 8, 2) := by decide +kernel
theorem dX10_habit_121 : decode cX10_habit 121 = .ok (.iload 8, 2) := by decide +kernel
theorem dX10_habit_123 : decode cX10_habit 123 = .ok (.bipush 21, 2) := by decide +kernel
theorem dX10_habit_125 : decode cX10_habit 125 = .ok (.if_icmp .ge 42, 3) := by decide +kernel
theorem dX10_habit_128 : decode cX10_habit 128 = .ok (.aload_n 0, 1) := by decide +kernel
theorem dX10_habit_129 : decode cX10_habit 129 = .ok (.getfield 114, 3) := by decide +kernel
theorem dX10_habit_132 : decode cX10_habit 132 = .ok (.iload 8, 2) := by decide +kernel
theorem dX10_habit_134 : decode cX10_habit 134 = .ok (.iaload, 1) := by decide +kernel
theorem dX10_habit_135 : decode cX10_habit 135 = .ok (.iload 5, 2) := by decide +kernel
theorem dX10_habit_137 : decode cX10_habit 137 = .ok (.if_icmp .ge 6, 3) := by decide +kernel
theorem dX10_habit_140 : decode cX10_habit 140 = .ok (.goto 21, 3) := by decide +kernel
theorem dX10_habit_143 : decode cX10_habit 143 = .ok (.iload 6, 2) := by decide +kernel
theorem dX10_habit_145 : decode cX10_habit 145 = .ok (.iload 8, 2) := by decide +kernel
theorem dX10_habit_147 : decode cX10_habit 147 = .ok (.invokestatic 269, 3) := by decide +kernel
theorem dX10_habit_150 : decode cX10_habit 150 = .ok (.istore 6, 2) := by decide +kernel
theorem dX10_habit_152 : decode cX10_habit 152 = .ok (.iload 7, 2) := by decide +kernel
theorem dX10_habit_154 : decode cX10_habit 154 = .ok (.iload 8, 2) := by decide +kernel
theorem dX10_habit_156 : decode cX10_habit 156 = .ok (.invokestatic 272, 3) := by decide +kernel
theorem dX10_habit_159 : decode cX10_habit 159 = .ok (.istore 7, 2) := by decide +kernel
theorem dX10_habit_161 : decode cX10_habit 161 = .ok (.iinc 8 1, 3) := by decide +kernel
theorem dX10_habit_164 : decode cX10_habit 164 = .ok (.goto (-43), 3) := by decide +kernel
theorem dX10_habit_167 : decode cX10_habit 167 = .ok (.iload_n 2, 1) := by decide +kernel
theorem dX10_habit_168 : decode cX10_habit 168 = .ok (.ifCond .ne 8, 3) := by decide +kernel
theorem dX10_habit_171 : decode cX10_habit 171 = .ok (.iload 5, 2) := by decide +kernel
theorem dX10_habit_173 : decode cX10_habit 173 = .ok (.goto 28, 3) := by decide +kernel
theorem dX10_habit_176 : decode cX10_habit 176 = .ok (.iload_n 2, 1) := by decide +kernel
theorem dX10_habit_177 : decode cX10_habit 177 = .ok (.iconst 1, 1) := by decide +kernel
theorem dX10_habit_178 : decode cX10_habit 178 = .ok (.if_icmp .ne 11, 3) := by decide +kernel
theorem dX10_habit_181 : decode cX10_habit 181 = .ok (.iload 4, 2) := by decide +kernel
theorem dX10_habit_183 : decode cX10_habit 183 = .ok (.iload 5, 2) := by decide +kernel
theorem dX10_habit_185 : decode cX10_habit 185 = .ok (.isub, 1) := by decide +kernel
theorem dX10_habit_186 : decode cX10_habit 186 = .ok (.goto 15, 3) := by decide +kernel
theorem dX10_habit_189 : decode cX10_habit 189 = .ok (.iload_n 2, 1) := by decide +kernel
theorem dX10_habit_190 : decode cX10_habit 190 = .ok (.iconst 2, 1) := by decide +kernel
theorem dX10_habit_191 : decode cX10_habit 191 = .ok (.if_icmp .ne 8, 3) := by decide +kernel
theorem dX10_habit_194 : decode cX10_habit 194 = .ok (.iload 6, 2) := by decide +kernel
theorem dX10_habit_196 : decode cX10_habit 196 = .ok (.goto 5, 3) := by decide +kernel
theorem dX10_habit_199 : decode cX10_habit 199 = .ok (.iload 7, 2) := by decide +kernel
theorem dX10_habit_201 : decode cX10_habit 201 = .ok (.ireturn, 1) := by decide +kernel
theorem dX10_safe_0 : decode cX10_safe 0 = .ok (.aload_n 0, 1) := by decide +kernel
theorem dX10_safe_1 : decode cX10_safe 1 = .ok (.iconst 0, 1) := by decide +kernel
theorem dX10_safe_2 : decode cX10_safe 2 = .ok (.putfield 133, 3) := by decide +kernel
theorem dX10_safe_5 : decode cX10_safe 5 = .ok (.aload_n 0, 1) := by decide +kernel
theorem dX10_safe_6 : decode cX10_safe 6 = .ok (.aload_n 0, 1) := by decide +kernel
theorem dX10_safe_7 : decode cX10_safe 7 = .ok (.iload_n 1, 1) := by decide +kernel
theorem dX10_safe_8 : decode cX10_safe 8 = .ok (.invokevirtual 343, 3) := by decide +kernel
theorem dX10_safe_11 : decode cX10_safe 11 = .ok (.ifCond .ne 7, 3) := by decide +kernel
theorem dX10_safe_14 : decode cX10_safe 14 = .ok (.iconst 1, 1) := by decide +kernel
theorem dX10_safe_15 : decode cX10_safe 15 = .ok (.goto 4, 3) := by decide +kernel
theorem dX10_safe_18 : decode cX10_safe 18 = .ok (.iconst 0, 1) := by decide +kernel
theorem dX10_safe_19 : decode cX10_safe 19 = .ok (.iconst 1, 1) := by decide +kernel
theorem dX10_safe_20 : decode cX10_safe 20 = .ok (.iconst 0, 1) := by decide +kernel
theorem dX10_safe_21 : decode cX10_safe 21 = .ok (.invokevirtual 212, 3) := by decide +kernel
theorem dX10_safe_24 : decode cX10_safe 24 = .ok (.ifCond .ne 26, 3) := by decide +kernel
theorem dX10_safe_27 : decode cX10_safe 27 = .ok (.aload_n 0, 1) := by decide +kernel
theorem dX10_safe_28 : decode cX10_safe 28 = .ok (.iload_n 2, 1) := by decide +kernel
theorem dX10_safe_29 : decode cX10_safe 29 = .ok (.iconst 0, 1) := by decide +kernel
theorem dX10_safe_30 : decode cX10_safe 30 = .ok (.iconst 1, 1) := by decide +kernel
theorem dX10_safe_31 : decode cX10_safe 31 = .ok (.invokestatic 167, 3) := by decide +kernel
theorem dX10_safe_34 : decode cX10_safe 34 = .ok (.ifCond .ne 7, 3) := by decide +kernel
theorem dX10_safe_37 : decode cX10_safe 37 = .ok (.iconst 1, 1) := by decide +kernel
theorem dX10_safe_38 : decode cX10_safe 38 = .ok (.goto 4, 3) := by decide +kernel
theorem dX10_safe_41 : decode cX10_safe 41 = .ok (.iconst 0, 1) := by decide +kernel
theorem dX10_safe_42 : decode cX10_safe 42 = .ok (.iconst 2, 1) := by decide +kernel
theorem dX10_safe_43 : decode cX10_safe 43 = .ok (.iconst 1, 1) := by decide +kernel
theorem dX10_safe_44 : decode cX10_safe 44 = .ok (.invokevirtual 212, 3) := by decide +kernel
theorem dX10_safe_47 : decode cX10_safe 47 = .ok (.ifCond .eq 5, 3) := by decide +kernel
theorem dX10_safe_50 : decode cX10_safe 50 = .ok (.iconst 0, 1) := by decide +kernel
theorem dX10_safe_51 : decode cX10_safe 51 = .ok (.ireturn, 1) := by decide +kernel
theorem dX10_safe_52 : decode cX10_safe 52 = .ok (.iconst 0, 1) := by decide +kernel
theorem dX10_safe_53 : decode cX10_safe 53 = .ok (.istore_n 3, 1) := by decide +kernel
theorem dX10_safe_54 : decode cX10_safe 54 = .ok (.iconst 1, 1) := by decide +kernel
theorem dX10_safe_55 : decode cX10_safe 55 = .ok (.istore 4, 2) := by decide +kernel
theorem dX10_safe_57 : decode cX10_safe 57 = .ok (.iload 4, 2) := by decide +kernel
theorem dX10_safe_59 : decode cX10_safe 59 = .ok (.bipush 10, 2) := by decide +kernel
theorem dX10_safe_61 : decode cX10_safe 61 = .ok (.if_icmp .ge 135, 3) := by decide +kernel
theorem dX10_safe_64 : decode cX10_safe 64 = .ok (.iconst 0, 1) := by decide +kernel
theorem dX10_safe_65 : decode cX10_safe 65 = .ok (.istore 5, 2) := by decide +kernel
theorem dX10_safe_67 : decode cX10_safe 67 = .ok (.iload 5, 2) := by decide +kernel
theorem dX10_safe_69 : decode cX10_safe 69 = .ok (.bipush 12, 2) := by decide +kernel
theorem dX10_safe_71 : decode cX10_safe 71 = .ok (.if_icmp .ge 17, 3) := by decide +kernel
theorem dX10_safe_74 : decode cX10_safe 74 = .ok (.aload_n 0, 1) := by decide +kernel
theorem dX10_safe_75 : decode cX10_safe 75 = .ok (.getfield 64, 3) := by decide +kernel
theorem dX10_safe_78 : decode cX10_safe 78 = .ok (.iload 5, 2) := by decide +kernel
theorem dX10_safe_80 : decode cX10_safe 80 = .ok (.iconst 0, 1) := by decide +kernel
theorem dX10_safe_81 : decode cX10_safe 81 = .ok (.iastore, 1) := by decide +kernel
theorem dX10_safe_82 : decode cX10_safe 82 = .ok (.iinc 5 1, 3) := by decide +kernel
theorem dX10_safe_85 : decode cX10_safe 85 = .ok (.goto (-18), 3) := by decide +kernel
theorem dX10_safe_88 : decode cX10_safe 88 = .ok (.aload_n 0, 1) := by decide +kernel
theorem dX10_safe_89 : decode cX10_safe 89 = .ok (.getfield 64, 3) := by decide +kernel
theorem dX10_safe_92 : decode cX10_safe 92 = .ok (.iconst 0, 1) := by decide +kernel
theorem dX10_safe_93 : decode cX10_safe 93 = .ok (.aload_n 0, 1) := by decide +kernel
theorem dX10_safe_94 : decode cX10_safe 94 = .ok (.getfield 23, 3) := by decide +kernel
theorem dX10_safe_97 : decode cX10_safe 97 = .ok (.iload_n 2, 1) := by decide +kernel
theorem dX10_safe_98 : decode cX10_safe 98 = .ok (.iconst 1, 1) := by decide +kernel
theorem dX10_safe_99 : decode cX10_safe 99 = .ok (.if_icmp .ne 7, 3) := by decide +kernel
theorem dX10_safe_102 : decode cX10_safe 102 = .ok (.iconst 5, 1) := by decide +kernel
theorem dX10_safe_103 : decode cX10_safe 103 = .ok (.goto 5, 3) := by decide +kernel
theorem dX10_safe_106 : decode cX10_safe 106 = .ok (.bipush 6, 2) := by decide +kernel
theorem dX10_safe_108 : decode cX10_safe 108 = .ok (.iaload, 1) := by decide +kernel
theorem dX10_safe_109 : decode cX10_safe 109 = .ok (.iastore, 1) := by decide +kernel
theorem dX10_safe_110 : decode cX10_safe 110 = .ok (.aload_n 0, 1) := by decide +kernel
theorem dX10_safe_111 : decode cX10_safe 111 = .ok (.getfield 64, 3) := by decide +kernel
theorem dX10_safe_114 : decode cX10_safe 114 = .ok (.iconst 1, 1) := by decide +kernel
theorem dX10_safe_115 : decode cX10_safe 115 = .ok (.aload_n 0, 1) := by decide +kernel
theorem dX10_safe_116 : decode cX10_safe 116 = .ok (.getfield 41, 3) := by decide +kernel
theorem dX10_safe_119 : decode cX10_safe 119 = .ok (.bipush 24, 2) := by decide +kernel
theorem dX10_safe_121 : decode cX10_safe 121 = .ok (.iaload, 1) := by decide +kernel
theorem dX10_safe_122 : decode cX10_safe 122 = .ok (.iastore, 1) := by decide +kernel
theorem dX10_safe_123 : decode cX10_safe 123 = .ok (.aload_n 0, 1) := by decide +kernel
theorem dX10_safe_124 : decode cX10_safe 124 = .ok (.getfield 64, 3) := by decide +kernel
theorem dX10_safe_127 : decode cX10_safe 127 = .ok (.iconst 3, 1) := by decide +kernel
theorem dX10_safe_128 : decode cX10_safe 128 = .ok (.aload_n 0, 1) := by decide +kernel
theorem dX10_safe_129 : decode cX10_safe 129 = .ok (.getfield 29, 3) := by decide +kernel
theorem dX10_safe_132 : decode cX10_safe 132 = .ok (.iload_n 1, 1) := by decide +kernel
theorem dX10_safe_133 : decode cX10_safe 133 = .ok (.iaload, 1) := by decide +kernel
theorem dX10_safe_134 : decode cX10_safe 134 = .ok (.iastore, 1) := by decide +kernel
theorem dX10_safe_135 : decode cX10_safe 135 = .ok (.aload_n 0, 1) := by decide +kernel
theorem dX10_safe_136 : decode cX10_safe 136 = .ok (.getfield 64, 3) := by decide +kernel
theorem dX10_safe_139 : decode cX10_safe 139 = .ok (.iconst 5, 1) := by decide +kernel
theorem dX10_safe_140 : decode cX10_safe 140 = .ok (.aload_n 0, 1) := by decide +kernel
theorem dX10_safe_141 : decode cX10_safe 141 = .ok (.iload_n 1, 1) := by decide +kernel
theorem dX10_safe_142 : decode cX10_safe 142 = .ok (.invokevirtual 288, 3) := by decide +kernel
theorem dX10_safe_145 : decode cX10_safe 145 = .ok (.iastore, 1) := by decide +kernel
theorem dX10_safe_146 : decode cX10_safe 146 = .ok (.aload_n 0, 1) := by decide +kernel
theorem dX10_safe_147 : decode cX10_safe 147 = .ok (.getfield 64, 3) := by decide +kernel
theorem dX10_safe_150 : decode cX10_safe 150 = .ok (.bipush 6, 2) := by decide +kernel
theorem dX10_safe_152 : decode cX10_safe 152 = .ok (.iload 4, 2) := by decide +kernel
theorem dX10_safe_154 : decode cX10_safe 154 = .ok (.iastore, 1) := by decide +kernel
theorem dX10_safe_155 : decode cX10_safe 155 = .ok (.aload_n 0, 1) := by decide +kernel
theorem dX10_safe_156 : decode cX10_safe 156 = .ok (.getfield 64, 3) := by decide +kernel
theorem dX10_safe_159 : decode cX10_safe 159 = .ok (.bipush 8, 2) := by decide +kernel
theorem dX10_safe_161 : decode cX10_safe 161 = .ok (.bipush 99, 2) := by decide +kernel
theorem dX10_safe_163 : decode cX10_safe 163 = .ok (.iastore, 1) := by decide +kernel
theorem dX10_safe_164 : decode cX10_safe 164 = .ok (.aload_n 0, 1) := by decide +kernel
theorem dX10_safe_165 : decode cX10_safe 165 = .ok (.getfield 64, 3) := by decide +kernel
theorem dX10_safe_168 : decode cX10_safe 168 = .ok (.bipush 11, 2) := by decide +kernel
theorem dX10_safe_170 : decode cX10_safe 170 = .ok (.iload_n 2, 1) := by decide +kernel
theorem dX10_safe_171 : decode cX10_safe 171 = .ok (.iastore, 1) := by decide +kernel
theorem dX10_safe_172 : decode cX10_safe 172 = .ok (.iconst 2, 1) := by decide +kernel
theorem dX10_safe_173 : decode cX10_safe 173 = .ok (.iload 4, 2) := by decide +kernel
theorem dX10_safe_175 : decode cX10_safe 175 = .ok (.imul, 1) := by decide +kernel
theorem dX10_safe_176 : decode cX10_safe 176 = .ok (.aload_n 0, 1) := by decide +kernel
theorem dX10_safe_177 : decode cX10_safe 177 = .ok (.invokevirtual 328, 3) := by decide +kernel
theorem dX10_safe_180 : decode cX10_safe 180 = .ok (.if_icmp .gt 8, 3) := by decide +kernel
theorem dX10_safe_183 : decode cX10_safe 183 = .ok (.iload 4, 2) := by decide +kernel
theorem dX10_safe_185 : decode cX10_safe 185 = .ok (.goto 4, 3) := by decide +kernel
theorem dX10_safe_188 : decode cX10_safe 188 = .ok (.iload_n 3, 1) := by decide +kernel
theorem dX10_safe_189 : decode cX10_safe 189 = .ok (.istore_n 3, 1) := by decide +kernel
theorem dX10_safe_190 : decode cX10_safe 190 = .ok (.iinc 4 1, 3) := by decide +kernel
theorem dX10_safe_193 : decode cX10_safe 193 = .ok (.goto (-136), 3) := by decide +kernel
theorem dX10_safe_196 : decode cX10_safe 196 = .ok (.iload_n 3, 1) := by decide +kernel
theorem dX10_safe_197 : decode cX10_safe 197 = .ok (.ireturn, 1) := by decide +kernel
theorem dX10_power_0 : decode cX10_power 0 = .ok (.lconst 1, 1) := by decide +kernel
theorem dX10_power_1 : decode cX10_power 1 = .ok (.lstore_n 3, 1) := by decide +kernel
theorem dX10_power_2 : decode cX10_power 2 = .ok (.iconst 0, 1) := by decide +kernel
theorem dX10_power_3 : decode cX10_power 3 = .ok (.istore 5, 2) := by decide +kernel
theorem dX10_power_5 : decode cX10_power 5 = .ok (.iload 5, 2) := by decide +kernel
theorem dX10_power_7 : decode cX10_power 7 = .ok (.iload_n 2, 1) := by decide +kernel
theorem dX10_power_8 : decode cX10_power 8 = .ok (.if_icmp .ge 13, 3) := by decide +kernel
theorem dX10_power_11 : decode cX10_power 11 = .ok (.lload_n 3, 1) := by decide +kernel
theorem dX10_power_12 : decode cX10_power 12 = .ok (.lload_n 0, 1) := by decide +kernel
theorem dX10_power_13 : decode cX10_power 13 = .ok (.lmul, 1) := by decide +kernel
theorem dX10_power_14 : decode cX10_power 14 = .ok (.lstore_n 3, 1) := by decide +kernel
theorem dX10_power_15 : decode cX10_power 15 = .ok (.iinc 5 1, 3) := by decide +kernel
theorem dX10_power_18 : decode cX10_power 18 = .ok (.goto (-13), 3) := by decide +kernel
theorem dX10_power_21 : decode cX10_power 21 = .ok (.lload_n 3, 1) := by decide +kernel
theorem dX10_power_22 : decode cX10_power 22 = .ok (.lreturn, 1) := by decide +kernel
theorem dX10_loaded_0 : decode cX10_loaded 0 = .ok (.aload_n 0, 1) := by decide +kernel
theorem dX10_loaded_1 : decode cX10_loaded 1 = .ok (.iconst 0, 1) := by decide +kernel
theorem dX10_loaded_2 : decode cX10_loaded 2 = .ok (.putfield 133, 3) := by decide +kernel
theorem dX10_loaded_5 : decode cX10_loaded 5 = .ok (.aload_n 0, 1) := by decide +kernel
theorem dX10_loaded_6 : decode cX10_loaded 6 = .ok (.iload_n 1, 1) := by decide +kernel
theorem dX10_loaded_7 : decode cX10_loaded 7 = .ok (.iconst 0, 1) := by decide +kernel
theorem dX10_loaded_8 : decode cX10_loaded 8 = .ok (.bipush 16, 2) := by decide +kernel
theorem dX10_loaded_10 : decode cX10_loaded 10 = .ok (.invokestatic 167, 3) := by decide +kernel
theorem dX10_loaded_13 : decode cX10_loaded 13 = .ok (.ifCond .eq 32, 3) := by decide +kernel
theorem dX10_loaded_16 : decode cX10_loaded 16 = .ok (.iload_n 2, 1) := by decide +kernel
theorem dX10_loaded_17 : decode cX10_loaded 17 = .ok (.iconst 0, 1) := by decide +kernel
theorem dX10_loaded_18 : decode cX10_loaded 18 = .ok (.bipush 6, 2) := by decide +kernel
theorem dX10_loaded_20 : decode cX10_loaded 20 = .ok (.invokestatic 167, 3) := by decide +kernel
theorem dX10_loaded_23 : decode cX10_loaded 23 = .ok (.ifCond .eq 22, 3) := by decide +kernel
theorem dX10_loaded_26 : decode cX10_loaded 26 = .ok (.iload_n 3, 1) := by decide +kernel
theorem dX10_loaded_27 : decode cX10_loaded 27 = .ok (.iconst 0, 1) := by decide +kernel
theorem dX10_loaded_28 : decode cX10_loaded 28 = .ok (.iload_n 2, 1) := by decide +kernel
theorem dX10_loaded_29 : decode cX10_loaded 29 = .ok (.invokestatic 167, 3) := by decide +kernel
theorem dX10_loaded_32 : decode cX10_loaded 32 = .ok (.ifCond .eq 13, 3) := by decide +kernel
theorem dX10_loaded_35 : decode cX10_loaded 35 = .ok (.iload 4, 2) := by decide +kernel
theorem dX10_loaded_37 : decode cX10_loaded 37 = .ok (.iconst 0, 1) := by decide +kernel
theorem dX10_loaded_38 : decode cX10_loaded 38 = .ok (.iconst 1, 1) := by decide +kernel
theorem dX10_loaded_39 : decode cX10_loaded 39 = .ok (.invokestatic 167, 3) := by decide +kernel
theorem dX10_loaded_42 : decode cX10_loaded 42 = .ok (.ifCond .ne 7, 3) := by decide +kernel
theorem dX10_loaded_45 : decode cX10_loaded 45 = .ok (.iconst 1, 1) := by decide +kernel
theorem dX10_loaded_46 : decode cX10_loaded 46 = .ok (.goto 4, 3) := by decide +kernel
theorem dX10_loaded_49 : decode cX10_loaded 49 = .ok (.iconst 0, 1) := by decide +kernel
theorem dX10_loaded_50 : decode cX10_loaded 50 = .ok (.iconst 1, 1) := by decide +kernel
theorem dX10_loaded_51 : decode cX10_loaded 51 = .ok (.iconst 1, 1) := by decide +kernel
theorem dX10_loaded_52 : decode cX10_loaded 52 = .ok (.invokevirtual 212, 3) := by decide +kernel
theorem dX10_loaded_55 : decode cX10_loaded 55 = .ok (.ifCond .eq 5, 3) := by decide +kernel
theorem dX10_loaded_58 : decode cX10_loaded 58 = .ok (.lconst 0, 1) := by decide +kernel
theorem dX10_loaded_59 : decode cX10_loaded 59 = .ok (.lreturn, 1) := by decide +kernel
theorem dX10_loaded_60 : decode cX10_loaded 60 = .ok (.iload_n 1, 1) := by decide +kernel
theorem dX10_loaded_61 : decode cX10_loaded 61 = .ok (.i2l, 1) := by decide +kernel
theorem dX10_loaded_62 : decode cX10_loaded 62 = .ok (.ldc2_w 367, 3) := by decide +kernel
theorem dX10_loaded_65 : decode cX10_loaded 65 = .ok (.iload_n 3, 1) := by decide +kernel
theorem dX10_loaded_66 : decode cX10_loaded 66 = .ok (.invokestatic 369, 3) := by decide +kernel
theorem dX10_loaded_69 : decode cX10_loaded 69 = .ok (.lmul, 1) := by decide +kernel
theorem dX10_loaded_70 : decode cX10_loaded 70 = .ok (.ldc2_w 373, 3) := by decide +kernel
theorem dX10_loaded_73 : decode cX10_loaded 73 = .ok (.iload_n 2, 1) := by decide +kernel
theorem dX10_loaded_74 : decode cX10_loaded 74 = .ok (.iload_n 3, 1) := by decide +kernel
theorem dX10_loaded_75 : decode cX10_loaded 75 = .ok (.isub, 1) := by decide +kernel
theorem dX10_loaded_76 : decode cX10_loaded 76 = .ok (.invokestatic 369, 3) := by decide +kernel
theorem dX10_loaded_79 : decode cX10_loaded 79 = .ok (.lmul, 1) := by decide +kernel
theorem dX10_loaded_80 : decode cX10_loaded 80 = .ok (.lstore 5, 2) := by decide +kernel
theorem dX10_loaded_82 : decode cX10_loaded 82 = .ok (.lload 5, 2) := by decide +kernel
theorem dX10_loaded_84 : decode cX10_loaded 84 = .ok (.bipush 16, 2) := by decide +kernel
theorem dX10_loaded_86 : decode cX10_loaded 86 = .ok (.iload_n 1, 1) := by decide +kernel
theorem dX10_loaded_87 : decode cX10_loaded 87 = .ok (.isub, 1) := by decide +kernel
theorem dX10_loaded_88 : decode cX10_loaded 88 = .ok (.i2l, 1) := by decide +kernel
theorem dX10_loaded_89 : decode cX10_loaded 89 = .ok (.ldc2_w 375, 3) := by decide +kernel
theorem dX10_loaded_92 : decode cX10_loaded 92 = .ok (.iload_n 3, 1) := by decide +kernel
theorem dX10_loaded_93 : decode cX10_loaded 93 = .ok (.invokestatic 369, 3) := by decide +kernel
theorem dX10_loaded_96 : decode cX10_loaded 96 = .ok (.lmul, 1) := by decide +kernel
theorem dX10_loaded_97 : decode cX10_loaded 97 = .ok (.ldc2_w 377, 3) := by decide +kernel
theorem dX10_loaded_100 : decode cX10_loaded 100 = .ok (.iload_n 2, 1) := by decide +kernel
theorem dX10_loaded_101 : decode cX10_loaded 101 = .ok (.iload_n 3, 1) := by decide +kernel
theorem dX10_loaded_102 : decode cX10_loaded 102 = .ok (.isub, 1) := by decide +kernel
theorem dX10_loaded_103 : decode cX10_loaded 103 = .ok (.invokestatic 369, 3) := by decide +kernel
theorem dX10_loaded_106 : decode cX10_loaded 106 = .ok (.lmul, 1) := by decide +kernel
theorem dX10_loaded_107 : decode cX10_loaded 107 = .ok (.ladd, 1) := by decide +kernel
theorem dX10_loaded_108 : decode cX10_loaded 108 = .ok (.lstore 7, 2) := by decide +kernel
theorem dX10_loaded_110 : decode cX10_loaded 110 = .ok (.lload 7, 2) := by decide +kernel
theorem dX10_loaded_112 : decode cX10_loaded 112 = .ok (.lstore 9, 2) := by decide +kernel
theorem dX10_loaded_114 : decode cX10_loaded 114 = .ok (.lload 5, 2) := by decide +kernel
theorem dX10_loaded_116 : decode cX10_loaded 116 = .ok (.lstore 11, 2) := by decide +kernel
theorem dX10_loaded_118 : decode cX10_loaded 118 = .ok (.lload 11, 2) := by decide +kernel
theorem dX10_loaded_120 : decode cX10_loaded 120 = .ok (.lconst 0, 1) := by decide +kernel
theorem dX10_loaded_121 : decode cX10_loaded 121 = .ok (.lcmp, 1) := by decide +kernel
theorem dX10_loaded_122 : decode cX10_loaded 122 = .ok (.ifCond .eq 21, 3) := by decide +kernel
theorem dX10_loaded_125 : decode cX10_loaded 125 = .ok (.lload 9, 2) := by decide +kernel
theorem dX10_loaded_127 : decode cX10_loaded 127 = .ok (.lload 11, 2) := by decide +kernel
theorem dX10_loaded_129 : decode cX10_loaded 129 = .ok (.lrem, 1) := by decide +kernel
theorem dX10_loaded_130 : decode cX10_loaded 130 = .ok (.lstore 13, 2) := by decide +kernel
theorem dX10_loaded_132 : decode cX10_loaded 132 = .ok (.lload 11, 2) := by decide +kernel
theorem dX10_loaded_134 : decode cX10_loaded 134 = .ok (.lstore 9, 2) := by decide +kernel
theorem dX10_loaded_136 : decode cX10_loaded 136 = .ok (.lload 13, 2) := by decide +kernel
theorem dX10_loaded_138 : decode cX10_loaded 138 = .ok (.lstore 11, 2) := by decide +kernel
theorem dX10_loaded_140 : decode cX10_loaded 140 = .ok (.goto (-22), 3) := by decide +kernel
theorem dX10_loaded_143 : decode cX10_loaded 143 = .ok (.iload 4, 2) := by decide +kernel
theorem dX10_loaded_145 : decode cX10_loaded 145 = .ok (.ifCond .ne 11, 3) := by decide +kernel
theorem dX10_loaded_148 : decode cX10_loaded 148 = .ok (.lload 5, 2) := by decide +kernel
theorem dX10_loaded_150 : decode cX10_loaded 150 = .ok (.lload 9, 2) := by decide +kernel
theorem dX10_loaded_152 : decode cX10_loaded 152 = .ok (.ldiv, 1) := by decide +kernel
theorem dX10_loaded_153 : decode cX10_loaded 153 = .ok (.goto 8, 3) := by decide +kernel
theorem dX10_loaded_156 : decode cX10_loaded 156 = .ok (.lload 7, 2) := by decide +kernel
theorem dX10_loaded_158 : decode cX10_loaded 158 = .ok (.lload 9, 2) := by decide +kernel
theorem dX10_loaded_160 : decode cX10_loaded 160 = .ok (.ldiv, 1) := by decide +kernel
theorem dX10_loaded_161 : decode cX10_loaded 161 = .ok (.lreturn, 1) := by decide +kernel
theorem dX10_blinds_0 : decode cX10_blinds 0 = .ok (.aload_n 0, 1) := by decide +kernel
theorem dX10_blinds_1 : decode cX10_blinds 1 = .ok (.iconst 0, 1) := by decide +kernel
theorem dX10_blinds_2 : decode cX10_blinds 2 = .ok (.putfield 133, 3) := by decide +kernel
theorem dX10_blinds_5 : decode cX10_blinds 5 = .ok (.aload_n 0, 1) := by decide +kernel
theorem dX10_blinds_6 : decode cX10_blinds 6 = .ok (.iload_n 1, 1) := by decide +kernel
theorem dX10_blinds_7 : decode cX10_blinds 7 = .ok (.bipush 17, 2) := by decide +kernel
theorem dX10_blinds_9 : decode cX10_blinds 9 = .ok (.bipush 99, 2) := by decide +kernel
theorem dX10_blinds_11 : decode cX10_blinds 11 = .ok (.invokestatic 167, 3) := by decide +kernel
theorem dX10_blinds_14 : decode cX10_blinds 14 = .ok (.ifCond .ne 7, 3) := by decide +kernel
theorem dX10_blinds_17 : decode cX10_blinds 17 = .ok (.iconst 1, 1) := by decide +kernel
theorem dX10_blinds_18 : decode cX10_blinds 18 = .ok (.goto 4, 3) := by decide +kernel
theorem dX10_blinds_21 : decode cX10_blinds 21 = .ok (.iconst 0, 1) := by decide +kernel
theorem dX10_blinds_22 : decode cX10_blinds 22 = .ok (.iconst 1, 1) := by decide +kernel
theorem dX10_blinds_23 : decode cX10_blinds 23 = .ok (.iconst 1, 1) := by decide +kernel
theorem dX10_blinds_24 : decode cX10_blinds 24 = .ok (.invokevirtual 212, 3) := by decide +kernel
theorem dX10_blinds_27 : decode cX10_blinds 27 = .ok (.ifCond .eq 5, 3) := by decide +kernel
theorem dX10_blinds_30 : decode cX10_blinds 30 = .ok (.iconst 0, 1) := by decide +kernel
theorem dX10_blinds_31 : decode cX10_blinds 31 = .ok (.ireturn, 1) := by decide +kernel
theorem dX10_blinds_32 : decode cX10_blinds 32 = .ok (.aload_n 0, 1) := by decide +kernel
theorem dX10_blinds_33 : decode cX10_blinds 33 = .ok (.iload_n 1, 1) := by decide +kernel
theorem dX10_blinds_34 : decode cX10_blinds 34 = .ok (.invokevirtual 318, 3) := by decide +kernel
theorem dX10_blinds_37 : decode cX10_blinds 37 = .ok (.ireturn, 1) := by decide +kernel
theorem dX10_old_0 : decode cX10_old 0 = .ok (.aload_n 0, 1) := by decide +kernel
theorem dX10_old_1 : decode cX10_old 1 = .ok (.iconst 0, 1) := by decide +kernel
theorem dX10_old_2 : decode cX10_old 2 = .ok (.putfield 133, 3) := by decide +kernel
theorem dX10_old_5 : decode cX10_old 5 = .ok (.aload_n 0, 1) := by decide +kernel
theorem dX10_old_6 : decode cX10_old 6 = .ok (.iload_n 1, 1) := by decide +kernel
theorem dX10_old_7 : decode cX10_old 7 = .ok (.iconst 0, 1) := by decide +kernel
theorem dX10_old_8 : decode cX10_old 8 = .ok (.bipush 20, 2) := by decide +kernel
theorem dX10_old_10 : decode cX10_old 10 = .ok (.invokestatic 167, 3) := by decide +kernel
theorem dX10_old_13 : decode cX10_old 13 = .ok (.ifCond .ne 7, 3) := by decide +kernel
theorem dX10_old_16 : decode cX10_old 16 = .ok (.iconst 1, 1) := by decide +kernel
theorem dX10_old_17 : decode cX10_old 17 = .ok (.goto 4, 3) := by decide +kernel
theorem dX10_old_20 : decode cX10_old 20 = .ok (.iconst 0, 1) := by decide +kernel
theorem dX10_old_21 : decode cX10_old 21 = .ok (.iconst 1, 1) := by decide +kernel
theorem dX10_old_22 : decode cX10_old 22 = .ok (.iconst 1, 1) := by decide +kernel
theorem dX10_old_23 : decode cX10_old 23 = .ok (.invokevirtual 212, 3) := by decide +kernel
theorem dX10_old_26 : decode cX10_old 26 = .ok (.ifCond .eq 5, 3) := by decide +kernel
theorem dX10_old_29 : decode cX10_old 29 = .ok (.iconst 0, 1) := by decide +kernel
theorem dX10_old_30 : decode cX10_old 30 = .ok (.ireturn, 1) := by decide +kernel
theorem dX10_old_31 : decode cX10_old 31 = .ok (.bipush 17, 2) := by decide +kernel
theorem dX10_old_33 : decode cX10_old 33 = .ok (.istore_n 2, 1) := by decide +kernel
theorem dX10_old_34 : decode cX10_old 34 = .ok (.iload_n 2, 1) := by decide +kernel
theorem dX10_old_35 : decode cX10_old 35 = .ok (.bipush 100, 2) := by decide +kernel
theorem dX10_old_37 : decode cX10_old 37 = .ok (.if_icmp .ge 20, 3) := by decide +kernel
theorem dX10_old_40 : decode cX10_old 40 = .ok (.aload_n 0, 1) := by decide +kernel
theorem dX10_old_41 : decode cX10_old 41 = .ok (.iload_n 2, 1) := by decide +kernel
theorem dX10_old_42 : decode cX10_old 42 = .ok (.invokevirtual 318, 3) := by decide +kernel
theorem dX10_old_45 : decode cX10_old 45 = .ok (.iload_n 1, 1) := by decide +kernel
theorem dX10_old_46 : decode cX10_old 46 = .ok (.if_icmp .le 5, 3) := by decide +kernel
theorem dX10_old_49 : decode cX10_old 49 = .ok (.iload_n 2, 1) := by decide +kernel
theorem dX10_old_50 : decode cX10_old 50 = .ok (.ireturn, 1) := by decide +kernel
theorem dX10_old_51 : decode cX10_old 51 = .ok (.iinc 2 1, 3) := by decide +kernel
theorem dX10_old_54 : decode cX10_old 54 = .ok (.goto (-20), 3) := by decide +kernel
theorem dX10_old_57 : decode cX10_old 57 = .ok (.iconst (-1), 1) := by decide +kernel
theorem dX10_old_58 : decode cX10_old 58 = .ok (.ireturn, 1) := by decide +kernel
theorem dX10_between_0 : decode cX10_between 0 = .ok (.aload_n 0, 1) := by decide +kernel
theorem dX10_between_1 : decode cX10_between 1 = .ok (.iconst 0, 1) := by decide +kernel
theorem dX10_between_2 : decode cX10_between 2 = .ok (.putfield 133, 3) := by decide +kernel
theorem dX10_between_5 : decode cX10_between 5 = .ok (.aload_n 0, 1) := by decide +kernel
theorem dX10_between_6 : decode cX10_between 6 = .ok (.iload_n 1, 1) := by decide +kernel
theorem dX10_between_7 : decode cX10_between 7 = .ok (.bipush 17, 2) := by decide +kernel
theorem dX10_between_9 : decode cX10_between 9 = .ok (.bipush 99, 2) := by decide +kernel
theorem dX10_between_11 : decode cX10_between 11 = .ok (.invokestatic 167, 3) := by decide +kernel
theorem dX10_between_14 : decode cX10_between 14 = .ok (.ifCond .eq 13, 3) := by decide +kernel
theorem dX10_between_17 : decode cX10_between 17 = .ok (.iload_n 2, 1) := by decide +kernel
theorem dX10_between_18 : decode cX10_between 18 = .ok (.iconst 0, 1) := by decide +kernel
theorem dX10_between_19 : decode cX10_between 19 = .ok (.bipush 60, 2) := by decide +kernel
theorem dX10_between_21 : decode cX10_between 21 = .ok (.invokestatic 167, 3) := by decide +kernel
theorem dX10_between_24 : decode cX10_between 24 = .ok (.ifCond .ne 7, 3) := by decide +kernel
theorem dX10_between_27 : decode cX10_between 27 = .ok (.iconst 1, 1) := by decide +kernel
theorem dX10_between_28 : decode cX10_between 28 = .ok (.goto 4, 3) := by decide +kernel
theorem dX10_between_31 : decode cX10_between 31 = .ok (.iconst 0, 1) := by decide +kernel
theorem dX10_between_32 : decode cX10_between 32 = .ok (.iconst 1, 1) := by decide +kernel
theorem dX10_between_33 : decode cX10_between 33 = .ok (.iconst 1, 1) := by decide +kernel
theorem dX10_between_34 : decode cX10_between 34 = .ok (.invokevirtual 212, 3) := by decide +kernel
theorem dX10_between_37 : decode cX10_between 37 = .ok (.ifCond .eq 5, 3) := by decide +kernel
theorem dX10_between_40 : decode cX10_between 40 = .ok (.iconst 0, 1) := by decide +kernel
theorem dX10_between_41 : decode cX10_between 41 = .ok (.ireturn, 1) := by decide +kernel
theorem dX10_between_42 : decode cX10_between 42 = .ok (.iload_n 2, 1) := by decide +kernel
theorem dX10_between_43 : decode cX10_between 43 = .ok (.aload_n 0, 1) := by decide +kernel
theorem dX10_between_44 : decode cX10_between 44 = .ok (.iload_n 1, 1) := by decide +kernel
theorem dX10_between_45 : decode cX10_between 45 = .ok (.invokevirtual 318, 3) := by decide +kernel
theorem dX10_between_48 : decode cX10_between 48 = .ok (.isub, 1) := by decide +kernel
theorem dX10_between_49 : decode cX10_between 49 = .ok (.iconst 3, 1) := by decide +kernel
theorem dX10_between_50 : decode cX10_between 50 = .ok (.isub, 1) := by decide +kernel
theorem dX10_between_51 : decode cX10_between 51 = .ok (.iconst 2, 1) := by decide +kernel
theorem dX10_between_52 : decode cX10_between 52 = .ok (.if_icmp .lt 7, 3) := by decide +kernel
theorem dX10_between_55 : decode cX10_between 55 = .ok (.iconst 1, 1) := by decide +kernel
theorem dX10_between_56 : decode cX10_between 56 = .ok (.goto 4, 3) := by decide +kernel
theorem dX10_between_59 : decode cX10_between 59 = .ok (.iconst 0, 1) := by decide +kernel
theorem dX10_between_60 : decode cX10_between 60 = .ok (.ireturn, 1) := by decide +kernel
theorem dX10_getsBy_0 : decode cX10_getsBy 0 = .ok (.iconst 0, 1) := by decide +kernel
theorem dX10_getsBy_1 : decode cX10_getsBy 1 = .ok (.iload_n 1, 1) := by decide +kernel
theorem dX10_getsBy_2 : decode cX10_getsBy 2 = .ok (.iload_n 0, 1) := by decide +kernel
theorem dX10_getsBy_3 : decode cX10_getsBy 3 = .ok (.isub, 1) := by decide +kernel
theorem dX10_getsBy_4 : decode cX10_getsBy 4 = .ok (.invokestatic 272, 3) := by decide +kernel
theorem dX10_getsBy_7 : decode cX10_getsBy 7 = .ok (.istore_n 2, 1) := by decide +kernel
theorem dX10_getsBy_8 : decode cX10_getsBy 8 = .ok (.iconst 3, 1) := by decide +kernel
theorem dX10_getsBy_9 : decode cX10_getsBy 9 = .ok (.iload_n 0, 1) := by decide +kernel
theorem dX10_getsBy_10 : decode cX10_getsBy 10 = .ok (.imul, 1) := by decide +kernel
theorem dX10_getsBy_11 : decode cX10_getsBy 11 = .ok (.iload_n 2, 1) := by decide +kernel
theorem dX10_getsBy_12 : decode cX10_getsBy 12 = .ok (.iload_n 2, 1) := by decide +kernel
theorem dX10_getsBy_13 : decode cX10_getsBy 13 = .ok (.imul, 1) := by decide +kernel
theorem dX10_getsBy_14 : decode cX10_getsBy 14 = .ok (.isub, 1) := by decide +kernel
theorem dX10_getsBy_15 : decode cX10_getsBy 15 = .ok (.iload_n 0, 1) := by decide +kernel
theorem dX10_getsBy_16 : decode cX10_getsBy 16 = .ok (.iload_n 1, 1) := by decide +kernel
theorem dX10_getsBy_17 : decode cX10_getsBy 17 = .ok (.iadd, 1) := by decide +kernel
theorem dX10_getsBy_18 : decode cX10_getsBy 18 = .ok (.iconst 2, 1) := by decide +kernel
theorem dX10_getsBy_19 : decode cX10_getsBy 19 = .ok (.idiv, 1) := by decide +kernel
theorem dX10_getsBy_20 : decode cX10_getsBy 20 = .ok (.isub, 1) := by decide +kernel
theorem dX10_getsBy_21 : decode cX10_getsBy 21 = .ok (.ireturn, 1) := by decide +kernel
theorem dX10_gets_0 : decode cX10_gets 0 = .ok (.aload_n 0, 1) := by decide +kernel
theorem dX10_gets_1 : decode cX10_gets 1 = .ok (.iconst 0, 1) := by decide +kernel
theorem dX10_gets_2 : decode cX10_gets 2 = .ok (.putfield 133, 3) := by decide +kernel
theorem dX10_gets_5 : decode cX10_gets 5 = .ok (.aload_n 0, 1) := by decide +kernel
theorem dX10_gets_6 : decode cX10_gets 6 = .ok (.iload_n 1, 1) := by decide +kernel
theorem dX10_gets_7 : decode cX10_gets 7 = .ok (.iconst 1, 1) := by decide +kernel
theorem dX10_gets_8 : decode cX10_gets 8 = .ok (.bipush 40, 2) := by decide +kernel
theorem dX10_gets_10 : decode cX10_gets 10 = .ok (.invokestatic 167, 3) := by decide +kernel
theorem dX10_gets_13 : decode cX10_gets 13 = .ok (.ifCond .eq 13, 3) := by decide +kernel
theorem dX10_gets_16 : decode cX10_gets 16 = .ok (.iload_n 2, 1) := by decide +kernel
theorem dX10_gets_17 : decode cX10_gets 17 = .ok (.iconst 1, 1) := by decide +kernel
theorem dX10_gets_18 : decode cX10_gets 18 = .ok (.bipush 40, 2) := by decide +kernel
theorem dX10_gets_20 : decode cX10_gets 20 = .ok (.invokestatic 167, 3) := by decide +kernel
theorem dX10_gets_23 : decode cX10_gets 23 = .ok (.ifCond .ne 7, 3) := by decide +kernel
theorem dX10_gets_26 : decode cX10_gets 26 = .ok (.iconst 1, 1) := by decide +kernel
theorem dX10_gets_27 : decode cX10_gets 27 = .ok (.goto 4, 3) := by decide +kernel
theorem dX10_gets_30 : decode cX10_gets 30 = .ok (.iconst 0, 1) := by decide +kernel
theorem dX10_gets_31 : decode cX10_gets 31 = .ok (.iconst 1, 1) := by decide +kernel
theorem dX10_gets_32 : decode cX10_gets 32 = .ok (.iconst 1, 1) := by decide +kernel
theorem dX10_gets_33 : decode cX10_gets 33 = .ok (.invokevirtual 212, 3) := by decide +kernel
theorem dX10_gets_36 : decode cX10_gets 36 = .ok (.ifCond .eq 5, 3) := by decide +kernel
theorem dX10_gets_39 : decode cX10_gets 39 = .ok (.iconst 0, 1) := by decide +kernel
theorem dX10_gets_40 : decode cX10_gets 40 = .ok (.ireturn, 1) := by decide +kernel
theorem dX10_gets_41 : decode cX10_gets 41 = .ok (.iload_n 1, 1) := by decide +kernel
theorem dX10_gets_42 : decode cX10_gets 42 = .ok (.iload_n 2, 1) := by decide +kernel
theorem dX10_gets_43 : decode cX10_gets 43 = .ok (.invokestatic 379, 3) := by decide +kernel
theorem dX10_gets_46 : decode cX10_gets 46 = .ok (.ireturn, 1) := by decide +kernel
theorem dX10_isBright_0 : decode cX10_isBright 0 = .ok (.iconst 1, 1) := by decide +kernel
theorem dX10_isBright_1 : decode cX10_isBright 1 = .ok (.istore_n 3, 1) := by decide +kernel
theorem dX10_isBright_2 : decode cX10_isBright 2 = .ok (.iload_n 3, 1) := by decide +kernel
theorem dX10_isBright_3 : decode cX10_isBright 3 = .ok (.iload_n 2, 1) := by decide +kernel
theorem dX10_isBright_4 : decode cX10_isBright 4 = .ok (.if_icmp .gt 24, 3) := by decide +kernel
theorem dX10_isBright_7 : decode cX10_isBright 7 = .ok (.iload_n 3, 1) := by decide +kernel
theorem dX10_isBright_8 : decode cX10_isBright 8 = .ok (.iload_n 1, 1) := by decide +kernel
theorem dX10_isBright_9 : decode cX10_isBright 9 = .ok (.invokestatic 379, 3) := by decide +kernel
theorem dX10_isBright_12 : decode cX10_isBright 12 = .ok (.iload_n 0, 1) := by decide +kernel
theorem dX10_isBright_13 : decode cX10_isBright 13 = .ok (.iload_n 1, 1) := by decide +kernel
theorem dX10_isBright_14 : decode cX10_isBright 14 = .ok (.invokestatic 379, 3) := by decide +kernel
theorem dX10_isBright_17 : decode cX10_isBright 17 = .ok (.if_icmp .le 5, 3) := by decide +kernel
theorem dX10_isBright_20 : decode cX10_isBright 20 = .ok (.iconst 0, 1) := by decide +kernel
theorem dX10_isBright_21 : decode cX10_isBright 21 = .ok (.ireturn, 1) := by decide +kernel
theorem dX10_isBright_22 : decode cX10_isBright 22 = .ok (.iinc 3 1, 3) := by decide +kernel
theorem dX10_isBright_25 : decode cX10_isBright 25 = .ok (.goto (-23), 3) := by decide +kernel
theorem dX10_isBright_28 : decode cX10_isBright 28 = .ok (.iconst 1, 1) := by decide +kernel
theorem dX10_isBright_29 : decode cX10_isBright 29 = .ok (.ireturn, 1) := by decide +kernel
theorem dX10_bulbs_0 : decode cX10_bulbs 0 = .ok (.aload_n 0, 1) := by decide +kernel
theorem dX10_bulbs_1 : decode cX10_bulbs 1 = .ok (.iconst 0, 1) := by decide +kernel
theorem dX10_bulbs_2 : decode cX10_bulbs 2 = .ok (.putfield 133, 3) := by decide +kernel
theorem dX10_bulbs_5 : decode cX10_bulbs 5 = .ok (.aload_n 0, 1) := by decide +kernel
theorem dX10_bulbs_6 : decode cX10_bulbs 6 = .ok (.iload_n 1, 1) := by decide +kernel
theorem dX10_bulbs_7 : decode cX10_bulbs 7 = .ok (.iconst 1, 1) := by decide +kernel
theorem dX10_bulbs_8 : decode cX10_bulbs 8 = .ok (.bipush 20, 2) := by decide +kernel
theorem dX10_bulbs_10 : decode cX10_bulbs 10 = .ok (.invokestatic 167, 3) := by decide +kernel
theorem dX10_bulbs_13 : decode cX10_bulbs 13 = .ok (.ifCond .eq 12, 3) := by decide +kernel
theorem dX10_bulbs_16 : decode cX10_bulbs 16 = .ok (.iload_n 2, 1) := by decide +kernel
theorem dX10_bulbs_17 : decode cX10_bulbs 17 = .ok (.iconst 0, 1) := by decide +kernel
theorem dX10_bulbs_18 : decode cX10_bulbs 18 = .ok (.iconst 2, 1) := by decide +kernel
theorem dX10_bulbs_19 : decode cX10_bulbs 19 = .ok (.invokestatic 167, 3) := by decide +kernel
theorem dX10_bulbs_22 : decode cX10_bulbs 22 = .ok (.ifCond .ne 7, 3) := by decide +kernel
theorem dX10_bulbs_25 : decode cX10_bulbs 25 = .ok (.iconst 1, 1) := by decide +kernel
theorem dX10_bulbs_26 : decode cX10_bulbs 26 = .ok (.goto 4, 3) := by decide +kernel
theorem dX10_bulbs_29 : decode cX10_bulbs 29 = .ok (.iconst 0, 1) := by decide +kernel
theorem dX10_bulbs_30 : decode cX10_bulbs 30 = .ok (.iconst 1, 1) := by decide +kernel
theorem dX10_bulbs_31 : decode cX10_bulbs 31 = .ok (.iconst 1, 1) := by decide +kernel
theorem dX10_bulbs_32 : decode cX10_bulbs 32 = .ok (.invokevirtual 212, 3) := by decide +kernel
theorem dX10_bulbs_35 : decode cX10_bulbs 35 = .ok (.ifCond .eq 5, 3) := by decide +kernel
theorem dX10_bulbs_38 : decode cX10_bulbs 38 = .ok (.iconst 0, 1) := by decide +kernel
theorem dX10_bulbs_39 : decode cX10_bulbs 39 = .ok (.ireturn, 1) := by decide +kernel
theorem dX10_bulbs_40 : decode cX10_bulbs 40 = .ok (.iconst 0, 1) := by decide +kernel
theorem dX10_bulbs_41 : decode cX10_bulbs 41 = .ok (.istore_n 3, 1) := by decide +kernel
theorem dX10_bulbs_42 : decode cX10_bulbs 42 = .ok (.iconst (-1), 1) := by decide +kernel
theorem dX10_bulbs_43 : decode cX10_bulbs 43 = .ok (.istore 4, 2) := by decide +kernel
theorem dX10_bulbs_45 : decode cX10_bulbs 45 = .ok (.iconst 1, 1) := by decide +kernel
theorem dX10_bulbs_46 : decode cX10_bulbs 46 = .ok (.istore 5, 2) := by decide +kernel
theorem dX10_bulbs_48 : decode cX10_bulbs 48 = .ok (.iload 5, 2) := by decide +kernel
theorem dX10_bulbs_50 : decode cX10_bulbs 50 = .ok (.iload_n 1, 1) := by decide +kernel
theorem dX10_bulbs_51 : decode cX10_bulbs 51 = .ok (.if_icmp .gt 71, 3) := by decide +kernel
theorem dX10_bulbs_54 : decode cX10_bulbs 54 = .ok (.iconst 1, 1) := by decide +kernel
theorem dX10_bulbs_55 : decode cX10_bulbs 55 = .ok (.istore 6, 2) := by decide +kernel
theorem dX10_bulbs_57 : decode cX10_bulbs 57 = .ok (.iload 6, 2) := by decide +kernel
theorem dX10_bulbs_59 : decode cX10_bulbs 59 = .ok (.iload_n 1, 1) := by decide +kernel
theorem dX10_bulbs_60 : decode cX10_bulbs 60 = .ok (.if_icmp .gt 56, 3) := by decide +kernel
theorem dX10_bulbs_63 : decode cX10_bulbs 63 = .ok (.iload 5, 2) := by decide +kernel
theorem dX10_bulbs_65 : decode cX10_bulbs 65 = .ok (.iload 6, 2) := by decide +kernel
theorem dX10_bulbs_67 : decode cX10_bulbs 67 = .ok (.iload_n 1, 1) := by decide +kernel
theorem dX10_bulbs_68 : decode cX10_bulbs 68 = .ok (.invokestatic 382, 3) := by decide +kernel
theorem dX10_bulbs_71 : decode cX10_bulbs 71 = .ok (.ifCond .eq 39, 3) := by decide +kernel
theorem dX10_bulbs_74 : decode cX10_bulbs 74 = .ok (.iload 6, 2) := by decide +kernel
theorem dX10_bulbs_76 : decode cX10_bulbs 76 = .ok (.iload 5, 2) := by decide +kernel
theorem dX10_bulbs_78 : decode cX10_bulbs 78 = .ok (.iload_n 1, 1) := by decide +kernel
theorem dX10_bulbs_79 : decode cX10_bulbs 79 = .ok (.invokestatic 382, 3) := by decide +kernel
theorem dX10_bulbs_82 : decode cX10_bulbs 82 = .ok (.ifCond .ne 6, 3) := by decide +kernel
theorem dX10_bulbs_85 : decode cX10_bulbs 85 = .ok (.goto 25, 3) := by decide +kernel
theorem dX10_bulbs_88 : decode cX10_bulbs 88 = .ok (.iload_n 3, 1) := by decide +kernel
theorem dX10_bulbs_89 : decode cX10_bulbs 89 = .ok (.ifCond .ne 14, 3) := by decide +kernel
theorem dX10_bulbs_92 : decode cX10_bulbs 92 = .ok (.bipush 100, 2) := by decide +kernel
theorem dX10_bulbs_94 : decode cX10_bulbs 94 = .ok (.iload 5, 2) := by decide +kernel
theorem dX10_bulbs_96 : decode cX10_bulbs 96 = .ok (.imul, 1) := by decide +kernel
theorem dX10_bulbs_97 : decode cX10_bulbs 97 = .ok (.iload 6, 2) := by decide +kernel
theorem dX10_bulbs_99 : decode cX10_bulbs 99 = .ok (.iadd, 1) := by decide +kernel
theorem dX10_bulbs_100 : decode cX10_bulbs 100 = .ok (.goto 5, 3) := by decide +kernel
theorem dX10_bulbs_103 : decode cX10_bulbs 103 = .ok (.iload 4, 2) := by decide +kernel
theorem dX10_bulbs_105 : decode cX10_bulbs 105 = .ok (.istore 4, 2) := by decide +kernel
theorem dX10_bulbs_107 : decode cX10_bulbs 107 = .ok (.iinc 3 1, 3) := by decide +kernel
theorem dX10_bulbs_110 : decode cX10_bulbs 110 = .ok (.iinc 6 1, 3) := by decide +kernel
theorem dX10_bulbs_113 : decode cX10_bulbs 113 = .ok (.goto (-56), 3) := by decide +kernel
theorem dX10_bulbs_116 : decode cX10_bulbs 116 = .ok (.iinc 5 1, 3) := by decide +kernel
theorem dX10_bulbs_119 : decode cX10_bulbs 119 = .ok (.goto (-71), 3) := by decide +kernel
theorem dX10_bulbs_122 : decode cX10_bulbs 122 = .ok (.iload_n 2, 1) := by decide +kernel
theorem dX10_bulbs_123 : decode cX10_bulbs 123 = .ok (.ifCond .ne 7, 3) := by decide +kernel
theorem dX10_bulbs_126 : decode cX10_bulbs 126 = .ok (.iload_n 3, 1) := by decide +kernel
theorem dX10_bulbs_127 : decode cX10_bulbs 127 = .ok (.goto 50, 3) := by decide +kernel
theorem dX10_bulbs_130 : decode cX10_bulbs 130 = .ok (.iload_n 2, 1) := by decide +kernel
theorem dX10_bulbs_131 : decode cX10_bulbs 131 = .ok (.iconst 1, 1) := by decide +kernel
theorem dX10_bulbs_132 : decode cX10_bulbs 132 = .ok (.if_icmp .ne 8, 3) := by decide +kernel
theorem dX10_bulbs_135 : decode cX10_bulbs 135 = .ok (.iload 4, 2) := by decide +kernel
theorem dX10_bulbs_137 : decode cX10_bulbs 137 = .ok (.goto 40, 3) := by decide +kernel
theorem dX10_bulbs_140 : decode cX10_bulbs 140 = .ok (.iload 4, 2) := by decide +kernel
theorem dX10_bulbs_142 : decode cX10_bulbs 142 = .ok (.iconst (-1), 1) := by decide +kernel
theorem dX10_bulbs_143 : decode cX10_bulbs 143 = .ok (.if_icmp .ne 7, 3) := by decide +kernel
theorem dX10_bulbs_146 : decode cX10_bulbs 146 = .ok (.iconst 0, 1) := by decide +kernel
theorem dX10_bulbs_147 : decode cX10_bulbs 147 = .ok (.goto 30, 3) := by decide +kernel
theorem dX10_bulbs_150 : decode cX10_bulbs 150 = .ok (.iload 4, 2) := by decide +kernel
theorem dX10_bulbs_152 : decode cX10_bulbs 152 = .ok (.bipush 100, 2) := by decide +kernel
theorem dX10_bulbs_154 : decode cX10_bulbs 154 = .ok (.idiv, 1) := by decide +kernel
theorem dX10_bulbs_155 : decode cX10_bulbs 155 = .ok (.iload 4, 2) := by decide +kernel
theorem dX10_bulbs_157 : decode cX10_bulbs 157 = .ok (.bipush 100, 2) := by decide +kernel
theorem dX10_bulbs_159 : decode cX10_bulbs 159 = .ok (.irem, 1) := by decide +kernel
theorem dX10_bulbs_160 : decode cX10_bulbs 160 = .ok (.invokestatic 379, 3) := by decide +kernel
theorem dX10_bulbs_163 : decode cX10_bulbs 163 = .ok (.iload 4, 2) := by decide +kernel
theorem dX10_bulbs_165 : decode cX10_bulbs 165 = .ok (.bipush 100, 2) := by decide +kernel
theorem dX10_bulbs_167 : decode cX10_bulbs 167 = .ok (.irem, 1) := by decide +kernel
theorem dX10_bulbs_168 : decode cX10_bulbs 168 = .ok (.iload 4, 2) := by decide +kernel
theorem dX10_bulbs_170 : decode cX10_bulbs 170 = .ok (.bipush 100, 2) := by decide +kernel
theorem dX10_bulbs_172 : decode cX10_bulbs 172 = .ok (.idiv, 1) := by decide +kernel
theorem dX10_bulbs_173 : decode cX10_bulbs 173 = .ok (.invokestatic 379, 3) := by decide +kernel
theorem dX10_bulbs_176 : decode cX10_bulbs 176 = .ok (.iadd, 1) := by decide +kernel
theorem dX10_bulbs_177 : decode cX10_bulbs 177 = .ok (.ireturn, 1) := by decide +kernel
theorem dX10_isLine_0 : decode cX10_isLine 0 = .ok (.aload_n 0, 1) := by decide +kernel
theorem dX10_isLine_1 : decode cX10_isLine 1 = .ok (.getfield 67, 3) := by decide +kernel
theorem dX10_isLine_4 : decode cX10_isLine 4 = .ok (.iload_n 1, 1) := by decide +kernel
theorem dX10_isLine_5 : decode cX10_isLine 5 = .ok (.aaload, 1) := by decide +kernel
theorem dX10_isLine_6 : decode cX10_isLine 6 = .ok (.iconst 0, 1) := by decide +kernel
theorem dX10_isLine_7 : decode cX10_isLine 7 = .ok (.iaload, 1) := by decide +kernel
theorem dX10_isLine_8 : decode cX10_isLine 8 = .ok (.istore_n 2, 1) := by decide +kernel
theorem dX10_isLine_9 : decode cX10_isLine 9 = .ok (.iload_n 2, 1) := by decide +kernel
theorem dX10_isLine_10 : decode cX10_isLine 10 = .ok (.aload_n 0, 1) := by decide +kernel
theorem dX10_isLine_11 : decode cX10_isLine 11 = .ok (.getfield 294, 3) := by decide +kernel
theorem dX10_isLine_14 : decode cX10_isLine 14 = .ok (.if_icmp .ge 42, 3) := by decide +kernel
theorem dX10_isLine_17 : decode cX10_isLine 17 = .ok (.aload_n 0, 1) := by decide +kernel
theorem dX10_isLine_18 : decode cX10_isLine 18 = .ok (.getfield 81, 3) := by decide +kernel
theorem dX10_isLine_21 : decode cX10_isLine 21 = .ok (.iconst 1, 1) := by decide +kernel
theorem dX10_isLine_22 : decode cX10_isLine 22 = .ok (.aaload, 1) := by decide +kernel
theorem dX10_isLine_23 : decode cX10_isLine 23 = .ok (.iload_n 2, 1) := by decide +kernel
theorem dX10_isLine_24 : decode cX10_isLine 24 = .ok (.aaload, 1) := by decide +kernel
theorem dX10_isLine_25 : decode cX10_isLine 25 = .ok (.iconst 0, 1) := by decide +kernel
theorem dX10_isLine_26 : decode cX10_isLine 26 = .ok (.iaload, 1) := by decide +kernel
theorem dX10_isLine_27 : decode cX10_isLine 27 = .ok (.iconst (-1), 1) := by decide +kernel
theorem dX10_isLine_28 : decode cX10_isLine 28 = .ok (.if_icmp .eq 28, 3) := by decide +kernel
theorem dX10_isLine_31 : decode cX10_isLine 31 = .ok (.aload_n 0, 1) := by decide +kernel
theorem dX10_isLine_32 : decode cX10_isLine 32 = .ok (.getfield 81, 3) := by decide +kernel
theorem dX10_isLine_35 : decode cX10_isLine 35 = .ok (.iconst 1, 1) := by decide +kernel
theorem dX10_isLine_36 : decode cX10_isLine 36 = .ok (.aaload, 1) := by decide +kernel
theorem dX10_isLine_37 : decode cX10_isLine 37 = .ok (.iload_n 2, 1) := by decide +kernel
theorem dX10_isLine_38 : decode cX10_isLine 38 = .ok (.aaload, 1) := by decide +kernel
theorem dX10_isLine_39 : decode cX10_isLine 39 = .ok (.iconst 1, 1) := by decide +kernel
theorem dX10_isLine_40 : decode cX10_isLine 40 = .ok (.iaload, 1) := by decide +kernel
theorem dX10_isLine_41 : decode cX10_isLine 41 = .ok (.aload_n 0, 1) := by decide +kernel
theorem dX10_isLine_42 : decode cX10_isLine 42 = .ok (.getfield 67, 3) := by decide +kernel
theorem dX10_isLine_45 : decode cX10_isLine 45 = .ok (.iload_n 1, 1) := by decide +kernel
theorem dX10_isLine_46 : decode cX10_isLine 46 = .ok (.aaload, 1) := by decide +kernel
theorem dX10_isLine_47 : decode cX10_isLine 47 = .ok (.iconst 1, 1) := by decide +kernel
theorem dX10_isLine_48 : decode cX10_isLine 48 = .ok (.iaload, 1) := by decide +kernel
theorem dX10_isLine_49 : decode cX10_isLine 49 = .ok (.if_icmp .ne 7, 3) := by decide +kernel
theorem dX10_isLine_52 : decode cX10_isLine 52 = .ok (.iconst 1, 1) := by decide +kernel
theorem dX10_isLine_53 : decode cX10_isLine 53 = .ok (.goto 4, 3) := by decide +kernel
theorem dX10_isLine_56 : decode cX10_isLine 56 = .ok (.iconst 0, 1) := by decide +kernel
theorem dX10_isLine_57 : decode cX10_isLine 57 = .ok (.ireturn, 1) := by decide +kernel
theorem dX10_rightLines_0 : decode cX10_rightLines 0 = .ok (.iconst 0, 1) := by decide +kernel
theorem dX10_rightLines_1 : decode cX10_rightLines 1 = .ok (.istore_n 1, 1) := by decide +kernel
theorem dX10_rightLines_2 : decode cX10_rightLines 2 = .ok (.iload_n 1, 1) := by decide +kernel
theorem dX10_rightLines_3 : decode cX10_rightLines 3 = .ok (.aload_n 0, 1) := by decide +kernel
theorem dX10_rightLines_4 : decode cX10_rightLines 4 = .ok (.getfield 229, 3) := by decide +kernel
theorem dX10_rightLines_7 : decode cX10_rightLines 7 = .ok (.if_icmp .ge 17, 3) := by decide +kernel
theorem dX10_rightLines_10 : decode cX10_rightLines 10 = .ok (.aload_n 0, 1) := by decide +kernel
theorem dX10_rightLines_11 : decode cX10_rightLines 11 = .ok (.iload_n 1, 1) := by decide +kernel
theorem dX10_rightLines_12 : decode cX10_rightLines 12 = .ok (.invokevirtual 385, 3) := by decide +kernel
theorem dX10_rightLines_15 : decode cX10_rightLines 15 = .ok (.ifCond .eq 9, 3) := by decide +kernel
theorem dX10_rightLines_18 : decode cX10_rightLines 18 = .ok (.iinc 1 1, 3) := by decide +kernel
theorem dX10_rightLines_21 : decode cX10_rightLines 21 = .ok (.goto (-19), 3) := by decide +kernel
theorem dX10_rightLines_24 : decode cX10_rightLines 24 = .ok (.iload_n 1, 1) := by decide +kernel
theorem dX10_rightLines_25 : decode cX10_rightLines 25 = .ok (.ireturn, 1) := by decide +kernel
theorem dX10_distancesNow_0 : decode cX10_distancesNow 0 = .ok (.lconst 0, 1) := by decide +kernel
theorem dX10_distancesNow_1 : decode cX10_distancesNow 1 = .ok (.lstore_n 1, 1) := by decide +kernel
theorem dX10_distancesNow_2 : decode cX10_distancesNow 2 = .ok (.iconst 0, 1) := by decide +kernel
theorem dX10_distancesNow_3 : decode cX10_distancesNow 3 = .ok (.istore_n 3, 1) := by decide +kernel
theorem dX10_distancesNow_4 : decode cX10_distancesNow 4 = .ok (.iload_n 3, 1) := by decide +kernel
theorem dX10_distancesNow_5 : decode cX10_distancesNow 5 = .ok (.bipush 40, 2) := by decide +kernel
theorem dX10_distancesNow_7 : decode cX10_distancesNow 7 = .ok (.if_icmp .gt 36, 3) := by decide +kernel
theorem dX10_distancesNow_10 : decode cX10_distancesNow 10 = .ok (.aload_n 0, 1) := by decide +kernel
theorem dX10_distancesNow_11 : decode cX10_distancesNow 11 = .ok (.iconst (-1), 1) := by decide +kernel
theorem dX10_distancesNow_12 : decode cX10_distancesNow 12 = .ok (.iload_n 3, 1) := by decide +kernel
theorem dX10_distancesNow_13 : decode cX10_distancesNow 13 = .ok (.invokevirtual 334, 3) := by decide +kernel
theorem dX10_distancesNow_16 : decode cX10_distancesNow 16 = .ok (.lload_n 1, 1) := by decide +kernel
theorem dX10_distancesNow_17 : decode cX10_distancesNow 17 = .ok (.aload_n 0, 1) := by decide +kernel
theorem dX10_distancesNow_18 : decode cX10_distancesNow 18 = .ok (.invokevirtual 388, 3) := by decide +kernel
theorem dX10_distancesNow_21 : decode cX10_distancesNow 21 = .ok (.aload_n 0, 1) := by decide +kernel
theorem dX10_distancesNow_22 : decode cX10_distancesNow 22 = .ok (.getfield 229, 3) := by decide +kernel
theorem dX10_distancesNow_25 : decode cX10_distancesNow 25 = .ok (.if_icmp .ne 9, 3) := by decide +kernel
theorem dX10_distancesNow_28 : decode cX10_distancesNow 28 = .ok (.lconst 1, 1) := by decide +kernel
theorem dX10_distancesNow_29 : decode cX10_distancesNow 29 = .ok (.iload_n 3, 1) := by decide +kernel
theorem dX10_distancesNow_30 : decode cX10_distancesNow 30 = .ok (.lshl, 1) := by decide +kernel
theorem dX10_distancesNow_31 : decode cX10_distancesNow 31 = .ok (.goto 4, 3) := by decide +kernel
theorem dX10_distancesNow_34 : decode cX10_distancesNow 34 = .ok (.lconst 0, 1) := by decide +kernel
theorem dX10_distancesNow_35 : decode cX10_distancesNow 35 = .ok (.lor, 1) := by decide +kernel
theorem dX10_distancesNow_36 : decode cX10_distancesNow 36 = .ok (.lstore_n 1, 1) := by decide +kernel
theorem dX10_distancesNow_37 : decode cX10_distancesNow 37 = .ok (.iinc 3 1, 3) := by decide +kernel
theorem dX10_distancesNow_40 : decode cX10_distancesNow 40 = .ok (.goto (-36), 3) := by decide +kernel
theorem dX10_distancesNow_43 : decode cX10_distancesNow 43 = .ok (.lload_n 1, 1) := by decide +kernel
theorem dX10_distancesNow_44 : decode cX10_distancesNow 44 = .ok (.lreturn, 1) := by decide +kernel
theorem dX10_distances_0 : decode cX10_distances 0 = .ok (.aload_n 0, 1) := by decide +kernel
theorem dX10_distances_1 : decode cX10_distances 1 = .ok (.iconst 0, 1) := by decide +kernel
theorem dX10_distances_2 : decode cX10_distances 2 = .ok (.putfield 133, 3) := by decide +kernel
theorem dX10_distances_5 : decode cX10_distances 5 = .ok (.aload_n 0, 1) := by decide +kernel
theorem dX10_distances_6 : decode cX10_distances 6 = .ok (.iconst 1, 1) := by decide +kernel
theorem dX10_distances_7 : decode cX10_distances 7 = .ok (.invokevirtual 355, 3) := by decide +kernel
theorem dX10_distances_10 : decode cX10_distances 10 = .ok (.ifCond .eq 5, 3) := by decide +kernel
theorem dX10_distances_13 : decode cX10_distances 13 = .ok (.lconst 0, 1) := by decide +kernel
theorem dX10_distances_14 : decode cX10_distances 14 = .ok (.lreturn, 1) := by decide +kernel
theorem dX10_distances_15 : decode cX10_distances 15 = .ok (.aload_n 0, 1) := by decide +kernel
theorem dX10_distances_16 : decode cX10_distances 16 = .ok (.invokevirtual 391, 3) := by decide +kernel
theorem dX10_distances_19 : decode cX10_distances 19 = .ok (.lreturn, 1) := by decide +kernel
theorem dX10_isInBook_0 : decode cX10_isInBook 0 = .ok (.iconst 0, 1) := by decide +kernel
theorem dX10_isInBook_1 : decode cX10_isInBook 1 = .ok (.istore_n 2, 1) := by decide +kernel
theorem dX10_isInBook_2 : decode cX10_isInBook 2 = .ok (.iload_n 2, 1) := by decide +kernel
theorem dX10_isInBook_3 : decode cX10_isInBook 3 = .ok (.aload_n 0, 1) := by decide +kernel
theorem dX10_isInBook_4 : decode cX10_isInBook 4 = .ok (.getfield 229, 3) := by decide +kernel
theorem dX10_isInBook_7 : decode cX10_isInBook 7 = .ok (.if_icmp .ge 23, 3) := by decide +kernel
theorem dX10_isInBook_10 : decode cX10_isInBook 10 = .ok (.aload_n 0, 1) := by decide +kernel
theorem dX10_isInBook_11 : decode cX10_isInBook 11 = .ok (.getfield 67, 3) := by decide +kernel
theorem dX10_isInBook_14 : decode cX10_isInBook 14 = .ok (.iload_n 2, 1) := by decide +kernel
theorem dX10_isInBook_15 : decode cX10_isInBook 15 = .ok (.aaload, 1) := by decide +kernel
theorem dX10_isInBook_16 : decode cX10_isInBook 16 = .ok (.iconst 0, 1) := by decide +kernel
theorem dX10_isInBook_17 : decode cX10_isInBook 17 = .ok (.iaload, 1) := by decide +kernel
theorem dX10_isInBook_18 : decode cX10_isInBook 18 = .ok (.iload_n 1, 1) := by decide +kernel
theorem dX10_isInBook_19 : decode cX10_isInBook 19 = .ok (.if_icmp .ne 5, 3) := by decide +kernel
theorem dX10_isInBook_22 : decode cX10_isInBook 22 = .ok (.iconst 1, 1) := by decide +kernel
theorem dX10_isInBook_23 : decode cX10_isInBook 23 = .ok (.ireturn, 1) := by decide +kernel
theorem dX10_isInBook_24 : decode cX10_isInBook 24 = .ok (.iinc 2 1, 3) := by decide +kernel
theorem dX10_isInBook_27 : decode cX10_isInBook 27 = .ok (.goto (-25), 3) := by decide +kernel
theorem dX10_isInBook_30 : decode cX10_isInBook 30 = .ok (.iconst 0, 1) := by decide +kernel
theorem dX10_isInBook_31 : decode cX10_isInBook 31 = .ok (.ireturn, 1) := by decide +kernel
theorem dX10_look_0 : decode cX10_look 0 = .ok (.aload_n 0, 1) := by decide +kernel
theorem dX10_look_1 : decode cX10_look 1 = .ok (.iconst 0, 1) := by decide +kernel
theorem dX10_look_2 : decode cX10_look 2 = .ok (.putfield 133, 3) := by decide +kernel
theorem dX10_look_5 : decode cX10_look 5 = .ok (.aload_n 0, 1) := by decide +kernel
theorem dX10_look_6 : decode cX10_look 6 = .ok (.iload_n 1, 1) := by decide +kernel
theorem dX10_look_7 : decode cX10_look 7 = .ok (.iconst 0, 1) := by decide +kernel
theorem dX10_look_8 : decode cX10_look 8 = .ok (.iconst 1, 1) := by decide +kernel
theorem dX10_look_9 : decode cX10_look 9 = .ok (.invokestatic 167, 3) := by decide +kernel
theorem dX10_look_12 : decode cX10_look 12 = .ok (.ifCond .ne 7, 3) := by decide +kernel
theorem dX10_look_15 : decode cX10_look 15 = .ok (.iconst 1, 1) := by decide +kernel
theorem dX10_look_16 : decode cX10_look 16 = .ok (.goto 4, 3) := by decide +kernel
theorem dX10_look_19 : decode cX10_look 19 = .ok (.iconst 0, 1) := by decide +kernel
theorem dX10_look_20 : decode cX10_look 20 = .ok (.iconst 1, 1) := by decide +kernel
theorem dX10_look_21 : decode cX10_look 21 = .ok (.iconst 1, 1) := by decide +kernel
theorem dX10_look_22 : decode cX10_look 22 = .ok (.invokevirtual 212, 3) := by decide +kernel
theorem dX10_look_25 : decode cX10_look 25 = .ok (.ifCond .ne 11, 3) := by decide +kernel
theorem dX10_look_28 : decode cX10_look 28 = .ok (.aload_n 0, 1) := by decide +kernel
theorem dX10_look_29 : decode cX10_look 29 = .ok (.iconst 2, 1) := by decide +kernel
theorem dX10_look_30 : decode cX10_look 30 = .ok (.invokevirtual 355, 3) := by decide +kernel
theorem dX10_look_33 : decode cX10_look 33 = .ok (.ifCond .eq 5, 3) := by decide +kernel
theorem dX10_look_36 : decode cX10_look 36 = .ok (.iconst 0, 1) := by decide +kernel
theorem dX10_look_37 : decode cX10_look 37 = .ok (.ireturn, 1) := by decide +kernel
theorem dX10_look_38 : decode cX10_look 38 = .ok (.aload_n 0, 1) := by decide +kernel
theorem dX10_look_39 : decode cX10_look 39 = .ok (.invokevirtual 391, 3) := by decide +kernel
theorem dX10_look_42 : decode cX10_look 42 = .ok (.lstore_n 2, 1) := by decide +kernel
theorem dX10_look_43 : decode cX10_look 43 = .ok (.iconst 0, 1) := by decide +kernel
theorem dX10_look_44 : decode cX10_look 44 = .ok (.istore 4, 2) := by decide +kernel
theorem dX10_look_46 : decode cX10_look 46 = .ok (.iconst (-1), 1) := by decide +kernel
theorem dX10_look_47 : decode cX10_look 47 = .ok (.istore 5, 2) := by decide +kernel
theorem dX10_look_49 : decode cX10_look 49 = .ok (.iconst (-1), 1) := by decide +kernel
theorem dX10_look_50 : decode cX10_look 50 = .ok (.istore 6, 2) := by decide +kernel
theorem dX10_look_52 : decode cX10_look 52 = .ok (.iconst 0, 1) := by decide +kernel
theorem dX10_look_53 : decode cX10_look 53 = .ok (.istore 7, 2) := by decide +kernel
theorem dX10_look_55 : decode cX10_look 55 = .ok (.iload 7, 2) := by decide +kernel
theorem dX10_look_57 : decode cX10_look 57 = .ok (.bipush 99, 2) := by decide +kernel
theorem dX10_look_59 : decode cX10_look 59 = .ok (.if_icmp .ge 17, 3) := by decide +kernel
theorem dX10_look_62 : decode cX10_look 62 = .ok (.aload_n 0, 1) := by decide +kernel
theorem dX10_look_63 : decode cX10_look 63 = .ok (.getfield 117, 3) := by decide +kernel
theorem dX10_look_66 : decode cX10_look 66 = .ok (.iload 7, 2) := by decide +kernel
theorem dX10_look_68 : decode cX10_look 68 = .ok (.iconst 0, 1) := by decide +kernel
theorem dX10_look_69 : decode cX10_look 69 = .ok (.iastore, 1) := by decide +kernel
theorem dX10_look_70 : decode cX10_look 70 = .ok (.iinc 7 1, 3) := by decide +kernel
theorem dX10_look_73 : decode cX10_look 73 = .ok (.goto (-18), 3) := by decide +kernel
theorem dX10_look_76 : decode cX10_look 76 = .ok (.iconst 0, 1) := by decide +kernel
theorem dX10_look_77 : decode cX10_look 77 = .ok (.istore 7, 2) := by decide +kernel
theorem dX10_look_79 : decode cX10_look 79 = .ok (.iload 7, 2) := by decide +kernel
theorem dX10_look_81 : decode cX10_look 81 = .ok (.bipush 40, 2) := by decide +kernel
theorem dX10_look_83 : decode cX10_look 83 = .ok (.if_icmp .gt 91, 3) := by decide +kernel
theorem dX10_look_86 : decode cX10_look 86 = .ok (.lload_n 2, 1) := by decide +kernel
theorem dX10_look_87 : decode cX10_look 87 = .ok (.iload 7, 2) := by decide +kernel
theorem dX10_look_89 : decode cX10_look 89 = .ok (.lshr, 1) := by decide +kernel
theorem dX10_look_90 : decode cX10_look 90 = .ok (.lconst 1, 1) := by decide +kernel
theorem dX10_look_91 : decode cX10_look 91 = .ok (.land, 1) := by decide +kernel
theorem dX10_look_92 : decode cX10_look 92 = .ok (.lconst 0, 1) := by decide +kernel
theorem dX10_look_93 : decode cX10_look 93 = .ok (.lcmp, 1) := by decide +kernel
theorem dX10_look_94 : decode cX10_look 94 = .ok (.ifCond .ne 6, 3) := by decide +kernel
theorem dX10_look_97 : decode cX10_look 97 = .ok (.goto 71, 3) := by decide +kernel
theorem dX10_look_100 : decode cX10_look 100 = .ok (.iinc 4 1, 3) := by decide +kernel
theorem dX10_look_103 : decode cX10_look 103 = .ok (.aload_n 0, 1) := by decide +kernel
theorem dX10_look_104 : decode cX10_look 104 = .ok (.iconst (-1), 1) := by decide +kernel
theorem dX10_look_105 : decode cX10_look 105 = .ok (.iload 7, 2) := by decide +kernel
theorem dX10_look_107 : decode cX10_look 107 = .ok (.invokevirtual 334, 3) := by decide +kernel
theorem dX10_look_110 : decode cX10_look 110 = .ok (.iconst 0, 1) := by decide +kernel
theorem dX10_look_111 : decode cX10_look 111 = .ok (.istore 8, 2) := by decide +kernel
theorem dX10_look_113 : decode cX10_look 113 = .ok (.iload 8, 2) := by decide +kernel
theorem dX10_look_115 : decode cX10_look 115 = .ok (.aload_n 0, 1) := by decide +kernel
theorem dX10_look_116 : decode cX10_look 116 = .ok (.getfield 294, 3) := by decide +kernel
theorem dX10_look_119 : decode cX10_look 119 = .ok (.if_icmp .ge 49, 3) := by decide +kernel
theorem dX10_look_122 : decode cX10_look 122 = .ok (.aload_n 0, 1) := by decide +kernel
theorem dX10_look_123 : decode cX10_look 123 = .ok (.getfield 117, 3) := by decide +kernel
theorem dX10_look_126 : decode cX10_look 126 = .ok (.iload 8, 2) := by decide +kernel
theorem dX10_look_128 : decode cX10_look 128 = .ok (.dup2, 1) := by decide +kernel
theorem dX10_look_129 : decode cX10_look 129 = .ok (.iaload, 1) := by decide +kernel
theorem dX10_look_130 : decode cX10_look 130 = .ok (.aload_n 0, 1) := by decide +kernel
theorem dX10_look_131 : decode cX10_look 131 = .ok (.getfield 81, 3) := by decide +kernel
theorem dX10_look_134 : decode cX10_look 134 = .ok (.iconst 1, 1) := by decide +kernel
theorem dX10_look_135 : decode cX10_look 135 = .ok (.aaload, 1) := by decide +kernel
theorem dX10_look_136 : decode cX10_look 136 = .ok (.iload 8, 2) := by decide +kernel
theorem dX10_look_138 : decode cX10_look 138 = .ok (.aaload, 1) := by decide +kernel
theorem dX10_look_139 : decode cX10_look 139 = .ok (.iconst 0, 1) := by decide +kernel
theorem dX10_look_140 : decode cX10_look 140 = .ok (.iaload, 1) := by decide +kernel
theorem dX10_look_141 : decode cX10_look 141 = .ok (.iconst (-1), 1) := by decide +kernel
theorem dX10_look_142 : decode cX10_look 142 = .ok (.if_icmp .eq 17, 3) := by decide +kernel
theorem dX10_look_145 : decode cX10_look 145 = .ok (.aload_n 0, 1) := by decide +kernel
theorem dX10_look_146 : decode cX10_look 146 = .ok (.getfield 81, 3) := by decide +kernel
theorem dX10_look_149 : decode cX10_look 149 = .ok (.iconst 1, 1) := by decide +kernel
theorem dX10_look_150 : decode cX10_look 150 = .ok (.aaload, 1) := by decide +kernel
theorem dX10_look_151 : decode cX10_look 151 = .ok (.iload 8, 2) := by decide +kernel
theorem dX10_look_153 : decode cX10_look 153 = .ok (.aaload, 1) := by decide +kernel
theorem dX10_look_154 : decode cX10_look 154 = .ok (.iconst 1, 1) := by decide +kernel
theorem dX10_look_155 : decode cX10_look 155 = .ok (.iaload, 1) := by decide +kernel
theorem dX10_look_156 : decode cX10_look 156 = .ok (.goto 4, 3) := by decide +kernel
theorem dX10_look_159 : decode cX10_look 159 = .ok (.iconst 0, 1) := by decide +kernel
theorem dX10_look_160 : decode cX10_look 160 = .ok (.iadd, 1) := by decide +kernel
theorem dX10_look_161 : decode cX10_look 161 = .ok (.iastore, 1) := by decide +kernel
theorem dX10_look_162 : decode cX10_look 162 = .ok (.iinc 8 1, 3) := by decide +kernel
theorem dX10_look_165 : decode cX10_look 165 = .ok (.goto (-52), 3) := by decide +kernel
theorem dX10_look_168 : decode cX10_look 168 = .ok (.iinc 7 1, 3) := by decide +kernel
theorem dX10_look_171 : decode cX10_look 171 = .ok (.goto (-92), 3) := by decide +kernel
theorem dX10_look_174 : decode cX10_look 174 = .ok (.aload_n 0, 1) := by decide +kernel
theorem dX10_look_175 : decode cX10_look 175 = .ok (.invokevirtual 349, 3) := by decide +kernel
theorem dX10_look_178 : decode cX10_look 178 = .ok (.iconst 0, 1) := by decide +kernel
theorem dX10_look_179 : decode cX10_look 179 = .ok (.istore 7, 2) := by decide +kernel
theorem dX10_look_181 : decode cX10_look 181 = .ok (.iload 7, 2) := by decide +kernel
theorem dX10_look_183 : decode cX10_look 183 = .ok (.aload_n 0, 1) := by decide +kernel
theorem dX10_look_184 : decode cX10_look 184 = .ok (.getfield 294, 3) := by decide +kernel
theorem dX10_look_187 : decode cX10_look 187 = .ok (.if_icmp .ge 79, 3) := by decide +kernel
theorem dX10_look_190 : decode cX10_look 190 = .ok (.aload_n 0, 1) := by decide +kernel
theorem dX10_look_191 : decode cX10_look 191 = .ok (.getfield 117, 3) := by decide +kernel
theorem dX10_look_194 : decode cX10_look 194 = .ok (.iload 7, 2) := by decide +kernel
theorem dX10_look_196 : decode cX10_look 196 = .ok (.iaload, 1) := by decide +kernel
theorem dX10_look_197 : decode cX10_look 197 = .ok (.iload 4, 2) := by decide +kernel
theorem dX10_look_199 : decode cX10_look 199 = .ok (.aload_n 0, 1) := by decide +kernel
theorem dX10_look_200 : decode cX10_look 200 = .ok (.getfield 117, 3) := by decide +kernel
theorem dX10_look_203 : decode cX10_look 203 = .ok (.iload 7, 2) := by decide +kernel
theorem dX10_look_205 : decode cX10_look 205 = .ok (.iaload, 1) := by decide +kernel
theorem dX10_look_206 : decode cX10_look 206 = .ok (.isub, 1) := by decide +kernel
theorem dX10_look_207 : decode cX10_look 207 = .ok (.invokestatic 272, 3) := by decide +kernel
theorem dX10_look_210 : decode cX10_look 210 = .ok (.istore 8, 2) := by decide +kernel
theorem dX10_look_212 : decode cX10_look 212 = .ok (.aload_n 0, 1) := by decide +kernel
theorem dX10_look_213 : decode cX10_look 213 = .ok (.getfield 81, 3) := by decide +kernel
theorem dX10_look_216 : decode cX10_look 216 = .ok (.iconst 1, 1) := by decide +kernel
theorem dX10_look_217 : decode cX10_look 217 = .ok (.aaload, 1) := by decide +kernel
theorem dX10_look_218 : decode cX10_look 218 = .ok (.iload 7, 2) := by decide +kernel
theorem dX10_look_220 : decode cX10_look 220 = .ok (.aaload, 1) := by decide +kernel
theorem dX10_look_221 : decode cX10_look 221 = .ok (.iconst 0, 1) := by decide +kernel
theorem dX10_look_222 : decode cX10_look 222 = .ok (.iaload, 1) := by decide +kernel
theorem dX10_look_223 : decode cX10_look 223 = .ok (.iconst (-1), 1) := by decide +kernel
theorem dX10_look_224 : decode cX10_look 224 = .ok (.if_icmp .eq 36, 3) := by decide +kernel
theorem dX10_look_227 : decode cX10_look 227 = .ok (.aload_n 0, 1) := by decide +kernel
theorem dX10_look_228 : decode cX10_look 228 = .ok (.iload 7, 2) := by decide +kernel
theorem dX10_look_230 : decode cX10_look 230 = .ok (.invokevirtual 395, 3) := by decide +kernel
theorem dX10_look_233 : decode cX10_look 233 = .ok (.ifCond .ne 27, 3) := by decide +kernel
theorem dX10_look_236 : decode cX10_look 236 = .ok (.iload 5, 2) := by decide +kernel
theorem dX10_look_238 : decode cX10_look 238 = .ok (.iconst (-1), 1) := by decide +kernel
theorem dX10_look_239 : decode cX10_look 239 = .ok (.if_icmp .eq 13, 3) := by decide +kernel
theorem dX10_look_242 : decode cX10_look 242 = .ok (.iload 8, 2) := by decide +kernel
theorem dX10_look_244 : decode cX10_look 244 = .ok (.iload 6, 2) := by decide +kernel
theorem dX10_look_246 : decode cX10_look 246 = .ok (.if_icmp .lt 6, 3) := by decide +kernel
theorem dX10_look_249 : decode cX10_look 249 = .ok (.goto 11, 3) := by decide +kernel
theorem dX10_look_252 : decode cX10_look 252 = .ok (.iload 7, 2) := by decide +kernel
theorem dX10_look_254 : decode cX10_look 254 = .ok (.istore 5, 2) := by decide +kernel
theorem dX10_look_256 : decode cX10_look 256 = .ok (.iload 8, 2) := by decide +kernel
theorem dX10_look_258 : decode cX10_look 258 = .ok (.istore 6, 2) := by decide +kernel
theorem dX10_look_260 : decode cX10_look 260 = .ok (.iinc 7 1, 3) := by decide +kernel
theorem dX10_look_263 : decode cX10_look 263 = .ok (.goto (-82), 3) := by decide +kernel
theorem dX10_look_266 : decode cX10_look 266 = .ok (.iload_n 1, 1) := by decide +kernel
theorem dX10_look_267 : decode cX10_look 267 = .ok (.ifCond .ne 8, 3) := by decide +kernel
theorem dX10_look_270 : decode cX10_look 270 = .ok (.iload 5, 2) := by decide +kernel
theorem dX10_look_272 : decode cX10_look 272 = .ok (.goto 5, 3) := by decide +kernel
theorem dX10_look_275 : decode cX10_look 275 = .ok (.iload 6, 2) := by decide +kernel
theorem dX10_look_277 : decode cX10_look 277 = .ok (.ireturn, 1) := by decide +kernel
theorem dX10_right_0 : decode cX10_right 0 = .ok (.aload_n 0, 1) := by decide +kernel
theorem dX10_right_1 : decode cX10_right 1 = .ok (.iconst 0, 1) := by decide +kernel
theorem dX10_right_2 : decode cX10_right 2 = .ok (.putfield 133, 3) := by decide +kernel
theorem dX10_right_5 : decode cX10_right 5 = .ok (.aload_n 0, 1) := by decide +kernel
theorem dX10_right_6 : decode cX10_right 6 = .ok (.iconst 1, 1) := by decide +kernel
theorem dX10_right_7 : decode cX10_right 7 = .ok (.invokevirtual 355, 3) := by decide +kernel
theorem dX10_right_10 : decode cX10_right 10 = .ok (.ifCond .eq 5, 3) := by decide +kernel
theorem dX10_right_13 : decode cX10_right 13 = .ok (.iconst 0, 1) := by decide +kernel
theorem dX10_right_14 : decode cX10_right 14 = .ok (.ireturn, 1) := by decide +kernel
theorem dX10_right_15 : decode cX10_right 15 = .ok (.aload_n 0, 1) := by decide +kernel
theorem dX10_right_16 : decode cX10_right 16 = .ok (.invokevirtual 349, 3) := by decide +kernel
theorem dX10_right_19 : decode cX10_right 19 = .ok (.aload_n 0, 1) := by decide +kernel
theorem dX10_right_20 : decode cX10_right 20 = .ok (.invokevirtual 388, 3) := by decide +kernel
theorem dX10_right_23 : decode cX10_right 23 = .ok (.ireturn, 1) := by decide +kernel
theorem dX10_puts_0 : decode cX10_puts 0 = .ok (.aload_n 0, 1) := by decide +kernel
theorem dX10_puts_1 : decode cX10_puts 1 = .ok (.getfield 41, 3) := by decide +kernel
theorem dX10_puts_4 : decode cX10_puts 4 = .ok (.aload_n 0, 1) := by decide +kernel
theorem dX10_puts_5 : decode cX10_puts 5 = .ok (.getfield 120, 3) := by decide +kernel
theorem dX10_puts_8 : decode cX10_puts 8 = .ok (.bipush 26, 2) := by decide +kernel
theorem dX10_puts_10 : decode cX10_puts 10 = .ok (.invokestatic 225, 3) := by decide +kernel
theorem dX10_puts_13 : decode cX10_puts 13 = .ok (.aload_n 0, 1) := by decide +kernel
theorem dX10_puts_14 : decode cX10_puts 14 = .ok (.aload_n 0, 1) := by decide +kernel
theorem dX10_puts_15 : decode cX10_puts 15 = .ok (.getfield 23, 3) := by decide +kernel
theorem dX10_puts_18 : decode cX10_puts 18 = .ok (.iconst 2, 1) := by decide +kernel
theorem dX10_puts_19 : decode cX10_puts 19 = .ok (.iaload, 1) := by decide +kernel
theorem dX10_puts_20 : decode cX10_puts 20 = .ok (.putfield 398, 3) := by decide +kernel
theorem dX10_puts_23 : decode cX10_puts 23 = .ok (.return_, 1) := by decide +kernel
theorem dX10_putsBack_0 : decode cX10_putsBack 0 = .ok (.aload_n 0, 1) := by decide +kernel
theorem dX10_putsBack_1 : decode cX10_putsBack 1 = .ok (.getfield 120, 3) := by decide +kernel
theorem dX10_putsBack_4 : decode cX10_putsBack 4 = .ok (.aload_n 0, 1) := by decide +kernel
theorem dX10_putsBack_5 : decode cX10_putsBack 5 = .ok (.getfield 41, 3) := by decide +kernel
theorem dX10_putsBack_8 : decode cX10_putsBack 8 = .ok (.bipush 26, 2) := by decide +kernel
theorem dX10_putsBack_10 : decode cX10_putsBack 10 = .ok (.invokestatic 225, 3) := by decide +kernel
theorem dX10_putsBack_13 : decode cX10_putsBack 13 = .ok (.aload_n 0, 1) := by decide +kernel
theorem dX10_putsBack_14 : decode cX10_putsBack 14 = .ok (.getfield 23, 3) := by decide +kernel
theorem dX10_putsBack_17 : decode cX10_putsBack 17 = .ok (.iconst 2, 1) := by decide +kernel
theorem dX10_putsBack_18 : decode cX10_putsBack 18 = .ok (.aload_n 0, 1) := by decide +kernel
theorem dX10_putsBack_19 : decode cX10_putsBack 19 = .ok (.getfield 398, 3) := by decide +kernel
theorem dX10_putsBack_22 : decode cX10_putsBack 22 = .ok (.iastore, 1) := by decide +kernel
theorem dX10_putsBack_23 : decode cX10_putsBack 23 = .ok (.return_, 1) := by decide +kernel
theorem dX10_nights_0 : decode cX10_nights 0 = .ok (.aload_n 0, 1) := by decide +kernel
theorem dX10_nights_1 : decode cX10_nights 1 = .ok (.iconst 0, 1) := by decide +kernel
theorem dX10_nights_2 : decode cX10_nights 2 = .ok (.putfield 133, 3) := by decide +kernel
theorem dX10_nights_5 : decode cX10_nights 5 = .ok (.aload_n 0, 1) := by decide +kernel
theorem dX10_nights_6 : decode cX10_nights 6 = .ok (.iload_n 2, 1) := by decide +kernel
theorem dX10_nights_7 : decode cX10_nights 7 = .ok (.iconst 1, 1) := by decide +kernel
theorem dX10_nights_8 : decode cX10_nights 8 = .ok (.bipush 20, 2) := by decide +kernel
theorem dX10_nights_10 : decode cX10_nights 10 = .ok (.invokestatic 167, 3) := by decide +kernel
theorem dX10_nights_13 : decode cX10_nights 13 = .ok (.ifCond .eq 12, 3) := by decide +kernel
theorem dX10_nights_16 : decode cX10_nights 16 = .ok (.iload_n 3, 1) := by decide +kernel
theorem dX10_nights_17 : decode cX10_nights 17 = .ok (.iconst 0, 1) := by decide +kernel
theorem dX10_nights_18 : decode cX10_nights 18 = .ok (.iconst 3, 1) := by decide +kernel
theorem dX10_nights_19 : decode cX10_nights 19 = .ok (.invokestatic 167, 3) := by decide +kernel
theorem dX10_nights_22 : decode cX10_nights 22 = .ok (.ifCond .ne 7, 3) := by decide +kernel
theorem dX10_nights_25 : decode cX10_nights 25 = .ok (.iconst 1, 1) := by decide +kernel
theorem dX10_nights_26 : decode cX10_nights 26 = .ok (.goto 4, 3) := by decide +kernel
theorem dX10_nights_29 : decode cX10_nights 29 = .ok (.iconst 0, 1) := by decide +kernel
theorem dX10_nights_30 : decode cX10_nights 30 = .ok (.iconst 1, 1) := by decide +kernel
theorem dX10_nights_31 : decode cX10_nights 31 = .ok (.iconst 1, 1) := by decide +kernel
theorem dX10_nights_32 : decode cX10_nights 32 = .ok (.invokevirtual 212, 3) := by decide +kernel
theorem dX10_nights_35 : decode cX10_nights 35 = .ok (.ifCond .eq 5, 3) := by decide +kernel
theorem dX10_nights_38 : decode cX10_nights 38 = .ok (.iconst 0, 1) := by decide +kernel
theorem dX10_nights_39 : decode cX10_nights 39 = .ok (.ireturn, 1) := by decide +kernel
theorem dX10_nights_40 : decode cX10_nights 40 = .ok (.iload_n 1, 1) := by decide +kernel
theorem dX10_nights_41 : decode cX10_nights 41 = .ok (.istore 4, 2) := by decide +kernel
theorem dX10_nights_43 : decode cX10_nights 43 = .ok (.iconst 0, 1) := by decide +kernel
theorem dX10_nights_44 : decode cX10_nights 44 = .ok (.istore 5, 2) := by decide +kernel
theorem dX10_nights_46 : decode cX10_nights 46 = .ok (.iconst 0, 1) := by decide +kernel
theorem dX10_nights_47 : decode cX10_nights 47 = .ok (.istore 6, 2) := by decide +kernel
theorem dX10_nights_49 : decode cX10_nights 49 = .ok (.iconst 0, 1) := by decide +kernel
theorem dX10_nights_50 : decode cX10_nights 50 = .ok (.istore 7, 2) := by decide +kernel
theorem dX10_nights_52 : decode cX10_nights 52 = .ok (.iconst 0, 1) := by decide +kernel
theorem dX10_nights_53 : decode cX10_nights 53 = .ok (.istore 8, 2) := by decide +kernel
theorem dX10_nights_55 : decode cX10_nights 55 = .ok (.aload_n 0, 1) := by decide +kernel
theorem dX10_nights_56 : decode cX10_nights 56 = .ok (.invokevirtual 401, 3) := by decide +kernel
theorem dX10_nights_59 : decode cX10_nights 59 = .ok (.iconst 0, 1) := by decide +kernel
theorem dX10_nights_60 : decode cX10_nights 60 = .ok (.istore 9, 2) := by decide +kernel
theorem dX10_nights_62 : decode cX10_nights 62 = .ok (.iload 9, 2) := by decide +kernel
theorem dX10_nights_64 : decode cX10_nights 64 = .ok (.iload_n 2, 1) := by decide +kernel
theorem dX10_nights_65 : decode cX10_nights 65 = .ok (.if_icmp .ge 145, 3) := by decide +kernel
theorem dX10_nights_68 : decode cX10_nights 68 = .ok (.iconst 0, 1) := by decide +kernel
theorem dX10_nights_69 : decode cX10_nights 69 = .ok (.istore 10, 2) := by decide +kernel
theorem dX10_nights_71 : decode cX10_nights 71 = .ok (.iload 10, 2) := by decide +kernel
theorem dX10_nights_73 : decode cX10_nights 73 = .ok (.aload_n 0, 1) := by decide +kernel
theorem dX10_nights_74 : decode cX10_nights 74 = .ok (.getfield 23, 3) := by decide +kernel
theorem dX10_nights_77 : decode cX10_nights 77 = .ok (.iconst 2, 1) := by decide +kernel
theorem dX10_nights_78 : decode cX10_nights 78 = .ok (.iaload, 1) := by decide +kernel
theorem dX10_nights_79 : decode cX10_nights 79 = .ok (.if_icmp .ge 48, 3) := by decide +kernel
theorem dX10_nights_82 : decode cX10_nights 82 = .ok (.iload 4, 2) := by decide +kernel
theorem dX10_nights_84 : decode cX10_nights 84 = .ok (.ldc_w 404, 3) := by decide +kernel
theorem dX10_nights_87 : decode cX10_nights 87 = .ok (.imul, 1) := by decide +kernel
theorem dX10_nights_88 : decode cX10_nights 88 = .ok (.sipush 12345, 3) := by decide +kernel
theorem dX10_nights_91 : decode cX10_nights 91 = .ok (.iadd, 1) := by decide +kernel
theorem dX10_nights_92 : decode cX10_nights 92 = .ok (.istore 4, 2) := by decide +kernel
theorem dX10_nights_94 : decode cX10_nights 94 = .ok (.aload_n 0, 1) := by decide +kernel
theorem dX10_nights_95 : decode cX10_nights 95 = .ok (.getfield 41, 3) := by decide +kernel
theorem dX10_nights_98 : decode cX10_nights 98 = .ok (.iconst 4, 1) := by decide +kernel
theorem dX10_nights_99 : decode cX10_nights 99 = .ok (.iconst 2, 1) := by decide +kernel
theorem dX10_nights_100 : decode cX10_nights 100 = .ok (.iload 10, 2) := by decide +kernel
theorem dX10_nights_102 : decode cX10_nights 102 = .ok (.imul, 1) := by decide +kernel
theorem dX10_nights_103 : decode cX10_nights 103 = .ok (.iadd, 1) := by decide +kernel
theorem dX10_nights_104 : decode cX10_nights 104 = .ok (.iload 4, 2) := by decide +kernel
theorem dX10_nights_106 : decode cX10_nights 106 = .ok (.bipush 16, 2) := by decide +kernel
theorem dX10_nights_108 : decode cX10_nights 108 = .ok (.ishr, 1) := by decide +kernel
theorem dX10_nights_109 : decode cX10_nights 109 = .ok (.sipush 32767, 3) := by decide +kernel
theorem dX10_nights_112 : decode cX10_nights 112 = .ok (.iand, 1) := by decide +kernel
theorem dX10_nights_113 : decode cX10_nights 113 = .ok (.aload_n 0, 1) := by decide +kernel
theorem dX10_nights_114 : decode cX10_nights 114 = .ok (.getfield 23, 3) := by decide +kernel
theorem dX10_nights_117 : decode cX10_nights 117 = .ok (.iconst 0, 1) := by decide +kernel
theorem dX10_nights_118 : decode cX10_nights 118 = .ok (.iaload, 1) := by decide +kernel
theorem dX10_nights_119 : decode cX10_nights 119 = .ok (.irem, 1) := by decide +kernel
theorem dX10_nights_120 : decode cX10_nights 120 = .ok (.iastore, 1) := by decide +kernel
theorem dX10_nights_121 : decode cX10_nights 121 = .ok (.iinc 10 1, 3) := by decide +kernel
theorem dX10_nights_124 : decode cX10_nights 124 = .ok (.goto (-53), 3) := by decide +kernel
theorem dX10_nights_127 : decode cX10_nights 127 = .ok (.aload_n 0, 1) := by decide +kernel
theorem dX10_nights_128 : decode cX10_nights 128 = .ok (.invokevirtual 349, 3) := by decide +kernel
theorem dX10_nights_131 : decode cX10_nights 131 = .ok (.aload_n 0, 1) := by decide +kernel
theorem dX10_nights_132 : decode cX10_nights 132 = .ok (.getfield 90, 3) := by decide +kernel
theorem dX10_nights_135 : decode cX10_nights 135 = .ok (.iconst 0, 1) := by decide +kernel
theorem dX10_nights_136 : decode cX10_nights 136 = .ok (.iaload, 1) := by decide +kernel
theorem dX10_nights_137 : decode cX10_nights 137 = .ok (.invokestatic 337, 3) := by decide +kernel
theorem dX10_nights_140 : decode cX10_nights 140 = .ok (.aload_n 0, 1) := by decide +kernel
theorem dX10_nights_141 : decode cX10_nights 141 = .ok (.getfield 90, 3) := by decide +kernel
theorem dX10_nights_144 : decode cX10_nights 144 = .ok (.iconst 1, 1) := by decide +kernel
theorem dX10_nights_145 : decode cX10_nights 145 = .ok (.iaload, 1) := by decide +kernel
theorem dX10_nights_146 : decode cX10_nights 146 = .ok (.invokestatic 337, 3) := by decide +kernel
theorem dX10_nights_149 : decode cX10_nights 149 = .ok (.iadd, 1) := by decide +kernel
theorem dX10_nights_150 : decode cX10_nights 150 = .ok (.istore 10, 2) := by decide +kernel
theorem dX10_nights_152 : decode cX10_nights 152 = .ok (.iload 5, 2) := by decide +kernel
theorem dX10_nights_154 : decode cX10_nights 154 = .ok (.aload_n 0, 1) := by decide +kernel
theorem dX10_nights_155 : decode cX10_nights 155 = .ok (.getfield 90, 3) := by decide +kernel
theorem dX10_nights_158 : decode cX10_nights 158 = .ok (.iconst 0, 1) := by decide +kernel
theorem dX10_nights_159 : decode cX10_nights 159 = .ok (.iaload, 1) := by decide +kernel
theorem dX10_nights_160 : decode cX10_nights 160 = .ok (.invokestatic 337, 3) := by decide +kernel
theorem dX10_nights_163 : decode cX10_nights 163 = .ok (.iadd, 1) := by decide +kernel
theorem dX10_nights_164 : decode cX10_nights 164 = .ok (.istore 5, 2) := by decide +kernel
theorem dX10_nights_166 : decode cX10_nights 166 = .ok (.iload 6, 2) := by decide +kernel
theorem dX10_nights_168 : decode cX10_nights 168 = .ok (.aload_n 0, 1) := by decide +kernel
theorem dX10_nights_169 : decode cX10_nights 169 = .ok (.getfield 90, 3) := by decide +kernel
theorem dX10_nights_172 : decode cX10_nights 172 = .ok (.iconst 1, 1) := by decide +kernel
theorem dX10_nights_173 : decode cX10_nights 173 = .ok (.iaload, 1) := by decide +kernel
theorem dX10_nights_174 : decode cX10_nights 174 = .ok (.invokestatic 337, 3) := by decide +kernel
theorem dX10_nights_177 : decode cX10_nights 177 = .ok (.iadd, 1) := by decide +kernel
theorem dX10_nights_178 : decode cX10_nights 178 = .ok (.istore 6, 2) := by decide +kernel
theorem dX10_nights_180 : decode cX10_nights 180 = .ok (.iload 7, 2) := by decide +kernel
theorem dX10_nights_182 : decode cX10_nights 182 = .ok (.iload 10, 2) := by decide +kernel
theorem dX10_nights_184 : decode cX10_nights 184 = .ok (.ifCond .ne 7, 3) := by decide +kernel
theorem dX10_nights_187 : decode cX10_nights 187 = .ok (.iconst 1, 1) := by decide +kernel
theorem dX10_nights_188 : decode cX10_nights 188 = .ok (.goto 4, 3) := by decide +kernel
theorem dX10_nights_191 : decode cX10_nights 191 = .ok (.iconst 0, 1) := by decide +kernel
theorem dX10_nights_192 : decode cX10_nights 192 = .ok (.iadd, 1) := by decide +kernel
theorem dX10_nights_193 : decode cX10_nights 193 = .ok (.istore 7, 2) := by decide +kernel
theorem dX10_nights_195 : decode cX10_nights 195 = .ok (.iload 8, 2) := by decide +kernel
theorem dX10_nights_197 : decode cX10_nights 197 = .ok (.iload 10, 2) := by decide +kernel
theorem dX10_nights_199 : decode cX10_nights 199 = .ok (.invokestatic 272, 3) := by decide +kernel
theorem dX10_nights_202 : decode cX10_nights 202 = .ok (.istore 8, 2) := by decide +kernel
theorem dX10_nights_204 : decode cX10_nights 204 = .ok (.iinc 9 1, 3) := by decide +kernel
theorem dX10_nights_207 : decode cX10_nights 207 = .ok (.goto (-145), 3) := by decide +kernel
theorem dX10_nights_210 : decode cX10_nights 210 = .ok (.aload_n 0, 1) := by decide +kernel
theorem dX10_nights_211 : decode cX10_nights 211 = .ok (.invokevirtual 405, 3) := by decide +kernel
theorem dX10_nights_214 : decode cX10_nights 214 = .ok (.iload_n 3, 1) := by decide +kernel
theorem dX10_nights_215 : decode cX10_nights 215 = .ok (.ifCond .ne 8, 3) := by decide +kernel
theorem dX10_nights_218 : decode cX10_nights 218 = .ok (.iload 5, 2) := by decide +kernel
theorem dX10_nights_220 : decode cX10_nights 220 = .ok (.goto 25, 3) := by decide +kernel
theorem dX10_nights_223 : decode cX10_nights 223 = .ok (.iload_n 3, 1) := by decide +kernel
theorem dX10_nights_224 : decode cX10_nights 224 = .ok (.iconst 1, 1) := by decide +kernel
theorem dX10_nights_225 : decode cX10_nights 225 = .ok (.if_icmp .ne 8, 3) := by decide +kernel
theorem dX10_nights_228 : decode cX10_nights 228 = .ok (.iload 6, 2) := by decide +kernel
theorem dX10_nights_230 : decode cX10_nights 230 = .ok (.goto 15, 3) := by decide +kernel
theorem dX10_nights_233 : decode cX10_nights 233 = .ok (.iload_n 3, 1) := by decide +kernel
theorem dX10_nights_234 : decode cX10_nights 234 = .ok (.iconst 2, 1) := by decide +kernel
theorem dX10_nights_235 : decode cX10_nights 235 = .ok (.if_icmp .ne 8, 3) := by decide +kernel
theorem dX10_nights_238 : decode cX10_nights 238 = .ok (.iload 7, 2) := by decide +kernel
theorem dX10_nights_240 : decode cX10_nights 240 = .ok (.goto 5, 3) := by decide +kernel
theorem dX10_nights_243 : decode cX10_nights 243 = .ok (.iload 8, 2) := by decide +kernel
theorem dX10_nights_245 : decode cX10_nights 245 = .ok (.ireturn, 1) := by decide +kernel
theorem dX10_hitAlone_0 : decode cX10_hitAlone 0 = .ok (.aload_n 0, 1) := by decide +kernel
theorem dX10_hitAlone_1 : decode cX10_hitAlone 1 = .ok (.invokevirtual 401, 3) := by decide +kernel
theorem dX10_hitAlone_4 : decode cX10_hitAlone 4 = .ok (.aload_n 0, 1) := by decide +kernel
theorem dX10_hitAlone_5 : decode cX10_hitAlone 5 = .ok (.getfield 23, 3) := by decide +kernel
theorem dX10_hitAlone_8 : decode cX10_hitAlone 8 = .ok (.iconst 2, 1) := by decide +kernel
theorem dX10_hitAlone_9 : decode cX10_hitAlone 9 = .ok (.iconst 1, 1) := by decide +kernel
theorem dX10_hitAlone_10 : decode cX10_hitAlone 10 = .ok (.iastore, 1) := by decide +kernel
theorem dX10_hitAlone_11 : decode cX10_hitAlone 11 = .ok (.aload_n 0, 1) := by decide +kernel
theorem dX10_hitAlone_12 : decode cX10_hitAlone 12 = .ok (.getfield 41, 3) := by decide +kernel
theorem dX10_hitAlone_15 : decode cX10_hitAlone 15 = .ok (.iconst 4, 1) := by decide +kernel
theorem dX10_hitAlone_16 : decode cX10_hitAlone 16 = .ok (.iload_n 1, 1) := by decide +kernel
theorem dX10_hitAlone_17 : decode cX10_hitAlone 17 = .ok (.iastore, 1) := by decide +kernel
theorem dX10_hitAlone_18 : decode cX10_hitAlone 18 = .ok (.aload_n 0, 1) := by decide +kernel
theorem dX10_hitAlone_19 : decode cX10_hitAlone 19 = .ok (.getfield 41, 3) := by decide +kernel
theorem dX10_hitAlone_22 : decode cX10_hitAlone 22 = .ok (.iconst 5, 1) := by decide +kernel
theorem dX10_hitAlone_23 : decode cX10_hitAlone 23 = .ok (.iload_n 2, 1) := by decide +kernel
theorem dX10_hitAlone_24 : decode cX10_hitAlone 24 = .ok (.iastore, 1) := by decide +kernel
theorem dX10_hitAlone_25 : decode cX10_hitAlone 25 = .ok (.aload_n 0, 1) := by decide +kernel
theorem dX10_hitAlone_26 : decode cX10_hitAlone 26 = .ok (.invokevirtual 349, 3) := by decide +kernel
theorem dX10_hitAlone_29 : decode cX10_hitAlone 29 = .ok (.aload_n 0, 1) := by decide +kernel
theorem dX10_hitAlone_30 : decode cX10_hitAlone 30 = .ok (.invokevirtual 405, 3) := by decide +kernel
theorem dX10_hitAlone_33 : decode cX10_hitAlone 33 = .ok (.aload_n 0, 1) := by decide +kernel
theorem dX10_hitAlone_34 : decode cX10_hitAlone 34 = .ok (.getfield 90, 3) := by decide +kernel
theorem dX10_hitAlone_37 : decode cX10_hitAlone 37 = .ok (.iconst 0, 1) := by decide +kernel
theorem dX10_hitAlone_38 : decode cX10_hitAlone 38 = .ok (.iaload, 1) := by decide +kernel
theorem dX10_hitAlone_39 : decode cX10_hitAlone 39 = .ok (.iconst 2, 1) := by decide +kernel
theorem dX10_hitAlone_40 : decode cX10_hitAlone 40 = .ok (.aload_n 0, 1) := by decide +kernel
theorem dX10_hitAlone_41 : decode cX10_hitAlone 41 = .ok (.getfield 90, 3) := by decide +kernel
theorem dX10_hitAlone_44 : decode cX10_hitAlone 44 = .ok (.iconst 1, 1) := by decide +kernel
theorem dX10_hitAlone_45 : decode cX10_hitAlone 45 = .ok (.iaload, 1) := by decide +kernel
theorem dX10_hitAlone_46 : decode cX10_hitAlone 46 = .ok (.imul, 1) := by decide +kernel
theorem dX10_hitAlone_47 : decode cX10_hitAlone 47 = .ok (.iadd, 1) := by decide +kernel
theorem dX10_hitAlone_48 : decode cX10_hitAlone 48 = .ok (.ireturn, 1) := by decide +kernel
theorem dX10_darkest_0 : decode cX10_darkest 0 = .ok (.aload_n 0, 1) := by decide +kernel
theorem dX10_darkest_1 : decode cX10_darkest 1 = .ok (.iconst 0, 1) := by decide +kernel
theorem dX10_darkest_2 : decode cX10_darkest 2 = .ok (.putfield 133, 3) := by decide +kernel
theorem dX10_darkest_5 : decode cX10_darkest 5 = .ok (.aload_n 0, 1) := by decide +kernel
theorem dX10_darkest_6 : decode cX10_darkest 6 = .ok (.iload_n 1, 1) := by decide +kernel
theorem dX10_darkest_7 : decode cX10_darkest 7 = .ok (.iconst 0, 1) := by decide +kernel
theorem dX10_darkest_8 : decode cX10_darkest 8 = .ok (.bipush 9, 2) := by decide +kernel
theorem dX10_darkest_10 : decode cX10_darkest 10 = .ok (.invokestatic 167, 3) := by decide +kernel
theorem dX10_darkest_13 : decode cX10_darkest 13 = .ok (.ifCond .ne 7, 3) := by decide +kernel
theorem dX10_darkest_16 : decode cX10_darkest 16 = .ok (.iconst 1, 1) := by decide +kernel
theorem dX10_darkest_17 : decode cX10_darkest 17 = .ok (.goto 4, 3) := by decide +kernel
theorem dX10_darkest_20 : decode cX10_darkest 20 = .ok (.iconst 0, 1) := by decide +kernel
theorem dX10_darkest_21 : decode cX10_darkest 21 = .ok (.iconst 1, 1) := by decide +kernel
theorem dX10_darkest_22 : decode cX10_darkest 22 = .ok (.iconst 1, 1) := by decide +kernel
theorem dX10_darkest_23 : decode cX10_darkest 23 = .ok (.invokevirtual 212, 3) := by decide +kernel
theorem dX10_darkest_26 : decode cX10_darkest 26 = .ok (.ifCond .eq 5, 3) := by decide +kernel
theorem dX10_darkest_29 : decode cX10_darkest 29 = .ok (.iconst 0, 1) := by decide +kernel
theorem dX10_darkest_30 : decode cX10_darkest 30 = .ok (.ireturn, 1) := by decide +kernel
theorem dX10_darkest_31 : decode cX10_darkest 31 = .ok (.iconst (-1), 1) := by decide +kernel
theorem dX10_darkest_32 : decode cX10_darkest 32 = .ok (.istore_n 2, 1) := by decide +kernel
theorem dX10_darkest_33 : decode cX10_darkest 33 = .ok (.iconst 0, 1) := by decide +kernel
theorem dX10_darkest_34 : decode cX10_darkest 34 = .ok (.istore_n 3, 1) := by decide +kernel
theorem dX10_darkest_35 : decode cX10_darkest 35 = .ok (.iconst 0, 1) := by decide +kernel
theorem dX10_darkest_36 : decode cX10_darkest 36 = .ok (.istore 4, 2) := by decide +kernel
theorem dX10_darkest_38 : decode cX10_darkest 38 = .ok (.iload 4, 2) := by decide +kernel
theorem dX10_darkest_40 : decode cX10_darkest 40 = .ok (.aload_n 0, 1) := by decide +kernel
theorem dX10_darkest_41 : decode cX10_darkest 41 = .ok (.getfield 23, 3) := by decide +kernel
theorem dX10_darkest_44 : decode cX10_darkest 44 = .ok (.iconst 0, 1) := by decide +kernel
theorem dX10_darkest_45 : decode cX10_darkest 45 = .ok (.iaload, 1) := by decide +kernel
theorem dX10_darkest_46 : decode cX10_darkest 46 = .ok (.if_icmp .ge 36, 3) := by decide +kernel
theorem dX10_darkest_49 : decode cX10_darkest 49 = .ok (.aload_n 0, 1) := by decide +kernel
theorem dX10_darkest_50 : decode cX10_darkest 50 = .ok (.iload 4, 2) := by decide +kernel
theorem dX10_darkest_52 : decode cX10_darkest 52 = .ok (.iload_n 1, 1) := by decide +kernel
theorem dX10_darkest_53 : decode cX10_darkest 53 = .ok (.invokevirtual 408, 3) := by decide +kernel
theorem dX10_darkest_56 : decode cX10_darkest 56 = .ok (.invokestatic 337, 3) := by decide +kernel
theorem dX10_darkest_59 : decode cX10_darkest 59 = .ok (.istore 5, 2) := by decide +kernel
theorem dX10_darkest_61 : decode cX10_darkest 61 = .ok (.iload 5, 2) := by decide +kernel
theorem dX10_darkest_63 : decode cX10_darkest 63 = .ok (.iload_n 3, 1) := by decide +kernel
theorem dX10_darkest_64 : decode cX10_darkest 64 = .ok (.if_icmp .gt 6, 3) := by decide +kernel
theorem dX10_darkest_67 : decode cX10_darkest 67 = .ok (.goto 9, 3) := by decide +kernel
theorem dX10_darkest_70 : decode cX10_darkest 70 = .ok (.iload 4, 2) := by decide +kernel
theorem dX10_darkest_72 : decode cX10_darkest 72 = .ok (.istore_n 2, 1) := by decide +kernel
theorem dX10_darkest_73 : decode cX10_darkest 73 = .ok (.iload 5, 2) := by decide +kernel
theorem dX10_darkest_75 : decode cX10_darkest 75 = .ok (.istore_n 3, 1) := by decide +kernel
theorem dX10_darkest_76 : decode cX10_darkest 76 = .ok (.iinc 4 1, 3) := by decide +kernel
theorem dX10_darkest_79 : decode cX10_darkest 79 = .ok (.goto (-41), 3) := by decide +kernel
theorem dX10_darkest_82 : decode cX10_darkest 82 = .ok (.iload_n 2, 1) := by decide +kernel
theorem dX10_darkest_83 : decode cX10_darkest 83 = .ok (.ireturn, 1) := by decide +kernel
theorem dX10_dark_0 : decode cX10_dark 0 = .ok (.aload_n 0, 1) := by decide +kernel
theorem dX10_dark_1 : decode cX10_dark 1 = .ok (.iconst 0, 1) := by decide +kernel
theorem dX10_dark_2 : decode cX10_dark 2 = .ok (.putfield 133, 3) := by decide +kernel
theorem dX10_dark_5 : decode cX10_dark 5 = .ok (.aload_n 0, 1) := by decide +kernel
theorem dX10_dark_6 : decode cX10_dark 6 = .ok (.aload_n 0, 1) := by decide +kernel
theorem dX10_dark_7 : decode cX10_dark 7 = .ok (.iload_n 1, 1) := by decide +kernel
theorem dX10_dark_8 : decode cX10_dark 8 = .ok (.invokevirtual 343, 3) := by decide +kernel
theorem dX10_dark_11 : decode cX10_dark 11 = .ok (.ifCond .ne 7, 3) := by decide +kernel
theorem dX10_dark_14 : decode cX10_dark 14 = .ok (.iconst 1, 1) := by decide +kernel
theorem dX10_dark_15 : decode cX10_dark 15 = .ok (.goto 4, 3) := by decide +kernel
theorem dX10_dark_18 : decode cX10_dark 18 = .ok (.iconst 0, 1) := by decide +kernel
theorem dX10_dark_19 : decode cX10_dark 19 = .ok (.iconst 1, 1) := by decide +kernel
theorem dX10_dark_20 : decode cX10_dark 20 = .ok (.iconst 0, 1) := by decide +kernel
theorem dX10_dark_21 : decode cX10_dark 21 = .ok (.invokevirtual 212, 3) := by decide +kernel
theorem dX10_dark_24 : decode cX10_dark 24 = .ok (.ifCond .ne 27, 3) := by decide +kernel
theorem dX10_dark_27 : decode cX10_dark 27 = .ok (.aload_n 0, 1) := by decide +kernel
theorem dX10_dark_28 : decode cX10_dark 28 = .ok (.iload_n 2, 1) := by decide +kernel
theorem dX10_dark_29 : decode cX10_dark 29 = .ok (.iconst 0, 1) := by decide +kernel
theorem dX10_dark_30 : decode cX10_dark 30 = .ok (.bipush 9, 2) := by decide +kernel
theorem dX10_dark_32 : decode cX10_dark 32 = .ok (.invokestatic 167, 3) := by decide +kernel
theorem dX10_dark_35 : decode cX10_dark 35 = .ok (.ifCond .ne 7, 3) := by decide +kernel
theorem dX10_dark_38 : decode cX10_dark 38 = .ok (.iconst 1, 1) := by decide +kernel
theorem dX10_dark_39 : decode cX10_dark 39 = .ok (.goto 4, 3) := by decide +kernel
theorem dX10_dark_42 : decode cX10_dark 42 = .ok (.iconst 0, 1) := by decide +kernel
theorem dX10_dark_43 : decode cX10_dark 43 = .ok (.iconst 2, 1) := by decide +kernel
theorem dX10_dark_44 : decode cX10_dark 44 = .ok (.iconst 1, 1) := by decide +kernel
theorem dX10_dark_45 : decode cX10_dark 45 = .ok (.invokevirtual 212, 3) := by decide +kernel
theorem dX10_dark_48 : decode cX10_dark 48 = .ok (.ifCond .eq 5, 3) := by decide +kernel
theorem dX10_dark_51 : decode cX10_dark 51 = .ok (.iconst 0, 1) := by decide +kernel
theorem dX10_dark_52 : decode cX10_dark 52 = .ok (.ireturn, 1) := by decide +kernel
theorem dX10_dark_53 : decode cX10_dark 53 = .ok (.iconst 0, 1) := by decide +kernel
theorem dX10_dark_54 : decode cX10_dark 54 = .ok (.istore_n 3, 1) := by decide +kernel
theorem dX10_dark_55 : decode cX10_dark 55 = .ok (.iconst 0, 1) := by decide +kernel
theorem dX10_dark_56 : decode cX10_dark 56 = .ok (.istore 4, 2) := by decide +kernel
theorem dX10_dark_58 : decode cX10_dark 58 = .ok (.iload 4, 2) := by decide +kernel
theorem dX10_dark_60 : decode cX10_dark 60 = .ok (.aload_n 0, 1) := by decide +kernel
theorem dX10_dark_61 : decode cX10_dark 61 = .ok (.getfield 23, 3) := by decide +kernel
theorem dX10_dark_64 : decode cX10_dark 64 = .ok (.iconst 0, 1) := by decide +kernel
theorem dX10_dark_65 : decode cX10_dark 65 = .ok (.iaload, 1) := by decide +kernel
theorem dX10_dark_66 : decode cX10_dark 66 = .ok (.if_icmp .ge 23, 3) := by decide +kernel
theorem dX10_dark_69 : decode cX10_dark 69 = .ok (.iload_n 3, 1) := by decide +kernel
theorem dX10_dark_70 : decode cX10_dark 70 = .ok (.aload_n 0, 1) := by decide +kernel
theorem dX10_dark_71 : decode cX10_dark 71 = .ok (.iload 4, 2) := by decide +kernel
theorem dX10_dark_73 : decode cX10_dark 73 = .ok (.iload_n 2, 1) := by decide +kernel
theorem dX10_dark_74 : decode cX10_dark 74 = .ok (.invokevirtual 408, 3) := by decide +kernel
theorem dX10_dark_77 : decode cX10_dark 77 = .ok (.iload_n 1, 1) := by decide +kernel
theorem dX10_dark_78 : decode cX10_dark 78 = .ok (.ishr, 1) := by decide +kernel
theorem dX10_dark_79 : decode cX10_dark 79 = .ok (.iconst 1, 1) := by decide +kernel
theorem dX10_dark_80 : decode cX10_dark 80 = .ok (.iand, 1) := by decide +kernel
theorem dX10_dark_81 : decode cX10_dark 81 = .ok (.iadd, 1) := by decide +kernel
theorem dX10_dark_82 : decode cX10_dark 82 = .ok (.istore_n 3, 1) := by decide +kernel
theorem dX10_dark_83 : decode cX10_dark 83 = .ok (.iinc 4 1, 3) := by decide +kernel
theorem dX10_dark_86 : decode cX10_dark 86 = .ok (.goto (-28), 3) := by decide +kernel
theorem dX10_dark_89 : decode cX10_dark 89 = .ok (.iload_n 3, 1) := by decide +kernel
theorem dX10_dark_90 : decode cX10_dark 90 = .ok (.ireturn, 1) := by decide +kernel
theorem dX10_needs_0 : decode cX10_needs 0 = .ok (.aload_n 0, 1) := by decide +kernel
theorem dX10_needs_1 : decode cX10_needs 1 = .ok (.iconst 0, 1) := by decide +kernel
theorem dX10_needs_2 : decode cX10_needs 2 = .ok (.putfield 133, 3) := by decide +kernel
theorem dX10_needs_5 : decode cX10_needs 5 = .ok (.aload_n 0, 1) := by decide +kernel
theorem dX10_needs_6 : decode cX10_needs 6 = .ok (.iload_n 1, 1) := by decide +kernel
theorem dX10_needs_7 : decode cX10_needs 7 = .ok (.iconst 0, 1) := by decide +kernel
theorem dX10_needs_8 : decode cX10_needs 8 = .ok (.aload_n 0, 1) := by decide +kernel
theorem dX10_needs_9 : decode cX10_needs 9 = .ok (.getfield 23, 3) := by decide +kernel
theorem dX10_needs_12 : decode cX10_needs 12 = .ok (.iconst 0, 1) := by decide +kernel
theorem dX10_needs_13 : decode cX10_needs 13 = .ok (.iaload, 1) := by decide +kernel
theorem dX10_needs_14 : decode cX10_needs 14 = .ok (.iconst 1, 1) := by decide +kernel
theorem dX10_needs_15 : decode cX10_needs 15 = .ok (.isub, 1) := by decide +kernel
theorem dX10_needs_16 : decode cX10_needs 16 = .ok (.invokestatic 167, 3) := by decide +kernel
theorem dX10_needs_19 : decode cX10_needs 19 = .ok (.ifCond .ne 7, 3) := by decide +kernel
theorem dX10_needs_22 : decode cX10_needs 22 = .ok (.iconst 1, 1) := by decide +kernel
theorem dX10_needs_23 : decode cX10_needs 23 = .ok (.goto 4, 3) := by decide +kernel
theorem dX10_needs_26 : decode cX10_needs 26 = .ok (.iconst 0, 1) := by decide +kernel
theorem dX10_needs_27 : decode cX10_needs 27 = .ok (.iconst 1, 1) := by decide +kernel
theorem dX10_needs_28 : decode cX10_needs 28 = .ok (.iconst 1, 1) := by decide +kernel
theorem dX10_needs_29 : decode cX10_needs 29 = .ok (.invokevirtual 212, 3) := by decide +kernel
theorem dX10_needs_32 : decode cX10_needs 32 = .ok (.ifCond .eq 5, 3) := by decide +kernel
theorem dX10_needs_35 : decode cX10_needs 35 = .ok (.iconst 0, 1) := by decide +kernel
theorem dX10_needs_36 : decode cX10_needs 36 = .ok (.ireturn, 1) := by decide +kernel
theorem dX10_needs_37 : decode cX10_needs 37 = .ok (.iconst 0, 1) := by decide +kernel
theorem dX10_needs_38 : decode cX10_needs 38 = .ok (.istore_n 2, 1) := by decide +kernel
theorem dX10_needs_39 : decode cX10_needs 39 = .ok (.iload_n 2, 1) := by decide +kernel
theorem dX10_needs_40 : decode cX10_needs 40 = .ok (.bipush 10, 2) := by decide +kernel
theorem dX10_needs_42 : decode cX10_needs 42 = .ok (.if_icmp .ge 20, 3) := by decide +kernel
theorem dX10_needs_45 : decode cX10_needs 45 = .ok (.aload_n 0, 1) := by decide +kernel
theorem dX10_needs_46 : decode cX10_needs 46 = .ok (.iload_n 1, 1) := by decide +kernel
theorem dX10_needs_47 : decode cX10_needs 47 = .ok (.iload_n 2, 1) := by decide +kernel
theorem dX10_needs_48 : decode cX10_needs 48 = .ok (.invokevirtual 408, 3) := by decide +kernel
theorem dX10_needs_51 : decode cX10_needs 51 = .ok (.ifCond .ne 5, 3) := by decide +kernel
theorem dX10_needs_54 : decode cX10_needs 54 = .ok (.iload_n 2, 1) := by decide +kernel
theorem dX10_needs_55 : decode cX10_needs 55 = .ok (.ireturn, 1) := by decide +kernel
theorem dX10_needs_56 : decode cX10_needs 56 = .ok (.iinc 2 1, 3) := by decide +kernel
theorem dX10_needs_59 : decode cX10_needs 59 = .ok (.goto (-20), 3) := by decide +kernel
theorem dX10_needs_62 : decode cX10_needs 62 = .ok (.iconst (-1), 1) := by decide +kernel
theorem dX10_needs_63 : decode cX10_needs 63 = .ok (.ireturn, 1) := by decide +kernel
theorem dX10_dips_0 : decode cX10_dips 0 = .ok (.aload_n 0, 1) := by decide +kernel
theorem dX10_dips_1 : decode cX10_dips 1 = .ok (.iconst 0, 1) := by decide +kernel
theorem dX10_dips_2 : decode cX10_dips 2 = .ok (.putfield 133, 3) := by decide +kernel
theorem dX10_dips_5 : decode cX10_dips 5 = .ok (.aload_n 0, 1) := by decide +kernel
theorem dX10_dips_6 : decode cX10_dips 6 = .ok (.aload_n 0, 1) := by decide +kernel
theorem dX10_dips_7 : decode cX10_dips 7 = .ok (.iload_n 1, 1) := by decide +kernel
theorem dX10_dips_8 : decode cX10_dips 8 = .ok (.invokevirtual 343, 3) := by decide +kernel
theorem dX10_dips_11 : decode cX10_dips 11 = .ok (.ifCond .ne 7, 3) := by decide +kernel
theorem dX10_dips_14 : decode cX10_dips 14 = .ok (.iconst 1, 1) := by decide +kernel
theorem dX10_dips_15 : decode cX10_dips 15 = .ok (.goto 4, 3) := by decide +kernel
theorem dX10_dips_18 : decode cX10_dips 18 = .ok (.iconst 0, 1) := by decide +kernel
theorem dX10_dips_19 : decode cX10_dips 19 = .ok (.iconst 1, 1) := by decide +kernel
theorem dX10_dips_20 : decode cX10_dips 20 = .ok (.iconst 0, 1) := by decide +kernel
theorem dX10_dips_21 : decode cX10_dips 21 = .ok (.invokevirtual 212, 3) := by decide +kernel
theorem dX10_dips_24 : decode cX10_dips 24 = .ok (.ifCond .ne 26, 3) := by decide +kernel
theorem dX10_dips_27 : decode cX10_dips 27 = .ok (.aload_n 0, 1) := by decide +kernel
theorem dX10_dips_28 : decode cX10_dips 28 = .ok (.iload_n 2, 1) := by decide +kernel
theorem dX10_dips_29 : decode cX10_dips 29 = .ok (.iconst 0, 1) := by decide +kernel
theorem dX10_dips_30 : decode cX10_dips 30 = .ok (.iconst 1, 1) := by decide +kernel
theorem dX10_dips_31 : decode cX10_dips 31 = .ok (.invokestatic 167, 3) := by decide +kernel
theorem dX10_dips_34 : decode cX10_dips 34 = .ok (.ifCond .ne 7, 3) := by decide +kernel
theorem dX10_dips_37 : decode cX10_dips 37 = .ok (.iconst 1, 1) := by decide +kernel
theorem dX10_dips_38 : decode cX10_dips 38 = .ok (.goto 4, 3) := by decide +kernel
theorem dX10_dips_41 : decode cX10_dips 41 = .ok (.iconst 0, 1) := by decide +kernel
theorem dX10_dips_42 : decode cX10_dips 42 = .ok (.iconst 2, 1) := by decide +kernel
theorem dX10_dips_43 : decode cX10_dips 43 = .ok (.iconst 1, 1) := by decide +kernel
theorem dX10_dips_44 : decode cX10_dips 44 = .ok (.invokevirtual 212, 3) := by decide +kernel
theorem dX10_dips_47 : decode cX10_dips 47 = .ok (.ifCond .eq 5, 3) := by decide +kernel
theorem dX10_dips_50 : decode cX10_dips 50 = .ok (.iconst 0, 1) := by decide +kernel
theorem dX10_dips_51 : decode cX10_dips 51 = .ok (.ireturn, 1) := by decide +kernel
theorem dX10_dips_52 : decode cX10_dips 52 = .ok (.aload_n 0, 1) := by decide +kernel
theorem dX10_dips_53 : decode cX10_dips 53 = .ok (.invokevirtual 349, 3) := by decide +kernel
theorem dX10_dips_56 : decode cX10_dips 56 = .ok (.iconst (-1), 1) := by decide +kernel
theorem dX10_dips_57 : decode cX10_dips 57 = .ok (.istore_n 3, 1) := by decide +kernel
theorem dX10_dips_58 : decode cX10_dips 58 = .ok (.iconst 0, 1) := by decide +kernel
theorem dX10_dips_59 : decode cX10_dips 59 = .ok (.istore 4, 2) := by decide +kernel
theorem dX10_dips_61 : decode cX10_dips 61 = .ok (.iload 4, 2) := by decide +kernel
theorem dX10_dips_63 : decode cX10_dips 63 = .ok (.aload_n 0, 1) := by decide +kernel
theorem dX10_dips_64 : decode cX10_dips 64 = .ok (.getfield 294, 3) := by decide +kernel
theorem dX10_dips_67 : decode cX10_dips 67 = .ok (.if_icmp .ge 67, 3) := by decide +kernel
theorem dX10_dips_70 : decode cX10_dips 70 = .ok (.aload_n 0, 1) := by decide +kernel
theorem dX10_dips_71 : decode cX10_dips 71 = .ok (.getfield 81, 3) := by decide +kernel
theorem dX10_dips_74 : decode cX10_dips 74 = .ok (.iload_n 1, 1) := by decide +kernel
theorem dX10_dips_75 : decode cX10_dips 75 = .ok (.aaload, 1) := by decide +kernel
theorem dX10_dips_76 : decode cX10_dips 76 = .ok (.iload 4, 2) := by decide +kernel
theorem dX10_dips_78 : decode cX10_dips 78 = .ok (.aaload, 1) := by decide +kernel
theorem dX10_dips_79 : decode cX10_dips 79 = .ok (.astore 5, 2) := by decide +kernel
theorem dX10_dips_81 : decode cX10_dips 81 = .ok (.aload 5, 2) := by decide +kernel
theorem dX10_dips_83 : decode cX10_dips 83 = .ok (.iconst 0, 1) := by decide +kernel
theorem dX10_dips_84 : decode cX10_dips 84 = .ok (.iaload, 1) := by decide +kernel
theorem dX10_dips_85 : decode cX10_dips 85 = .ok (.iconst (-1), 1) := by decide +kernel
theorem dX10_dips_86 : decode cX10_dips 86 = .ok (.if_icmp .ne 6, 3) := by decide +kernel
theorem dX10_dips_89 : decode cX10_dips 89 = .ok (.goto 39, 3) := by decide +kernel
theorem dX10_dips_92 : decode cX10_dips 92 = .ok (.iload_n 3, 1) := by decide +kernel
theorem dX10_dips_93 : decode cX10_dips 93 = .ok (.iconst (-1), 1) := by decide +kernel
theorem dX10_dips_94 : decode cX10_dips 94 = .ok (.if_icmp .ne 13, 3) := by decide +kernel
theorem dX10_dips_97 : decode cX10_dips 97 = .ok (.aload 5, 2) := by decide +kernel
theorem dX10_dips_99 : decode cX10_dips 99 = .ok (.iconst 1, 1) := by decide +kernel
theorem dX10_dips_100 : decode cX10_dips 100 = .ok (.iaload, 1) := by decide +kernel
theorem dX10_dips_101 : decode cX10_dips 101 = .ok (.ifCond .ne 6, 3) := by decide +kernel
theorem dX10_dips_104 : decode cX10_dips 104 = .ok (.iload 4, 2) := by decide +kernel
theorem dX10_dips_106 : decode cX10_dips 106 = .ok (.istore_n 3, 1) := by decide +kernel
theorem dX10_dips_107 : decode cX10_dips 107 = .ok (.iload_n 2, 1) := by decide +kernel
theorem dX10_dips_108 : decode cX10_dips 108 = .ok (.iconst 1, 1) := by decide +kernel
theorem dX10_dips_109 : decode cX10_dips 109 = .ok (.if_icmp .ne 19, 3) := by decide +kernel
theorem dX10_dips_112 : decode cX10_dips 112 = .ok (.iload_n 3, 1) := by decide +kernel
theorem dX10_dips_113 : decode cX10_dips 113 = .ok (.iconst (-1), 1) := by decide +kernel
theorem dX10_dips_114 : decode cX10_dips 114 = .ok (.if_icmp .eq 14, 3) := by decide +kernel
theorem dX10_dips_117 : decode cX10_dips 117 = .ok (.aload 5, 2) := by decide +kernel
theorem dX10_dips_119 : decode cX10_dips 119 = .ok (.iconst 1, 1) := by decide +kernel
theorem dX10_dips_120 : decode cX10_dips 120 = .ok (.iaload, 1) := by decide +kernel
theorem dX10_dips_121 : decode cX10_dips 121 = .ok (.iconst 1, 1) := by decide +kernel
theorem dX10_dips_122 : decode cX10_dips 122 = .ok (.if_icmp .ne 6, 3) := by decide +kernel
theorem dX10_dips_125 : decode cX10_dips 125 = .ok (.iload 4, 2) := by decide +kernel
theorem dX10_dips_127 : decode cX10_dips 127 = .ok (.ireturn, 1) := by decide +kernel
theorem dX10_dips_128 : decode cX10_dips 128 = .ok (.iinc 4 1, 3) := by decide +kernel
theorem dX10_dips_131 : decode cX10_dips 131 = .ok (.goto (-70), 3) := by decide +kernel
theorem dX10_dips_134 : decode cX10_dips 134 = .ok (.iload_n 2, 1) := by decide +kernel
theorem dX10_dips_135 : decode cX10_dips 135 = .ok (.ifCond .ne 7, 3) := by decide +kernel
theorem dX10_dips_138 : decode cX10_dips 138 = .ok (.iload_n 3, 1) := by decide +kernel
theorem dX10_dips_139 : decode cX10_dips 139 = .ok (.goto 4, 3) := by decide +kernel
theorem dX10_dips_142 : decode cX10_dips 142 = .ok (.iconst (-1), 1) := by decide +kernel
theorem dX10_dips_143 : decode cX10_dips 143 = .ok (.ireturn, 1) := by decide +kernel
theorem dX10_gap_0 : decode cX10_gap 0 = .ok (.aload_n 0, 1) := by decide +kernel
theorem dX10_gap_1 : decode cX10_gap 1 = .ok (.iconst 0, 1) := by decide +kernel
theorem dX10_gap_2 : decode cX10_gap 2 = .ok (.putfield 133, 3) := by decide +kernel
theorem dX10_gap_5 : decode cX10_gap 5 = .ok (.aload_n 0, 1) := by decide +kernel
theorem dX10_gap_6 : decode cX10_gap 6 = .ok (.aload_n 0, 1) := by decide +kernel
theorem dX10_gap_7 : decode cX10_gap 7 = .ok (.iload_n 1, 1) := by decide +kernel
theorem dX10_gap_8 : decode cX10_gap 8 = .ok (.invokevirtual 343, 3) := by decide +kernel
theorem dX10_gap_11 : decode cX10_gap 11 = .ok (.ifCond .ne 7, 3) := by decide +kernel
theorem dX10_gap_14 : decode cX10_gap 14 = .ok (.iconst 1, 1) := by decide +kernel
theorem dX10_gap_15 : decode cX10_gap 15 = .ok (.goto 4, 3) := by decide +kernel
theorem dX10_gap_18 : decode cX10_gap 18 = .ok (.iconst 0, 1) := by decide +kernel
theorem dX10_gap_19 : decode cX10_gap 19 = .ok (.iconst 1, 1) := by decide +kernel
theorem dX10_gap_20 : decode cX10_gap 20 = .ok (.iconst 0, 1) := by decide +kernel
theorem dX10_gap_21 : decode cX10_gap 21 = .ok (.invokevirtual 212, 3) := by decide +kernel
theorem dX10_gap_24 : decode cX10_gap 24 = .ok (.ifCond .ne 26, 3) := by decide +kernel
theorem dX10_gap_27 : decode cX10_gap 27 = .ok (.aload_n 0, 1) := by decide +kernel
theorem dX10_gap_28 : decode cX10_gap 28 = .ok (.iload_n 2, 1) := by decide +kernel
theorem dX10_gap_29 : decode cX10_gap 29 = .ok (.iconst 0, 1) := by decide +kernel
theorem dX10_gap_30 : decode cX10_gap 30 = .ok (.iconst 1, 1) := by decide +kernel
theorem dX10_gap_31 : decode cX10_gap 31 = .ok (.invokestatic 167, 3) := by decide +kernel
theorem dX10_gap_34 : decode cX10_gap 34 = .ok (.ifCond .ne 7, 3) := by decide +kernel
theorem dX10_gap_37 : decode cX10_gap 37 = .ok (.iconst 1, 1) := by decide +kernel
theorem dX10_gap_38 : decode cX10_gap 38 = .ok (.goto 4, 3) := by decide +kernel
theorem dX10_gap_41 : decode cX10_gap 41 = .ok (.iconst 0, 1) := by decide +kernel
theorem dX10_gap_42 : decode cX10_gap 42 = .ok (.iconst 2, 1) := by decide +kernel
theorem dX10_gap_43 : decode cX10_gap 43 = .ok (.iconst 1, 1) := by decide +kernel
theorem dX10_gap_44 : decode cX10_gap 44 = .ok (.invokevirtual 212, 3) := by decide +kernel
theorem dX10_gap_47 : decode cX10_gap 47 = .ok (.ifCond .eq 5, 3) := by decide +kernel
theorem dX10_gap_50 : decode cX10_gap 50 = .ok (.iconst 0, 1) := by decide +kernel
theorem dX10_gap_51 : decode cX10_gap 51 = .ok (.ireturn, 1) := by decide +kernel
theorem dX10_gap_52 : decode cX10_gap 52 = .ok (.aload_n 0, 1) := by decide +kernel
theorem dX10_gap_53 : decode cX10_gap 53 = .ok (.invokevirtual 349, 3) := by decide +kernel
theorem dX10_gap_56 : decode cX10_gap 56 = .ok (.iconst 0, 1) := by decide +kernel
theorem dX10_gap_57 : decode cX10_gap 57 = .ok (.istore_n 3, 1) := by decide +kernel
theorem dX10_gap_58 : decode cX10_gap 58 = .ok (.iconst (-1), 1) := by decide +kernel
theorem dX10_gap_59 : decode cX10_gap 59 = .ok (.istore 4, 2) := by decide +kernel
theorem dX10_gap_61 : decode cX10_gap 61 = .ok (.iconst 0, 1) := by decide +kernel
theorem dX10_gap_62 : decode cX10_gap 62 = .ok (.istore 5, 2) := by decide +kernel
theorem dX10_gap_64 : decode cX10_gap 64 = .ok (.iconst 0, 1) := by decide +kernel
theorem dX10_gap_65 : decode cX10_gap 65 = .ok (.istore 6, 2) := by decide +kernel
theorem dX10_gap_67 : decode cX10_gap 67 = .ok (.iload 6, 2) := by decide +kernel
theorem dX10_gap_69 : decode cX10_gap 69 = .ok (.aload_n 0, 1) := by decide +kernel
theorem dX10_gap_70 : decode cX10_gap 70 = .ok (.getfield 294, 3) := by decide +kernel
theorem dX10_gap_73 : decode cX10_gap 73 = .ok (.if_icmp .ge 70, 3) := by decide +kernel
theorem dX10_gap_76 : decode cX10_gap 76 = .ok (.aload_n 0, 1) := by decide +kernel
theorem dX10_gap_77 : decode cX10_gap 77 = .ok (.getfield 81, 3) := by decide +kernel
theorem dX10_gap_80 : decode cX10_gap 80 = .ok (.iload_n 1, 1) := by decide +kernel
theorem dX10_gap_81 : decode cX10_gap 81 = .ok (.aaload, 1) := by decide +kernel
theorem dX10_gap_82 : decode cX10_gap 82 = .ok (.iload 6, 2) := by decide +kernel
theorem dX10_gap_84 : decode cX10_gap 84 = .ok (.aaload, 1) := by decide +kernel
theorem dX10_gap_85 : decode cX10_gap 85 = .ok (.iconst 0, 1) := by decide +kernel
theorem dX10_gap_86 : decode cX10_gap 86 = .ok (.iaload, 1) := by decide +kernel
theorem dX10_gap_87 : decode cX10_gap 87 = .ok (.iconst (-1), 1) := by decide +kernel
theorem dX10_gap_88 : decode cX10_gap 88 = .ok (.if_icmp .eq 25, 3) := by decide +kernel
theorem dX10_gap_91 : decode cX10_gap 91 = .ok (.aload_n 0, 1) := by decide +kernel
theorem dX10_gap_92 : decode cX10_gap 92 = .ok (.getfield 81, 3) := by decide +kernel
theorem dX10_gap_95 : decode cX10_gap 95 = .ok (.iload_n 1, 1) := by decide +kernel
theorem dX10_gap_96 : decode cX10_gap 96 = .ok (.aaload, 1) := by decide +kernel
theorem dX10_gap_97 : decode cX10_gap 97 = .ok (.iload 6, 2) := by decide +kernel
theorem dX10_gap_99 : decode cX10_gap 99 = .ok (.aaload, 1) := by decide +kernel
theorem dX10_gap_100 : decode cX10_gap 100 = .ok (.iconst 4, 1) := by decide +kernel
theorem dX10_gap_101 : decode cX10_gap 101 = .ok (.iaload, 1) := by decide +kernel
theorem dX10_gap_102 : decode cX10_gap 102 = .ok (.iconst 1, 1) := by decide +kernel
theorem dX10_gap_103 : decode cX10_gap 103 = .ok (.if_icmp .ne 10, 3) := by decide +kernel
theorem dX10_gap_106 : decode cX10_gap 106 = .ok (.iload 5, 2) := by decide +kernel
theorem dX10_gap_108 : decode cX10_gap 108 = .ok (.iconst 1, 1) := by decide +kernel
theorem dX10_gap_109 : decode cX10_gap 109 = .ok (.iadd, 1) := by decide +kernel
theorem dX10_gap_110 : decode cX10_gap 110 = .ok (.goto 4, 3) := by decide +kernel
theorem dX10_gap_113 : decode cX10_gap 113 = .ok (.iconst 0, 1) := by decide +kernel
theorem dX10_gap_114 : decode cX10_gap 114 = .ok (.istore 5, 2) := by decide +kernel
theorem dX10_gap_116 : decode cX10_gap 116 = .ok (.iload 5, 2) := by decide +kernel
theorem dX10_gap_118 : decode cX10_gap 118 = .ok (.iload_n 3, 1) := by decide +kernel
theorem dX10_gap_119 : decode cX10_gap 119 = .ok (.if_icmp .gt 6, 3) := by decide +kernel
theorem dX10_gap_122 : decode cX10_gap 122 = .ok (.goto 15, 3) := by decide +kernel
theorem dX10_gap_125 : decode cX10_gap 125 = .ok (.iload 5, 2) := by decide +kernel
theorem dX10_gap_127 : decode cX10_gap 127 = .ok (.istore_n 3, 1) := by decide +kernel
theorem dX10_gap_128 : decode cX10_gap 128 = .ok (.iload 6, 2) := by decide +kernel
theorem dX10_gap_130 : decode cX10_gap 130 = .ok (.iload 5, 2) := by decide +kernel
theorem dX10_gap_132 : decode cX10_gap 132 = .ok (.isub, 1) := by decide +kernel
theorem dX10_gap_133 : decode cX10_gap 133 = .ok (.iconst 1, 1) := by decide +kernel
theorem dX10_gap_134 : decode cX10_gap 134 = .ok (.iadd, 1) := by decide +kernel
theorem dX10_gap_135 : decode cX10_gap 135 = .ok (.istore 4, 2) := by decide +kernel
theorem dX10_gap_137 : decode cX10_gap 137 = .ok (.iinc 6 1, 3) := by decide +kernel
theorem dX10_gap_140 : decode cX10_gap 140 = .ok (.goto (-73), 3) := by decide +kernel
theorem dX10_gap_143 : decode cX10_gap 143 = .ok (.iload_n 2, 1) := by decide +kernel
theorem dX10_gap_144 : decode cX10_gap 144 = .ok (.ifCond .ne 7, 3) := by decide +kernel
theorem dX10_gap_147 : decode cX10_gap 147 = .ok (.iload_n 3, 1) := by decide +kernel
theorem dX10_gap_148 : decode cX10_gap 148 = .ok (.goto 5, 3) := by decide +kernel
theorem dX10_gap_151 : decode cX10_gap 151 = .ok (.iload 4, 2) := by decide +kernel
theorem dX10_gap_153 : decode cX10_gap 153 = .ok (.ireturn, 1) := by decide +kernel
theorem dX10_clear_0 : decode cX10_clear 0 = .ok (.aload_n 0, 1) := by decide +kernel
theorem dX10_clear_1 : decode cX10_clear 1 = .ok (.iconst 0, 1) := by decide +kernel
theorem dX10_clear_2 : decode cX10_clear 2 = .ok (.putfield 133, 3) := by decide +kernel
theorem dX10_clear_5 : decode cX10_clear 5 = .ok (.aload_n 0, 1) := by decide +kernel
theorem dX10_clear_6 : decode cX10_clear 6 = .ok (.aload_n 0, 1) := by decide +kernel
theorem dX10_clear_7 : decode cX10_clear 7 = .ok (.iload_n 1, 1) := by decide +kernel
theorem dX10_clear_8 : decode cX10_clear 8 = .ok (.invokevirtual 343, 3) := by decide +kernel
theorem dX10_clear_11 : decode cX10_clear 11 = .ok (.ifCond .ne 7, 3) := by decide +kernel
theorem dX10_clear_14 : decode cX10_clear 14 = .ok (.iconst 1, 1) := by decide +kernel
theorem dX10_clear_15 : decode cX10_clear 15 = .ok (.goto 4, 3) := by decide +kernel
theorem dX10_clear_18 : decode cX10_clear 18 = .ok (.iconst 0, 1) := by decide +kernel
theorem dX10_clear_19 : decode cX10_clear 19 = .ok (.iconst 1, 1) := by decide +kernel
theorem dX10_clear_20 : decode cX10_clear 20 = .ok (.iconst 0, 1) := by decide +kernel
theorem dX10_clear_21 : decode cX10_clear 21 = .ok (.invokevirtual 212, 3) := by decide +kernel
theorem dX10_clear_24 : decode cX10_clear 24 = .ok (.ifCond .eq 5, 3) := by decide +kernel
theorem dX10_clear_27 : decode cX10_clear 27 = .ok (.iconst 0, 1) := by decide +kernel
theorem dX10_clear_28 : decode cX10_clear 28 = .ok (.ireturn, 1) := by decide +kernel
theorem dX10_clear_29 : decode cX10_clear 29 = .ok (.aload_n 0, 1) := by decide +kernel
theorem dX10_clear_30 : decode cX10_clear 30 = .ok (.getfield 41, 3) := by decide +kernel
theorem dX10_clear_33 : decode cX10_clear 33 = .ok (.bipush 24, 2) := by decide +kernel
theorem dX10_clear_35 : decode cX10_clear 35 = .ok (.iaload, 1) := by decide +kernel
theorem dX10_clear_36 : decode cX10_clear 36 = .ok (.istore_n 2, 1) := by decide +kernel
theorem dX10_clear_37 : decode cX10_clear 37 = .ok (.iconst (-1), 1) := by decide +kernel
theorem dX10_clear_38 : decode cX10_clear 38 = .ok (.istore_n 3, 1) := by decide +kernel
theorem dX10_clear_39 : decode cX10_clear 39 = .ok (.bipush 9, 2) := by decide +kernel
theorem dX10_clear_41 : decode cX10_clear 41 = .ok (.istore 4, 2) := by decide +kernel
theorem dX10_clear_43 : decode cX10_clear 43 = .ok (.iload 4, 2) := by decide +kernel
theorem dX10_clear_45 : decode cX10_clear 45 = .ok (.ifCond .lt 43, 3) := by decide +kernel
theorem dX10_clear_48 : decode cX10_clear 48 = .ok (.iload_n 3, 1) := by decide +kernel
theorem dX10_clear_49 : decode cX10_clear 49 = .ok (.iconst (-1), 1) := by decide +kernel
theorem dX10_clear_50 : decode cX10_clear 50 = .ok (.if_icmp .ne 38, 3) := by decide +kernel
theorem dX10_clear_53 : decode cX10_clear 53 = .ok (.aload_n 0, 1) := by decide +kernel
theorem dX10_clear_54 : decode cX10_clear 54 = .ok (.getfield 41, 3) := by decide +kernel
theorem dX10_clear_57 : decode cX10_clear 57 = .ok (.bipush 24, 2) := by decide +kernel
theorem dX10_clear_59 : decode cX10_clear 59 = .ok (.iload 4, 2) := by decide +kernel
theorem dX10_clear_61 : decode cX10_clear 61 = .ok (.iastore, 1) := by decide +kernel
theorem dX10_clear_62 : decode cX10_clear 62 = .ok (.aload_n 0, 1) := by decide +kernel
theorem dX10_clear_63 : decode cX10_clear 63 = .ok (.invokevirtual 349, 3) := by decide +kernel
theorem dX10_clear_66 : decode cX10_clear 66 = .ok (.aload_n 0, 1) := by decide +kernel
theorem dX10_clear_67 : decode cX10_clear 67 = .ok (.getfield 90, 3) := by decide +kernel
theorem dX10_clear_70 : decode cX10_clear 70 = .ok (.iload_n 1, 1) := by decide +kernel
theorem dX10_clear_71 : decode cX10_clear 71 = .ok (.iaload, 1) := by decide +kernel
theorem dX10_clear_72 : decode cX10_clear 72 = .ok (.ifCond .ne 8, 3) := by decide +kernel
theorem dX10_clear_75 : decode cX10_clear 75 = .ok (.iload 4, 2) := by decide +kernel
theorem dX10_clear_77 : decode cX10_clear 77 = .ok (.goto 4, 3) := by decide +kernel
theorem dX10_clear_80 : decode cX10_clear 80 = .ok (.iconst (-1), 1) := by decide +kernel
theorem dX10_clear_81 : decode cX10_clear 81 = .ok (.istore_n 3, 1) := by decide +kernel
theorem dX10_clear_82 : decode cX10_clear 82 = .ok (.iinc 4 (-1), 3) := by decide +kernel
theorem dX10_clear_85 : decode cX10_clear 85 = .ok (.goto (-42), 3) := by decide +kernel
theorem dX10_clear_88 : decode cX10_clear 88 = .ok (.aload_n 0, 1) := by decide +kernel
theorem dX10_clear_89 : decode cX10_clear 89 = .ok (.getfield 41, 3) := by decide +kernel
theorem dX10_clear_92 : decode cX10_clear 92 = .ok (.bipush 24, 2) := by decide +kernel
theorem dX10_clear_94 : decode cX10_clear 94 = .ok (.iload_n 2, 1) := by decide +kernel
theorem dX10_clear_95 : decode cX10_clear 95 = .ok (.iastore, 1) := by decide +kernel
theorem dX10_clear_96 : decode cX10_clear 96 = .ok (.iload_n 3, 1) := by decide +kernel
theorem dX10_clear_97 : decode cX10_clear 97 = .ok (.ireturn, 1) := by decide +kernel
theorem dX10_paces_0 : decode cX10_paces 0 = .ok (.aload_n 0, 1) := by decide +kernel
theorem dX10_paces_1 : decode cX10_paces 1 = .ok (.iconst 0, 1) := by decide +kernel
theorem dX10_paces_2 : decode cX10_paces 2 = .ok (.putfield 133, 3) := by decide +kernel
theorem dX10_paces_5 : decode cX10_paces 5 = .ok (.aload_n 0, 1) := by decide +kernel
theorem dX10_paces_6 : decode cX10_paces 6 = .ok (.iload_n 1, 1) := by decide +kernel
theorem dX10_paces_7 : decode cX10_paces 7 = .ok (.iconst 0, 1) := by decide +kernel
theorem dX10_paces_8 : decode cX10_paces 8 = .ok (.iconst 1, 1) := by decide +kernel
theorem dX10_paces_9 : decode cX10_paces 9 = .ok (.invokestatic 167, 3) := by decide +kernel
theorem dX10_paces_12 : decode cX10_paces 12 = .ok (.ifCond .ne 7, 3) := by decide +kernel
theorem dX10_paces_15 : decode cX10_paces 15 = .ok (.iconst 1, 1) := by decide +kernel
theorem dX10_paces_16 : decode cX10_paces 16 = .ok (.goto 4, 3) := by decide +kernel
theorem dX10_paces_19 : decode cX10_paces 19 = .ok (.iconst 0, 1) := by decide +kernel
theorem dX10_paces_20 : decode cX10_paces 20 = .ok (.iconst 1, 1) := by decide +kernel
theorem dX10_paces_21 : decode cX10_paces 21 = .ok (.iconst 1, 1) := by decide +kernel
theorem dX10_paces_22 : decode cX10_paces 22 = .ok (.invokevirtual 212, 3) := by decide +kernel
theorem dX10_paces_25 : decode cX10_paces 25 = .ok (.ifCond .ne 11, 3) := by decide +kernel
theorem dX10_paces_28 : decode cX10_paces 28 = .ok (.aload_n 0, 1) := by decide +kernel
theorem dX10_paces_29 : decode cX10_paces 29 = .ok (.iconst 2, 1) := by decide +kernel
theorem dX10_paces_30 : decode cX10_paces 30 = .ok (.invokevirtual 355, 3) := by decide +kernel
theorem dX10_paces_33 : decode cX10_paces 33 = .ok (.ifCond .eq 5, 3) := by decide +kernel
theorem dX10_paces_36 : decode cX10_paces 36 = .ok (.iconst 0, 1) := by decide +kernel
theorem dX10_paces_37 : decode cX10_paces 37 = .ok (.ireturn, 1) := by decide +kernel
theorem dX10_paces_38 : decode cX10_paces 38 = .ok (.iconst (-1), 1) := by decide +kernel
theorem dX10_paces_39 : decode cX10_paces 39 = .ok (.istore_n 2, 1) := by decide +kernel
theorem dX10_paces_40 : decode cX10_paces 40 = .ok (.iconst 0, 1) := by decide +kernel
theorem dX10_paces_41 : decode cX10_paces 41 = .ok (.istore_n 3, 1) := by decide +kernel
theorem dX10_paces_42 : decode cX10_paces 42 = .ok (.iconst 0, 1) := by decide +kernel
theorem dX10_paces_43 : decode cX10_paces 43 = .ok (.istore 4, 2) := by decide +kernel
theorem dX10_paces_45 : decode cX10_paces 45 = .ok (.aload_n 0, 1) := by decide +kernel
theorem dX10_paces_46 : decode cX10_paces 46 = .ok (.iconst 0, 1) := by decide +kernel
theorem dX10_paces_47 : decode cX10_paces 47 = .ok (.invokevirtual 282, 3) := by decide +kernel
theorem dX10_paces_50 : decode cX10_paces 50 = .ok (.istore 5, 2) := by decide +kernel
theorem dX10_paces_52 : decode cX10_paces 52 = .ok (.aload_n 0, 1) := by decide +kernel
theorem dX10_paces_53 : decode cX10_paces 53 = .ok (.iconst 1, 1) := by decide +kernel
theorem dX10_paces_54 : decode cX10_paces 54 = .ok (.invokevirtual 282, 3) := by decide +kernel
theorem dX10_paces_57 : decode cX10_paces 57 = .ok (.istore 6, 2) := by decide +kernel
theorem dX10_paces_59 : decode cX10_paces 59 = .ok (.iconst 1, 1) := by decide +kernel
theorem dX10_paces_60 : decode cX10_paces 60 = .ok (.istore 7, 2) := by decide +kernel
theorem dX10_paces_62 : decode cX10_paces 62 = .ok (.iload 7, 2) := by decide +kernel
theorem dX10_paces_64 : decode cX10_paces 64 = .ok (.iconst 4, 1) := by decide +kernel
theorem dX10_paces_65 : decode cX10_paces 65 = .ok (.if_icmp .ge 114, 3) := by decide +kernel
theorem dX10_paces_68 : decode cX10_paces 68 = .ok (.iconst 1, 1) := by decide +kernel
theorem dX10_paces_69 : decode cX10_paces 69 = .ok (.istore 8, 2) := by decide +kernel
theorem dX10_paces_71 : decode cX10_paces 71 = .ok (.iload 8, 2) := by decide +kernel
theorem dX10_paces_73 : decode cX10_paces 73 = .ok (.iconst 4, 1) := by decide +kernel
theorem dX10_paces_74 : decode cX10_paces 74 = .ok (.if_icmp .ge 99, 3) := by decide +kernel
theorem dX10_paces_77 : decode cX10_paces 77 = .ok (.aload_n 0, 1) := by decide +kernel
theorem dX10_paces_78 : decode cX10_paces 78 = .ok (.getfield 41, 3) := by decide +kernel
theorem dX10_paces_81 : decode cX10_paces 81 = .ok (.iconst 0, 1) := by decide +kernel
theorem dX10_paces_82 : decode cX10_paces 82 = .ok (.iload 7, 2) := by decide +kernel
theorem dX10_paces_84 : decode cX10_paces 84 = .ok (.iastore, 1) := by decide +kernel
theorem dX10_paces_85 : decode cX10_paces 85 = .ok (.aload_n 0, 1) := by decide +kernel
theorem dX10_paces_86 : decode cX10_paces 86 = .ok (.getfield 41, 3) := by decide +kernel
theorem dX10_paces_89 : decode cX10_paces 89 = .ok (.iconst 2, 1) := by decide +kernel
theorem dX10_paces_90 : decode cX10_paces 90 = .ok (.iload 8, 2) := by decide +kernel
theorem dX10_paces_92 : decode cX10_paces 92 = .ok (.iastore, 1) := by decide +kernel
theorem dX10_paces_93 : decode cX10_paces 93 = .ok (.aload_n 0, 1) := by decide +kernel
theorem dX10_paces_94 : decode cX10_paces 94 = .ok (.invokevirtual 349, 3) := by decide +kernel
theorem dX10_paces_97 : decode cX10_paces 97 = .ok (.aload_n 0, 1) := by decide +kernel
theorem dX10_paces_98 : decode cX10_paces 98 = .ok (.getfield 90, 3) := by decide +kernel
theorem dX10_paces_101 : decode cX10_paces 101 = .ok (.iconst 0, 1) := by decide +kernel
theorem dX10_paces_102 : decode cX10_paces 102 = .ok (.iaload, 1) := by decide +kernel
theorem dX10_paces_103 : decode cX10_paces 103 = .ok (.invokestatic 337, 3) := by decide +kernel
theorem dX10_paces_106 : decode cX10_paces 106 = .ok (.aload_n 0, 1) := by decide +kernel
theorem dX10_paces_107 : decode cX10_paces 107 = .ok (.getfield 90, 3) := by decide +kernel
theorem dX10_paces_110 : decode cX10_paces 110 = .ok (.iconst 1, 1) := by decide +kernel
theorem dX10_paces_111 : decode cX10_paces 111 = .ok (.iaload, 1) := by decide +kernel
theorem dX10_paces_112 : decode cX10_paces 112 = .ok (.invokestatic 337, 3) := by decide +kernel
theorem dX10_paces_115 : decode cX10_paces 115 = .ok (.iadd, 1) := by decide +kernel
theorem dX10_paces_116 : decode cX10_paces 116 = .ok (.istore 9, 2) := by decide +kernel
theorem dX10_paces_118 : decode cX10_paces 118 = .ok (.iload_n 2, 1) := by decide +kernel
theorem dX10_paces_119 : decode cX10_paces 119 = .ok (.iconst (-1), 1) := by decide +kernel
theorem dX10_paces_120 : decode cX10_paces 120 = .ok (.if_icmp .eq 28, 3) := by decide +kernel
theorem dX10_paces_123 : decode cX10_paces 123 = .ok (.iload 9, 2) := by decide +kernel
theorem dX10_paces_125 : decode cX10_paces 125 = .ok (.iload_n 3, 1) := by decide +kernel
theorem dX10_paces_126 : decode cX10_paces 126 = .ok (.if_icmp .gt 41, 3) := by decide +kernel
theorem dX10_paces_129 : decode cX10_paces 129 = .ok (.iload 9, 2) := by decide +kernel
theorem dX10_paces_131 : decode cX10_paces 131 = .ok (.iload_n 3, 1) := by decide +kernel
theorem dX10_paces_132 : decode cX10_paces 132 = .ok (.if_icmp .ne 16, 3) := by decide +kernel
theorem dX10_paces_135 : decode cX10_paces 135 = .ok (.iload 7, 2) := by decide +kernel
theorem dX10_paces_137 : decode cX10_paces 137 = .ok (.iload 8, 2) := by decide +kernel
theorem dX10_paces_139 : decode cX10_paces 139 = .ok (.iadd, 1) := by decide +kernel
theorem dX10_paces_140 : decode cX10_paces 140 = .ok (.iload 4, 2) := by decide +kernel
theorem dX10_paces_142 : decode cX10_paces 142 = .ok (.if_icmp .gt 6, 3) := by decide +kernel
theorem dX10_paces_145 : decode cX10_paces 145 = .ok (.goto 22, 3) := by decide +kernel
theorem dX10_paces_148 : decode cX10_paces 148 = .ok (.bipush 10, 2) := by decide +kernel
theorem dX10_paces_150 : decode cX10_paces 150 = .ok (.iload 7, 2) := by decide +kernel
theorem dX10_paces_152 : decode cX10_paces 152 = .ok (.imul, 1) := by decide +kernel
theorem dX10_paces_153 : decode cX10_paces 153 = .ok (.iload 8, 2) := by decide +kernel
theorem dX10_paces_155 : decode cX10_paces 155 = .ok (.iadd, 1) := by decide +kernel
theorem dX10_paces_156 : decode cX10_paces 156 = .ok (.istore_n 2, 1) := by decide +kernel
theorem dX10_paces_157 : decode cX10_paces 157 = .ok (.iload 9, 2) := by decide +kernel
theorem dX10_paces_159 : decode cX10_paces 159 = .ok (.istore_n 3, 1) := by decide +kernel
theorem dX10_paces_160 : decode cX10_paces 160 = .ok (.iload 7, 2) := by decide +kernel
theorem dX10_paces_162 : decode cX10_paces 162 = .ok (.iload 8, 2) := by decide +kernel
theorem dX10_paces_164 : decode cX10_paces 164 = .ok (.iadd, 1) := by decide +kernel
theorem dX10_paces_165 : decode cX10_paces 165 = .ok (.istore 4, 2) := by decide +kernel
theorem dX10_paces_167 : decode cX10_paces 167 = .ok (.iinc 8 1, 3) := by decide +kernel
theorem dX10_paces_170 : decode cX10_paces 170 = .ok (.goto (-99), 3) := by decide +kernel
theorem dX10_paces_173 : decode cX10_paces 173 = .ok (.iinc 7 1, 3) := by decide +kernel
theorem dX10_paces_176 : decode cX10_paces 176 = .ok (.goto (-114), 3) := by decide +kernel
theorem dX10_paces_179 : decode cX10_paces 179 = .ok (.aload_n 0, 1) := by decide +kernel
theorem dX10_paces_180 : decode cX10_paces 180 = .ok (.getfield 41, 3) := by decide +kernel
theorem dX10_paces_183 : decode cX10_paces 183 = .ok (.iconst 0, 1) := by decide +kernel
theorem dX10_paces_184 : decode cX10_paces 184 = .ok (.iload 5, 2) := by decide +kernel
theorem dX10_paces_186 : decode cX10_paces 186 = .ok (.iastore, 1) := by decide +kernel
theorem dX10_paces_187 : decode cX10_paces 187 = .ok (.aload_n 0, 1) := by decide +kernel
theorem dX10_paces_188 : decode cX10_paces 188 = .ok (.getfield 41, 3) := by decide +kernel
theorem dX10_paces_191 : decode cX10_paces 191 = .ok (.iconst 2, 1) := by decide +kernel
theorem dX10_paces_192 : decode cX10_paces 192 = .ok (.iload 6, 2) := by decide +kernel
theorem dX10_paces_194 : decode cX10_paces 194 = .ok (.iastore, 1) := by decide +kernel
theorem dX10_paces_195 : decode cX10_paces 195 = .ok (.iload_n 1, 1) := by decide +kernel
theorem dX10_paces_196 : decode cX10_paces 196 = .ok (.ifCond .ne 7, 3) := by decide +kernel
theorem dX10_paces_199 : decode cX10_paces 199 = .ok (.iload_n 2, 1) := by decide +kernel
theorem dX10_paces_200 : decode cX10_paces 200 = .ok (.goto 4, 3) := by decide +kernel
theorem dX10_paces_203 : decode cX10_paces 203 = .ok (.iload_n 3, 1) := by decide +kernel
theorem dX10_paces_204 : decode cX10_paces 204 = .ok (.ireturn, 1) := by decide +kernel
theorem dX10_finds_0 : decode cX10_finds 0 = .ok (.aload_n 0, 1) := by decide +kernel
theorem dX10_finds_1 : decode cX10_finds 1 = .ok (.iconst 0, 1) := by decide +kernel
theorem dX10_finds_2 : decode cX10_finds 2 = .ok (.putfield 133, 3) := by decide +kernel
theorem dX10_finds_5 : decode cX10_finds 5 = .ok (.aload_n 0, 1) := by decide +kernel
theorem dX10_finds_6 : decode cX10_finds 6 = .ok (.aload_n 0, 1) := by decide +kernel
theorem dX10_finds_7 : decode cX10_finds 7 = .ok (.iload_n 1, 1) := by decide +kernel
theorem dX10_finds_8 : decode cX10_finds 8 = .ok (.invokevirtual 346, 3) := by decide +kernel
theorem dX10_finds_11 : decode cX10_finds 11 = .ok (.ifCond .ne 7, 3) := by decide +kernel
theorem dX10_finds_14 : decode cX10_finds 14 = .ok (.iconst 1, 1) := by decide +kernel
theorem dX10_finds_15 : decode cX10_finds 15 = .ok (.goto 4, 3) := by decide +kernel
theorem dX10_finds_18 : decode cX10_finds 18 = .ok (.iconst 0, 1) := by decide +kernel
theorem dX10_finds_19 : decode cX10_finds 19 = .ok (.iconst 1, 1) := by decide +kernel
theorem dX10_finds_20 : decode cX10_finds 20 = .ok (.iconst 0, 1) := by decide +kernel
theorem dX10_finds_21 : decode cX10_finds 21 = .ok (.invokevirtual 212, 3) := by decide +kernel
theorem dX10_finds_24 : decode cX10_finds 24 = .ok (.ifCond .ne 26, 3) := by decide +kernel
theorem dX10_finds_27 : decode cX10_finds 27 = .ok (.aload_n 0, 1) := by decide +kernel
theorem dX10_finds_28 : decode cX10_finds 28 = .ok (.iload_n 2, 1) := by decide +kernel
theorem dX10_finds_29 : decode cX10_finds 29 = .ok (.iconst 0, 1) := by decide +kernel
theorem dX10_finds_30 : decode cX10_finds 30 = .ok (.iconst 1, 1) := by decide +kernel
theorem dX10_finds_31 : decode cX10_finds 31 = .ok (.invokestatic 167, 3) := by decide +kernel
theorem dX10_finds_34 : decode cX10_finds 34 = .ok (.ifCond .ne 7, 3) := by decide +kernel
theorem dX10_finds_37 : decode cX10_finds 37 = .ok (.iconst 1, 1) := by decide +kernel
theorem dX10_finds_38 : decode cX10_finds 38 = .ok (.goto 4, 3) := by decide +kernel
theorem dX10_finds_41 : decode cX10_finds 41 = .ok (.iconst 0, 1) := by decide +kernel
theorem dX10_finds_42 : decode cX10_finds 42 = .ok (.iconst 2, 1) := by decide +kernel
theorem dX10_finds_43 : decode cX10_finds 43 = .ok (.iconst 1, 1) := by decide +kernel
theorem dX10_finds_44 : decode cX10_finds 44 = .ok (.invokevirtual 212, 3) := by decide +kernel
theorem dX10_finds_47 : decode cX10_finds 47 = .ok (.ifCond .eq 5, 3) := by decide +kernel
theorem dX10_finds_50 : decode cX10_finds 50 = .ok (.iconst 0, 1) := by decide +kernel
theorem dX10_finds_51 : decode cX10_finds 51 = .ok (.ireturn, 1) := by decide +kernel
theorem dX10_finds_52 : decode cX10_finds 52 = .ok (.aload_n 0, 1) := by decide +kernel
theorem dX10_finds_53 : decode cX10_finds 53 = .ok (.invokevirtual 349, 3) := by decide +kernel
theorem dX10_finds_56 : decode cX10_finds 56 = .ok (.iconst (-1), 1) := by decide +kernel
theorem dX10_finds_57 : decode cX10_finds 57 = .ok (.istore_n 3, 1) := by decide +kernel
theorem dX10_finds_58 : decode cX10_finds 58 = .ok (.iconst 0, 1) := by decide +kernel
theorem dX10_finds_59 : decode cX10_finds 59 = .ok (.istore 4, 2) := by decide +kernel
theorem dX10_finds_61 : decode cX10_finds 61 = .ok (.iload 4, 2) := by decide +kernel
theorem dX10_finds_63 : decode cX10_finds 63 = .ok (.aload_n 0, 1) := by decide +kernel
theorem dX10_finds_64 : decode cX10_finds 64 = .ok (.getfield 23, 3) := by decide +kernel
theorem dX10_finds_67 : decode cX10_finds 67 = .ok (.iconst 1, 1) := by decide +kernel
theorem dX10_finds_68 : decode cX10_finds 68 = .ok (.iaload, 1) := by decide +kernel
theorem dX10_finds_69 : decode cX10_finds 69 = .ok (.if_icmp .ge 50, 3) := by decide +kernel
theorem dX10_finds_72 : decode cX10_finds 72 = .ok (.aload_n 0, 1) := by decide +kernel
theorem dX10_finds_73 : decode cX10_finds 73 = .ok (.getfield 87, 3) := by decide +kernel
theorem dX10_finds_76 : decode cX10_finds 76 = .ok (.iload 4, 2) := by decide +kernel
theorem dX10_finds_78 : decode cX10_finds 78 = .ok (.aaload, 1) := by decide +kernel
theorem dX10_finds_79 : decode cX10_finds 79 = .ok (.iload_n 1, 1) := by decide +kernel
theorem dX10_finds_80 : decode cX10_finds 80 = .ok (.iaload, 1) := by decide +kernel
theorem dX10_finds_81 : decode cX10_finds 81 = .ok (.iconst (-1), 1) := by decide +kernel
theorem dX10_finds_82 : decode cX10_finds 82 = .ok (.if_icmp .eq 31, 3) := by decide +kernel
theorem dX10_finds_85 : decode cX10_finds 85 = .ok (.iload_n 3, 1) := by decide +kernel
theorem dX10_finds_86 : decode cX10_finds 86 = .ok (.iconst (-1), 1) := by decide +kernel
theorem dX10_finds_87 : decode cX10_finds 87 = .ok (.if_icmp .eq 23, 3) := by decide +kernel
theorem dX10_finds_90 : decode cX10_finds 90 = .ok (.aload_n 0, 1) := by decide +kernel
theorem dX10_finds_91 : decode cX10_finds 91 = .ok (.getfield 87, 3) := by decide +kernel
theorem dX10_finds_94 : decode cX10_finds 94 = .ok (.iload 4, 2) := by decide +kernel
theorem dX10_finds_96 : decode cX10_finds 96 = .ok (.aaload, 1) := by decide +kernel
theorem dX10_finds_97 : decode cX10_finds 97 = .ok (.iload_n 1, 1) := by decide +kernel
theorem dX10_finds_98 : decode cX10_finds 98 = .ok (.iaload, 1) := by decide +kernel
theorem dX10_finds_99 : decode cX10_finds 99 = .ok (.aload_n 0, 1) := by decide +kernel
theorem dX10_finds_100 : decode cX10_finds 100 = .ok (.getfield 87, 3) := by decide +kernel
theorem dX10_finds_103 : decode cX10_finds 103 = .ok (.iload_n 3, 1) := by decide +kernel
theorem dX10_finds_104 : decode cX10_finds 104 = .ok (.aaload, 1) := by decide +kernel
theorem dX10_finds_105 : decode cX10_finds 105 = .ok (.iload_n 1, 1) := by decide +kernel
theorem dX10_finds_106 : decode cX10_finds 106 = .ok (.iaload, 1) := by decide +kernel
theorem dX10_finds_107 : decode cX10_finds 107 = .ok (.if_icmp .ge 6, 3) := by decide +kernel
theorem dX10_finds_110 : decode cX10_finds 110 = .ok (.iload 4, 2) := by decide +kernel
theorem dX10_finds_112 : decode cX10_finds 112 = .ok (.istore_n 3, 1) := by decide +kernel
theorem dX10_finds_113 : decode cX10_finds 113 = .ok (.iinc 4 1, 3) := by decide +kernel
theorem dX10_finds_116 : decode cX10_finds 116 = .ok (.goto (-55), 3) := by decide +kernel
theorem dX10_finds_119 : decode cX10_finds 119 = .ok (.iload_n 3, 1) := by decide +kernel
theorem dX10_finds_120 : decode cX10_finds 120 = .ok (.iconst (-1), 1) := by decide +kernel
theorem dX10_finds_121 : decode cX10_finds 121 = .ok (.if_icmp .ne 7, 3) := by decide +kernel
theorem dX10_finds_124 : decode cX10_finds 124 = .ok (.iconst (-1), 1) := by decide +kernel
theorem dX10_finds_125 : decode cX10_finds 125 = .ok (.goto 19, 3) := by decide +kernel
theorem dX10_finds_128 : decode cX10_finds 128 = .ok (.iload_n 2, 1) := by decide +kernel
theorem dX10_finds_129 : decode cX10_finds 129 = .ok (.ifCond .ne 7, 3) := by decide +kernel
theorem dX10_finds_132 : decode cX10_finds 132 = .ok (.iload_n 3, 1) := by decide +kernel
theorem dX10_finds_133 : decode cX10_finds 133 = .ok (.goto 11, 3) := by decide +kernel
theorem dX10_finds_136 : decode cX10_finds 136 = .ok (.aload_n 0, 1) := by decide +kernel
theorem dX10_finds_137 : decode cX10_finds 137 = .ok (.getfield 87, 3) := by decide +kernel
theorem dX10_finds_140 : decode cX10_finds 140 = .ok (.iload_n 3, 1) := by decide +kernel
theorem dX10_finds_141 : decode cX10_finds 141 = .ok (.aaload, 1) := by decide +kernel
theorem dX10_finds_142 : decode cX10_finds 142 = .ok (.iload_n 1, 1) := by decide +kernel
theorem dX10_finds_143 : decode cX10_finds 143 = .ok (.iaload, 1) := by decide +kernel
theorem dX10_finds_144 : decode cX10_finds 144 = .ok (.ireturn, 1) := by decide +kernel
theorem dX10_changed_0 : decode cX10_changed 0 = .ok (.aload_n 0, 1) := by decide +kernel
theorem dX10_changed_1 : decode cX10_changed 1 = .ok (.getfield 232, 3) := by decide +kernel
theorem dX10_changed_4 : decode cX10_changed 4 = .ok (.bipush 20, 2) := by decide +kernel
theorem dX10_changed_6 : decode cX10_changed 6 = .ok (.if_icmp .ne 5, 3) := by decide +kernel
theorem dX10_changed_9 : decode cX10_changed 9 = .ok (.iconst 0, 1) := by decide +kernel
theorem dX10_changed_10 : decode cX10_changed 10 = .ok (.ireturn, 1) := by decide +kernel
theorem dX10_changed_11 : decode cX10_changed 11 = .ok (.aload_n 0, 1) := by decide +kernel
theorem dX10_changed_12 : decode cX10_changed 12 = .ok (.getfield 41, 3) := by decide +kernel
theorem dX10_changed_15 : decode cX10_changed 15 = .ok (.aload_n 0, 1) := by decide +kernel
theorem dX10_changed_16 : decode cX10_changed 16 = .ok (.getfield 73, 3) := by decide +kernel
theorem dX10_changed_19 : decode cX10_changed 19 = .ok (.aload_n 0, 1) := by decide +kernel
theorem dX10_changed_20 : decode cX10_changed 20 = .ok (.getfield 232, 3) := by decide +kernel
theorem dX10_changed_23 : decode cX10_changed 23 = .ok (.aaload, 1) := by decide +kernel
theorem dX10_changed_24 : decode cX10_changed 24 = .ok (.bipush 26, 2) := by decide +kernel
theorem dX10_changed_26 : decode cX10_changed 26 = .ok (.invokestatic 225, 3) := by decide +kernel
theorem dX10_changed_29 : decode cX10_changed 29 = .ok (.aload_n 0, 1) := by decide +kernel
theorem dX10_changed_30 : decode cX10_changed 30 = .ok (.dup, 1) := by decide +kernel
theorem dX10_changed_31 : decode cX10_changed 31 = .ok (.getfield 232, 3) := by decide +kernel
theorem dX10_changed_34 : decode cX10_changed 34 = .ok (.iconst 1, 1) := by decide +kernel
theorem dX10_changed_35 : decode cX10_changed 35 = .ok (.iadd, 1) := by decide +kernel
theorem dX10_changed_36 : decode cX10_changed 36 = .ok (.putfield 232, 3) := by decide +kernel
theorem dX10_changed_39 : decode cX10_changed 39 = .ok (.iconst 1, 1) := by decide +kernel
theorem dX10_changed_40 : decode cX10_changed 40 = .ok (.ireturn, 1) := by decide +kernel
theorem dX10_drives_0 : decode cX10_drives 0 = .ok (.aload_n 0, 1) := by decide +kernel
theorem dX10_drives_1 : decode cX10_drives 1 = .ok (.iconst 0, 1) := by decide +kernel
theorem dX10_drives_2 : decode cX10_drives 2 = .ok (.putfield 133, 3) := by decide +kernel
theorem dX10_drives_5 : decode cX10_drives 5 = .ok (.aload_n 0, 1) := by decide +kernel
theorem dX10_drives_6 : decode cX10_drives 6 = .ok (.aload_n 0, 1) := by decide +kernel
theorem dX10_drives_7 : decode cX10_drives 7 = .ok (.iload_n 1, 1) := by decide +kernel
theorem dX10_drives_8 : decode cX10_drives 8 = .ok (.invokevirtual 343, 3) := by decide +kernel
theorem dX10_drives_11 : decode cX10_drives 11 = .ok (.ifCond .ne 7, 3) := by decide +kernel
theorem dX10_drives_14 : decode cX10_drives 14 = .ok (.iconst 1, 1) := by decide +kernel
theorem dX10_drives_15 : decode cX10_drives 15 = .ok (.goto 4, 3) := by decide +kernel
theorem dX10_drives_18 : decode cX10_drives 18 = .ok (.iconst 0, 1) := by decide +kernel
theorem dX10_drives_19 : decode cX10_drives 19 = .ok (.iconst 1, 1) := by decide +kernel
theorem dX10_drives_20 : decode cX10_drives 20 = .ok (.iconst 0, 1) := by decide +kernel
theorem dX10_drives_21 : decode cX10_drives 21 = .ok (.invokevirtual 212, 3) := by decide +kernel
theorem dX10_drives_24 : decode cX10_drives 24 = .ok (.ifCond .ne 36, 3) := by decide +kernel
theorem dX10_drives_27 : decode cX10_drives 27 = .ok (.aload_n 0, 1) := by decide +kernel
theorem dX10_drives_28 : decode cX10_drives 28 = .ok (.iload_n 2, 1) := by decide +kernel
theorem dX10_drives_29 : decode cX10_drives 29 = .ok (.iconst 1, 1) := by decide +kernel
theorem dX10_drives_30 : decode cX10_drives 30 = .ok (.iconst 3, 1) := by decide +kernel
theorem dX10_drives_31 : decode cX10_drives 31 = .ok (.invokestatic 167, 3) := by decide +kernel
theorem dX10_drives_34 : decode cX10_drives 34 = .ok (.ifCond .eq 13, 3) := by decide +kernel
theorem dX10_drives_37 : decode cX10_drives 37 = .ok (.iload_n 3, 1) := by decide +kernel
theorem dX10_drives_38 : decode cX10_drives 38 = .ok (.iconst 0, 1) := by decide +kernel
theorem dX10_drives_39 : decode cX10_drives 39 = .ok (.bipush 9, 2) := by decide +kernel
theorem dX10_drives_41 : decode cX10_drives 41 = .ok (.invokestatic 167, 3) := by decide +kernel
theorem dX10_drives_44 : decode cX10_drives 44 = .ok (.ifCond .ne 7, 3) := by decide +kernel
theorem dX10_drives_47 : decode cX10_drives 47 = .ok (.iconst 1, 1) := by decide +kernel
theorem dX10_drives_48 : decode cX10_drives 48 = .ok (.goto 4, 3) := by decide +kernel
theorem dX10_drives_51 : decode cX10_drives 51 = .ok (.iconst 0, 1) := by decide +kernel
theorem dX10_drives_52 : decode cX10_drives 52 = .ok (.iconst 2, 1) := by decide +kernel
theorem dX10_drives_53 : decode cX10_drives 53 = .ok (.iconst 1, 1) := by decide +kernel
theorem dX10_drives_54 : decode cX10_drives 54 = .ok (.invokevirtual 212, 3) := by decide +kernel
theorem dX10_drives_57 : decode cX10_drives 57 = .ok (.ifCond .eq 5, 3) := by decide +kernel
theorem dX10_drives_60 : decode cX10_drives 60 = .ok (.iconst 0, 1) := by decide +kernel
theorem dX10_drives_61 : decode cX10_drives 61 = .ok (.ireturn, 1) := by decide +kernel
theorem dX10_drives_62 : decode cX10_drives 62 = .ok (.aload_n 0, 1) := by decide +kernel
theorem dX10_drives_63 : decode cX10_drives 63 = .ok (.invokevirtual 411, 3) := by decide +kernel
theorem dX10_drives_66 : decode cX10_drives 66 = .ok (.ifCond .ne 5, 3) := by decide +kernel
theorem dX10_drives_69 : decode cX10_drives 69 = .ok (.iconst 0, 1) := by decide +kernel
theorem dX10_drives_70 : decode cX10_drives 70 = .ok (.ireturn, 1) := by decide +kernel
theorem dX10_drives_71 : decode cX10_drives 71 = .ok (.aload_n 0, 1) := by decide +kernel
theorem dX10_drives_72 : decode cX10_drives 72 = .ok (.getfield 41, 3) := by decide +kernel
theorem dX10_drives_75 : decode cX10_drives 75 = .ok (.iconst 0, 1) := by decide +kernel
theorem dX10_drives_76 : decode cX10_drives 76 = .ok (.iconst 2, 1) := by decide +kernel
theorem dX10_drives_77 : decode cX10_drives 77 = .ok (.iload_n 1, 1) := by decide +kernel
theorem dX10_drives_78 : decode cX10_drives 78 = .ok (.imul, 1) := by decide +kernel
theorem dX10_drives_79 : decode cX10_drives 79 = .ok (.iadd, 1) := by decide +kernel
theorem dX10_drives_80 : decode cX10_drives 80 = .ok (.iload_n 2, 1) := by decide +kernel
theorem dX10_drives_81 : decode cX10_drives 81 = .ok (.iastore, 1) := by decide +kernel
theorem dX10_drives_82 : decode cX10_drives 82 = .ok (.aload_n 0, 1) := by decide +kernel
theorem dX10_drives_83 : decode cX10_drives 83 = .ok (.getfield 41, 3) := by decide +kernel
theorem dX10_drives_86 : decode cX10_drives 86 = .ok (.iconst 0, 1) := by decide +kernel
theorem dX10_drives_87 : decode cX10_drives 87 = .ok (.iconst 2, 1) := by decide +kernel
theorem dX10_drives_88 : decode cX10_drives 88 = .ok (.iload_n 1, 1) := by decide +kernel
theorem dX10_drives_89 : decode cX10_drives 89 = .ok (.imul, 1) := by decide +kernel
theorem dX10_drives_90 : decode cX10_drives 90 = .ok (.iadd, 1) := by decide +kernel
theorem dX10_drives_91 : decode cX10_drives 91 = .ok (.iconst 1, 1) := by decide +kernel
theorem dX10_drives_92 : decode cX10_drives 92 = .ok (.iadd, 1) := by decide +kernel
theorem dX10_drives_93 : decode cX10_drives 93 = .ok (.iload_n 3, 1) := by decide +kernel
theorem dX10_drives_94 : decode cX10_drives 94 = .ok (.iastore, 1) := by decide +kernel
theorem dX10_drives_95 : decode cX10_drives 95 = .ok (.iconst 1, 1) := by decide +kernel
theorem dX10_drives_96 : decode cX10_drives 96 = .ok (.ireturn, 1) := by decide +kernel
theorem dX10_stands_0 : decode cX10_stands 0 = .ok (.aload_n 0, 1) := by decide +kernel
theorem dX10_stands_1 : decode cX10_stands 1 = .ok (.iconst 0, 1) := by decide +kernel
theorem dX10_stands_2 : decode cX10_stands 2 = .ok (.putfield 133, 3) := by decide +kernel
theorem dX10_stands_5 : decode cX10_stands 5 = .ok (.aload_n 0, 1) := by decide +kernel
theorem dX10_stands_6 : decode cX10_stands 6 = .ok (.aload_n 0, 1) := by decide +kernel
theorem dX10_stands_7 : decode cX10_stands 7 = .ok (.iload_n 1, 1) := by decide +kernel
theorem dX10_stands_8 : decode cX10_stands 8 = .ok (.invokevirtual 346, 3) := by decide +kernel
theorem dX10_stands_11 : decode cX10_stands 11 = .ok (.ifCond .ne 7, 3) := by decide +kernel
theorem dX10_stands_14 : decode cX10_stands 14 = .ok (.iconst 1, 1) := by decide +kernel
theorem dX10_stands_15 : decode cX10_stands 15 = .ok (.goto 4, 3) := by decide +kernel
theorem dX10_stands_18 : decode cX10_stands 18 = .ok (.iconst 0, 1) := by decide +kernel
theorem dX10_stands_19 : decode cX10_stands 19 = .ok (.iconst 1, 1) := by decide +kernel
theorem dX10_stands_20 : decode cX10_stands 20 = .ok (.iconst 0, 1) := by decide +kernel
theorem dX10_stands_21 : decode cX10_stands 21 = .ok (.invokevirtual 212, 3) := by decide +kernel
theorem dX10_stands_24 : decode cX10_stands 24 = .ok (.ifCond .ne 43, 3) := by decide +kernel
theorem dX10_stands_27 : decode cX10_stands 27 = .ok (.aload_n 0, 1) := by decide +kernel
theorem dX10_stands_28 : decode cX10_stands 28 = .ok (.iload_n 2, 1) := by decide +kernel
theorem dX10_stands_29 : decode cX10_stands 29 = .ok (.iconst 0, 1) := by decide +kernel
theorem dX10_stands_30 : decode cX10_stands 30 = .ok (.aload_n 0, 1) := by decide +kernel
theorem dX10_stands_31 : decode cX10_stands 31 = .ok (.getfield 23, 3) := by decide +kernel
theorem dX10_stands_34 : decode cX10_stands 34 = .ok (.iconst 0, 1) := by decide +kernel
theorem dX10_stands_35 : decode cX10_stands 35 = .ok (.iaload, 1) := by decide +kernel
theorem dX10_stands_36 : decode cX10_stands 36 = .ok (.iconst 1, 1) := by decide +kernel
theorem dX10_stands_37 : decode cX10_stands 37 = .ok (.isub, 1) := by decide +kernel
theorem dX10_stands_38 : decode cX10_stands 38 = .ok (.invokestatic 167, 3) := by decide +kernel
theorem dX10_stands_41 : decode cX10_stands 41 = .ok (.ifCond .eq 13, 3) := by decide +kernel
theorem dX10_stands_44 : decode cX10_stands 44 = .ok (.iload_n 3, 1) := by decide +kernel
theorem dX10_stands_45 : decode cX10_stands 45 = .ok (.iconst 0, 1) := by decide +kernel
theorem dX10_stands_46 : decode cX10_stands 46 = .ok (.bipush 9, 2) := by decide +kernel
theorem dX10_stands_48 : decode cX10_stands 48 = .ok (.invokestatic 167, 3) := by decide +kernel
theorem dX10_stands_51 : decode cX10_stands 51 = .ok (.ifCond .ne 7, 3) := by decide +kernel
theorem dX10_stands_54 : decode cX10_stands 54 = .ok (.iconst 1, 1) := by decide +kernel
theorem dX10_stands_55 : decode cX10_stands 55 = .ok (.goto 4, 3) := by decide +kernel
theorem dX10_stands_58 : decode cX10_stands 58 = .ok (.iconst 0, 1) := by decide +kernel
theorem dX10_stands_59 : decode cX10_stands 59 = .ok (.iconst 2, 1) := by decide +kernel
theorem dX10_stands_60 : decode cX10_stands 60 = .ok (.iconst 1, 1) := by decide +kernel
theorem dX10_stands_61 : decode cX10_stands 61 = .ok (.invokevirtual 212, 3) := by decide +kernel
theorem dX10_stands_64 : decode cX10_stands 64 = .ok (.ifCond .eq 5, 3) := by decide +kernel
theorem dX10_stands_67 : decode cX10_stands 67 = .ok (.iconst 0, 1) := by decide +kernel
theorem dX10_stands_68 : decode cX10_stands 68 = .ok (.ireturn, 1) := by decide +kernel
theorem dX10_stands_69 : decode cX10_stands 69 = .ok (.aload_n 0, 1) := by decide +kernel
theorem dX10_stands_70 : decode cX10_stands 70 = .ok (.invokevirtual 411, 3) := by decide +kernel
theorem dX10_stands_73 : decode cX10_stands 73 = .ok (.ifCond .ne 5, 3) := by decide +kernel
theorem dX10_stands_76 : decode cX10_stands 76 = .ok (.iconst 0, 1) := by decide +kernel
theorem dX10_stands_77 : decode cX10_stands 77 = .ok (.ireturn, 1) := by decide +kernel
theorem dX10_stands_78 : decode cX10_stands 78 = .ok (.aload_n 0, 1) := by decide +kernel
theorem dX10_stands_79 : decode cX10_stands 79 = .ok (.getfield 41, 3) := by decide +kernel
theorem dX10_stands_82 : decode cX10_stands 82 = .ok (.iconst 4, 1) := by decide +kernel
theorem dX10_stands_83 : decode cX10_stands 83 = .ok (.iconst 2, 1) := by decide +kernel
theorem dX10_stands_84 : decode cX10_stands 84 = .ok (.iload_n 1, 1) := by decide +kernel
theorem dX10_stands_85 : decode cX10_stands 85 = .ok (.imul, 1) := by decide +kernel
theorem dX10_stands_86 : decode cX10_stands 86 = .ok (.iadd, 1) := by decide +kernel
theorem dX10_stands_87 : decode cX10_stands 87 = .ok (.iload_n 2, 1) := by decide +kernel
theorem dX10_stands_88 : decode cX10_stands 88 = .ok (.iastore, 1) := by decide +kernel
theorem dX10_stands_89 : decode cX10_stands 89 = .ok (.aload_n 0, 1) := by decide +kernel
theorem dX10_stands_90 : decode cX10_stands 90 = .ok (.getfield 41, 3) := by decide +kernel
theorem dX10_stands_93 : decode cX10_stands 93 = .ok (.iconst 4, 1) := by decide +kernel
theorem dX10_stands_94 : decode cX10_stands 94 = .ok (.iconst 2, 1) := by decide +kernel
theorem dX10_stands_95 : decode cX10_stands 95 = .ok (.iload_n 1, 1) := by decide +kernel
theorem dX10_stands_96 : decode cX10_stands 96 = .ok (.imul, 1) := by decide +kernel
theorem dX10_stands_97 : decode cX10_stands 97 = .ok (.iadd, 1) := by decide +kernel
theorem dX10_stands_98 : decode cX10_stands 98 = .ok (.iconst 1, 1) := by decide +kernel
theorem dX10_stands_99 : decode cX10_stands 99 = .ok (.iadd, 1) := by decide +kernel
theorem dX10_stands_100 : decode cX10_stands 100 = .ok (.iload_n 3, 1) := by decide +kernel
theorem dX10_stands_101 : decode cX10_stands 101 = .ok (.iastore, 1) := by decide +kernel
theorem dX10_stands_102 : decode cX10_stands 102 = .ok (.iconst 1, 1) := by decide +kernel
theorem dX10_stands_103 : decode cX10_stands 103 = .ok (.ireturn, 1) := by decide +kernel
theorem dX10_weather_0 : decode cX10_weather 0 = .ok (.aload_n 0, 1) := by decide +kernel
theorem dX10_weather_1 : decode cX10_weather 1 = .ok (.iconst 0, 1) := by decide +kernel
theorem dX10_weather_2 : decode cX10_weather 2 = .ok (.putfield 133, 3) := by decide +kernel
theorem dX10_weather_5 : decode cX10_weather 5 = .ok (.aload_n 0, 1) := by decide +kernel
theorem dX10_weather_6 : decode cX10_weather 6 = .ok (.iload_n 1, 1) := by decide +kernel
theorem dX10_weather_7 : decode cX10_weather 7 = .ok (.iconst 0, 1) := by decide +kernel
theorem dX10_weather_8 : decode cX10_weather 8 = .ok (.bipush 9, 2) := by decide +kernel
theorem dX10_weather_10 : decode cX10_weather 10 = .ok (.invokestatic 167, 3) := by decide +kernel
theorem dX10_weather_13 : decode cX10_weather 13 = .ok (.ifCond .eq 13, 3) := by decide +kernel
theorem dX10_weather_16 : decode cX10_weather 16 = .ok (.iload_n 2, 1) := by decide +kernel
theorem dX10_weather_17 : decode cX10_weather 17 = .ok (.iconst 0, 1) := by decide +kernel
theorem dX10_weather_18 : decode cX10_weather 18 = .ok (.bipush 9, 2) := by decide +kernel
theorem dX10_weather_20 : decode cX10_weather 20 = .ok (.invokestatic 167, 3) := by decide +kernel
theorem dX10_weather_23 : decode cX10_weather 23 = .ok (.ifCond .ne 7, 3) := by decide +kernel
theorem dX10_weather_26 : decode cX10_weather 26 = .ok (.iconst 1, 1) := by decide +kernel
theorem dX10_weather_27 : decode cX10_weather 27 = .ok (.goto 4, 3) := by decide +kernel
theorem dX10_weather_30 : decode cX10_weather 30 = .ok (.iconst 0, 1) := by decide +kernel
theorem dX10_weather_31 : decode cX10_weather 31 = .ok (.iconst 1, 1) := by decide +kernel
theorem dX10_weather_32 : decode cX10_weather 32 = .ok (.iconst 1, 1) := by decide +kernel
theorem dX10_weather_33 : decode cX10_weather 33 = .ok (.invokevirtual 212, 3) := by decide +kernel
theorem dX10_weather_36 : decode cX10_weather 36 = .ok (.ifCond .eq 5, 3) := by decide +kernel
theorem dX10_weather_39 : decode cX10_weather 39 = .ok (.iconst 0, 1) := by decide +kernel
theorem dX10_weather_40 : decode cX10_weather 40 = .ok (.ireturn, 1) := by decide +kernel
theorem dX10_weather_41 : decode cX10_weather 41 = .ok (.aload_n 0, 1) := by decide +kernel
theorem dX10_weather_42 : decode cX10_weather 42 = .ok (.invokevirtual 411, 3) := by decide +kernel
theorem dX10_weather_45 : decode cX10_weather 45 = .ok (.ifCond .ne 5, 3) := by decide +kernel
theorem dX10_weather_48 : decode cX10_weather 48 = .ok (.iconst 0, 1) := by decide +kernel
theorem dX10_weather_49 : decode cX10_weather 49 = .ok (.ireturn, 1) := by decide +kernel
theorem dX10_weather_50 : decode cX10_weather 50 = .ok (.aload_n 0, 1) := by decide +kernel
theorem dX10_weather_51 : decode cX10_weather 51 = .ok (.getfield 41, 3) := by decide +kernel
theorem dX10_weather_54 : decode cX10_weather 54 = .ok (.bipush 24, 2) := by decide +kernel
theorem dX10_weather_56 : decode cX10_weather 56 = .ok (.iload_n 1, 1) := by decide +kernel
theorem dX10_weather_57 : decode cX10_weather 57 = .ok (.iastore, 1) := by decide +kernel
theorem dX10_weather_58 : decode cX10_weather 58 = .ok (.aload_n 0, 1) := by decide +kernel
theorem dX10_weather_59 : decode cX10_weather 59 = .ok (.getfield 41, 3) := by decide +kernel
theorem dX10_weather_62 : decode cX10_weather 62 = .ok (.bipush 25, 2) := by decide +kernel
theorem dX10_weather_64 : decode cX10_weather 64 = .ok (.iload_n 2, 1) := by decide +kernel
theorem dX10_weather_65 : decode cX10_weather 65 = .ok (.iastore, 1) := by decide +kernel
theorem dX10_weather_66 : decode cX10_weather 66 = .ok (.iconst 1, 1) := by decide +kernel
theorem dX10_weather_67 : decode cX10_weather 67 = .ok (.ireturn, 1) := by decide +kernel
theorem dX10_undo_0 : decode cX10_undo 0 = .ok (.aload_n 0, 1) := by decide +kernel
theorem dX10_undo_1 : decode cX10_undo 1 = .ok (.iconst 0, 1) := by decide +kernel
theorem dX10_undo_2 : decode cX10_undo 2 = .ok (.putfield 133, 3) := by decide +kernel
theorem dX10_undo_5 : decode cX10_undo 5 = .ok (.aload_n 0, 1) := by decide +kernel
theorem dX10_undo_6 : decode cX10_undo 6 = .ok (.getfield 232, 3) := by decide +kernel
theorem dX10_undo_9 : decode cX10_undo 9 = .ok (.ifCond .ne 5, 3) := by decide +kernel
theorem dX10_undo_12 : decode cX10_undo 12 = .ok (.iconst (-1), 1) := by decide +kernel
theorem dX10_undo_13 : decode cX10_undo 13 = .ok (.ireturn, 1) := by decide +kernel
theorem dX10_undo_14 : decode cX10_undo 14 = .ok (.aload_n 0, 1) := by decide +kernel
theorem dX10_undo_15 : decode cX10_undo 15 = .ok (.dup, 1) := by decide +kernel
theorem dX10_undo_16 : decode cX10_undo 16 = .ok (.getfield 232, 3) := by decide +kernel
theorem dX10_undo_19 : decode cX10_undo 19 = .ok (.iconst 1, 1) := by decide +kernel
theorem dX10_undo_20 : decode cX10_undo 20 = .ok (.isub, 1) := by decide +kernel
theorem dX10_undo_21 : decode cX10_undo 21 = .ok (.putfield 232, 3) := by decide +kernel
theorem dX10_undo_24 : decode cX10_undo 24 = .ok (.aload_n 0, 1) := by decide +kernel
theorem dX10_undo_25 : decode cX10_undo 25 = .ok (.getfield 73, 3) := by decide +kernel
theorem dX10_undo_28 : decode cX10_undo 28 = .ok (.aload_n 0, 1) := by decide +kernel
theorem dX10_undo_29 : decode cX10_undo 29 = .ok (.getfield 232, 3) := by decide +kernel
theorem dX10_undo_32 : decode cX10_undo 32 = .ok (.aaload, 1) := by decide +kernel
theorem dX10_undo_33 : decode cX10_undo 33 = .ok (.aload_n 0, 1) := by decide +kernel
theorem dX10_undo_34 : decode cX10_undo 34 = .ok (.getfield 41, 3) := by decide +kernel
theorem dX10_undo_37 : decode cX10_undo 37 = .ok (.bipush 26, 2) := by decide +kernel
theorem dX10_undo_39 : decode cX10_undo 39 = .ok (.invokestatic 225, 3) := by decide +kernel
theorem dX10_undo_42 : decode cX10_undo 42 = .ok (.aload_n 0, 1) := by decide +kernel
theorem dX10_undo_43 : decode cX10_undo 43 = .ok (.getfield 232, 3) := by decide +kernel
theorem dX10_undo_46 : decode cX10_undo 46 = .ok (.ireturn, 1) := by decide +kernel
theorem dX10_spots_0 : decode cX10_spots 0 = .ok (.iload_n 3, 1) := by decide +kernel
theorem dX10_spots_1 : decode cX10_spots 1 = .ok (.ifCond .ne 10, 3) := by decide +kernel
theorem dX10_spots_4 : decode cX10_spots 4 = .ok (.aload_n 1, 1) := by decide +kernel
theorem dX10_spots_5 : decode cX10_spots 5 = .ok (.aload_n 0, 1) := by decide +kernel
theorem dX10_spots_6 : decode cX10_spots 6 = .ok (.getfield 414, 3) := by decide +kernel
theorem dX10_spots_9 : decode cX10_spots 9 = .ok (.iload_n 2, 1) := by decide +kernel
theorem dX10_spots_10 : decode cX10_spots 10 = .ok (.iastore, 1) := by decide +kernel
theorem dX10_spots_11 : decode cX10_spots 11 = .ok (.aload_n 0, 1) := by decide +kernel
theorem dX10_spots_12 : decode cX10_spots 12 = .ok (.dup, 1) := by decide +kernel
theorem dX10_spots_13 : decode cX10_spots 13 = .ok (.getfield 414, 3) := by decide +kernel
theorem dX10_spots_16 : decode cX10_spots 16 = .ok (.iconst 1, 1) := by decide +kernel
theorem dX10_spots_17 : decode cX10_spots 17 = .ok (.iadd, 1) := by decide +kernel
theorem dX10_spots_18 : decode cX10_spots 18 = .ok (.putfield 414, 3) := by decide +kernel
theorem dX10_spots_21 : decode cX10_spots 21 = .ok (.aload_n 1, 1) := by decide +kernel
theorem dX10_spots_22 : decode cX10_spots 22 = .ok (.aload_n 0, 1) := by decide +kernel
theorem dX10_spots_23 : decode cX10_spots 23 = .ok (.getfield 414, 3) := by decide +kernel
theorem dX10_spots_26 : decode cX10_spots 26 = .ok (.iconst 1, 1) := by decide +kernel
theorem dX10_spots_27 : decode cX10_spots 27 = .ok (.isub, 1) := by decide +kernel
theorem dX10_spots_28 : decode cX10_spots 28 = .ok (.iaload, 1) := by decide +kernel
theorem dX10_spots_29 : decode cX10_spots 29 = .ok (.ireturn, 1) := by decide +kernel
theorem dX10_spotsAll_0 : decode cX10_spotsAll 0 = .ok (.aload_n 0, 1) := by decide +kernel
theorem dX10_spotsAll_1 : decode cX10_spotsAll 1 = .ok (.iconst 0, 1) := by decide +kernel
theorem dX10_spotsAll_2 : decode cX10_spotsAll 2 = .ok (.putfield 414, 3) := by decide +kernel
theorem dX10_spotsAll_5 : decode cX10_spotsAll 5 = .ok (.aload_n 0, 1) := by decide +kernel
theorem dX10_spotsAll_6 : decode cX10_spotsAll 6 = .ok (.aload_n 0, 1) := by decide +kernel
theorem dX10_spotsAll_7 : decode cX10_spotsAll 7 = .ok (.aload_n 1, 1) := by decide +kernel
theorem dX10_spotsAll_8 : decode cX10_spotsAll 8 = .ok (.aload_n 0, 1) := by decide +kernel
theorem dX10_spotsAll_9 : decode cX10_spotsAll 9 = .ok (.getfield 232, 3) := by decide +kernel
theorem dX10_spotsAll_12 : decode cX10_spotsAll 12 = .ok (.iload_n 2, 1) := by decide +kernel
theorem dX10_spotsAll_13 : decode cX10_spotsAll 13 = .ok (.invokevirtual 417, 3) := by decide +kernel
theorem dX10_spotsAll_16 : decode cX10_spotsAll 16 = .ok (.putfield 232, 3) := by decide +kernel
theorem dX10_spotsAll_19 : decode cX10_spotsAll 19 = .ok (.iconst 0, 1) := by decide +kernel
theorem dX10_spotsAll_20 : decode cX10_spotsAll 20 = .ok (.istore_n 3, 1) := by decide +kernel
theorem dX10_spotsAll_21 : decode cX10_spotsAll 21 = .ok (.iload_n 3, 1) := by decide +kernel
theorem dX10_spotsAll_22 : decode cX10_spotsAll 22 = .ok (.bipush 26, 2) := by decide +kernel
theorem dX10_spotsAll_24 : decode cX10_spotsAll 24 = .ok (.if_icmp .ge 27, 3) := by decide +kernel
theorem dX10_spotsAll_27 : decode cX10_spotsAll 27 = .ok (.aload_n 0, 1) := by decide +kernel
theorem dX10_spotsAll_28 : decode cX10_spotsAll 28 = .ok (.getfield 41, 3) := by decide +kernel
theorem dX10_spotsAll_31 : decode cX10_spotsAll 31 = .ok (.iload_n 3, 1) := by decide +kernel
theorem dX10_spotsAll_32 : decode cX10_spotsAll 32 = .ok (.aload_n 0, 1) := by decide +kernel
theorem dX10_spotsAll_33 : decode cX10_spotsAll 33 = .ok (.aload_n 1, 1) := by decide +kernel
theorem dX10_spotsAll_34 : decode cX10_spotsAll 34 = .ok (.aload_n 0, 1) := by decide +kernel
theorem dX10_spotsAll_35 : decode cX10_spotsAll 35 = .ok (.getfield 41, 3) := by decide +kernel
theorem dX10_spotsAll_38 : decode cX10_spotsAll 38 = .ok (.iload_n 3, 1) := by decide +kernel
theorem dX10_spotsAll_39 : decode cX10_spotsAll 39 = .ok (.iaload, 1) := by decide +kernel
theorem dX10_spotsAll_40 : decode cX10_spotsAll 40 = .ok (.iload_n 2, 1) := by decide +kernel
theorem dX10_spotsAll_41 : decode cX10_spotsAll 41 = .ok (.invokevirtual 417, 3) := by decide +kernel
theorem dX10_spotsAll_44 : decode cX10_spotsAll 44 = .ok (.iastore, 1) := by decide +kernel
theorem dX10_spotsAll_45 : decode cX10_spotsAll 45 = .ok (.iinc 3 1, 3) := by decide +kernel
theorem dX10_spotsAll_48 : decode cX10_spotsAll 48 = .ok (.goto (-27), 3) := by decide +kernel
theorem dX10_spotsAll_51 : decode cX10_spotsAll 51 = .ok (.iconst 0, 1) := by decide +kernel
theorem dX10_spotsAll_52 : decode cX10_spotsAll 52 = .ok (.istore_n 3, 1) := by decide +kernel
theorem dX10_spotsAll_53 : decode cX10_spotsAll 53 = .ok (.iload_n 3, 1) := by decide +kernel
theorem dX10_spotsAll_54 : decode cX10_spotsAll 54 = .ok (.bipush 20, 2) := by decide +kernel
theorem dX10_spotsAll_56 : decode cX10_spotsAll 56 = .ok (.if_icmp .ge 49, 3) := by decide +kernel
theorem dX10_spotsAll_59 : decode cX10_spotsAll 59 = .ok (.iconst 0, 1) := by decide +kernel
theorem dX10_spotsAll_60 : decode cX10_spotsAll 60 = .ok (.istore 4, 2) := by decide +kernel
theorem dX10_spotsAll_62 : decode cX10_spotsAll 62 = .ok (.iload 4, 2) := by decide +kernel
theorem dX10_spotsAll_64 : decode cX10_spotsAll 64 = .ok (.bipush 26, 2) := by decide +kernel
theorem dX10_spotsAll_66 : decode cX10_spotsAll 66 = .ok (.if_icmp .ge 33, 3) := by decide +kernel
theorem dX10_spotsAll_69 : decode cX10_spotsAll 69 = .ok (.aload_n 0, 1) := by decide +kernel
theorem dX10_spotsAll_70 : decode cX10_spotsAll 70 = .ok (.getfield 73, 3) := by decide +kernel
theorem dX10_spotsAll_73 : decode cX10_spotsAll 73 = .ok (.iload_n 3, 1) := by decide +kernel
theorem dX10_spotsAll_74 : decode cX10_spotsAll 74 = .ok (.aaload, 1) := by decide +kernel
theorem dX10_spotsAll_75 : decode cX10_spotsAll 75 = .ok (.iload 4, 2) := by decide +kernel
theorem dX10_spotsAll_77 : decode cX10_spotsAll 77 = .ok (.aload_n 0, 1) := by decide +kernel
theorem dX10_spotsAll_78 : decode cX10_spotsAll 78 = .ok (.aload_n 1, 1) := by decide +kernel
theorem dX10_spotsAll_79 : decode cX10_spotsAll 79 = .ok (.aload_n 0, 1) := by decide +kernel
theorem dX10_spotsAll_80 : decode cX10_spotsAll 80 = .ok (.getfield 73, 3) := by decide +kernel
theorem dX10_spotsAll_83 : decode cX10_spotsAll 83 = .ok (.iload_n 3, 1) := by decide +kernel
theorem dX10_spotsAll_84 : decode cX10_spotsAll 84 = .ok (.aaload, 1) := by decide +kernel
theorem dX10_spotsAll_85 : decode cX10_spotsAll 85 = .ok (.iload 4, 2) := by decide +kernel
theorem dX10_spotsAll_87 : decode cX10_spotsAll 87 = .ok (.iaload, 1) := by decide +kernel
theorem dX10_spotsAll_88 : decode cX10_spotsAll 88 = .ok (.iload_n 2, 1) := by decide +kernel
theorem dX10_spotsAll_89 : decode cX10_spotsAll 89 = .ok (.invokevirtual 417, 3) := by decide +kernel
theorem dX10_spotsAll_92 : decode cX10_spotsAll 92 = .ok (.iastore, 1) := by decide +kernel
theorem dX10_spotsAll_93 : decode cX10_spotsAll 93 = .ok (.iinc 4 1, 3) := by decide +kernel
theorem dX10_spotsAll_96 : decode cX10_spotsAll 96 = .ok (.goto (-34), 3) := by decide +kernel
theorem dX10_spotsAll_99 : decode cX10_spotsAll 99 = .ok (.iinc 3 1, 3) := by decide +kernel
theorem dX10_spotsAll_102 : decode cX10_spotsAll 102 = .ok (.goto (-49), 3) := by decide +kernel
theorem dX10_spotsAll_105 : decode cX10_spotsAll 105 = .ok (.return_, 1) := by decide +kernel
theorem dX10_image_0 : decode cX10_image 0 = .ok (.aload_n 0, 1) := by decide +kernel
theorem dX10_image_1 : decode cX10_image 1 = .ok (.iconst 0, 1) := by decide +kernel
theorem dX10_image_2 : decode cX10_image 2 = .ok (.putfield 133, 3) := by decide +kernel
theorem dX10_image_5 : decode cX10_image 5 = .ok (.aload_n 0, 1) := by decide +kernel
theorem dX10_image_6 : decode cX10_image 6 = .ok (.getfield 235, 3) := by decide +kernel
theorem dX10_image_9 : decode cX10_image 9 = .ok (.iconst 3, 1) := by decide +kernel
theorem dX10_image_10 : decode cX10_image 10 = .ok (.if_icmp .ne 5, 3) := by decide +kernel
theorem dX10_image_13 : decode cX10_image 13 = .ok (.iconst (-1), 1) := by decide +kernel
theorem dX10_image_14 : decode cX10_image 14 = .ok (.ireturn, 1) := by decide +kernel
theorem dX10_image_15 : decode cX10_image 15 = .ok (.aload_n 0, 1) := by decide +kernel
theorem dX10_image_16 : decode cX10_image 16 = .ok (.aload_n 0, 1) := by decide +kernel
theorem dX10_image_17 : decode cX10_image 17 = .ok (.getfield 76, 3) := by decide +kernel
theorem dX10_image_20 : decode cX10_image 20 = .ok (.aload_n 0, 1) := by decide +kernel
theorem dX10_image_21 : decode cX10_image 21 = .ok (.getfield 235, 3) := by decide +kernel
theorem dX10_image_24 : decode cX10_image 24 = .ok (.aaload, 1) := by decide +kernel
theorem dX10_image_25 : decode cX10_image 25 = .ok (.iconst 0, 1) := by decide +kernel
theorem dX10_image_26 : decode cX10_image 26 = .ok (.invokevirtual 421, 3) := by decide +kernel
theorem dX10_image_29 : decode cX10_image 29 = .ok (.aload_n 0, 1) := by decide +kernel
theorem dX10_image_30 : decode cX10_image 30 = .ok (.dup, 1) := by decide +kernel
theorem dX10_image_31 : decode cX10_image 31 = .ok (.getfield 235, 3) := by decide +kernel
theorem dX10_image_34 : decode cX10_image 34 = .ok (.iconst 1, 1) := by decide +kernel
theorem dX10_image_35 : decode cX10_image 35 = .ok (.iadd, 1) := by decide +kernel
theorem dX10_image_36 : decode cX10_image 36 = .ok (.putfield 235, 3) := by decide +kernel
theorem dX10_image_39 : decode cX10_image 39 = .ok (.aload_n 0, 1) := by decide +kernel
theorem dX10_image_40 : decode cX10_image 40 = .ok (.getfield 235, 3) := by decide +kernel
theorem dX10_image_43 : decode cX10_image 43 = .ok (.ireturn, 1) := by decide +kernel
theorem dX10_restore_0 : decode cX10_restore 0 = .ok (.aload_n 0, 1) := by decide +kernel
theorem dX10_restore_1 : decode cX10_restore 1 = .ok (.iconst 0, 1) := by decide +kernel
theorem dX10_restore_2 : decode cX10_restore 2 = .ok (.putfield 133, 3) := by decide +kernel
theorem dX10_restore_5 : decode cX10_restore 5 = .ok (.aload_n 0, 1) := by decide +kernel
theorem dX10_restore_6 : decode cX10_restore 6 = .ok (.getfield 235, 3) := by decide +kernel
theorem dX10_restore_9 : decode cX10_restore 9 = .ok (.ifCond .ne 5, 3) := by decide +kernel
theorem dX10_restore_12 : decode cX10_restore 12 = .ok (.iconst (-1), 1) := by decide +kernel
theorem dX10_restore_13 : decode cX10_restore 13 = .ok (.ireturn, 1) := by decide +kernel
theorem dX10_restore_14 : decode cX10_restore 14 = .ok (.aload_n 0, 1) := by decide +kernel
theorem dX10_restore_15 : decode cX10_restore 15 = .ok (.dup, 1) := by decide +kernel
theorem dX10_restore_16 : decode cX10_restore 16 = .ok (.getfield 235, 3) := by decide +kernel
theorem dX10_restore_19 : decode cX10_restore 19 = .ok (.iconst 1, 1) := by decide +kernel
theorem dX10_restore_20 : decode cX10_restore 20 = .ok (.isub, 1) := by decide +kernel
theorem dX10_restore_21 : decode cX10_restore 21 = .ok (.putfield 235, 3) := by decide +kernel
theorem dX10_restore_24 : decode cX10_restore 24 = .ok (.aload_n 0, 1) := by decide +kernel
theorem dX10_restore_25 : decode cX10_restore 25 = .ok (.aload_n 0, 1) := by decide +kernel
theorem dX10_restore_26 : decode cX10_restore 26 = .ok (.getfield 76, 3) := by decide +kernel
theorem dX10_restore_29 : decode cX10_restore 29 = .ok (.aload_n 0, 1) := by decide +kernel
theorem dX10_restore_30 : decode cX10_restore 30 = .ok (.getfield 235, 3) := by decide +kernel
theorem dX10_restore_33 : decode cX10_restore 33 = .ok (.aaload, 1) := by decide +kernel
theorem dX10_restore_34 : decode cX10_restore 34 = .ok (.iconst 1, 1) := by decide +kernel
theorem dX10_restore_35 : decode cX10_restore 35 = .ok (.invokevirtual 421, 3) := by decide +kernel
theorem dX10_restore_38 : decode cX10_restore 38 = .ok (.aload_n 0, 1) := by decide +kernel
theorem dX10_restore_39 : decode cX10_restore 39 = .ok (.getfield 235, 3) := by decide +kernel
theorem dX10_restore_42 : decode cX10_restore 42 = .ok (.ireturn, 1) := by decide +kernel
theorem dX10_status_0 : decode cX10_status 0 = .ok (.aload_n 0, 1) := by decide +kernel
theorem dX10_status_1 : decode cX10_status 1 = .ok (.iconst 0, 1) := by decide +kernel
theorem dX10_status_2 : decode cX10_status 2 = .ok (.putfield 133, 3) := by decide +kernel
theorem dX10_status_5 : decode cX10_status 5 = .ok (.iload_n 1, 1) := by decide +kernel
theorem dX10_status_6 : decode cX10_status 6 = .ok (.iconst 0, 1) := by decide +kernel
theorem dX10_status_7 : decode cX10_status 7 = .ok (.iconst 2, 1) := by decide +kernel
theorem dX10_status_8 : decode cX10_status 8 = .ok (.invokestatic 167, 3) := by decide +kernel
theorem dX10_status_11 : decode cX10_status 11 = .ok (.ifCond .eq 12, 3) := by decide +kernel
theorem dX10_status_14 : decode cX10_status 14 = .ok (.aload_n 0, 1) := by decide +kernel
theorem dX10_status_15 : decode cX10_status 15 = .ok (.getfield 17, 3) := by decide +kernel
theorem dX10_status_18 : decode cX10_status 18 = .ok (.iload_n 1, 1) := by decide +kernel
theorem dX10_status_19 : decode cX10_status 19 = .ok (.iaload, 1) := by decide +kernel
theorem dX10_status_20 : decode cX10_status 20 = .ok (.goto 4, 3) := by decide +kernel
theorem dX10_status_23 : decode cX10_status 23 = .ok (.iconst (-1), 1) := by decide +kernel
theorem dX10_status_24 : decode cX10_status 24 = .ok (.ireturn, 1) := by decide +kernel
theorem dX10_count_0 : decode cX10_count 0 = .ok (.aload_n 0, 1) := by decide +kernel
theorem dX10_count_1 : decode cX10_count 1 = .ok (.iconst 0, 1) := by decide +kernel
theorem dX10_count_2 : decode cX10_count 2 = .ok (.putfield 133, 3) := by decide +kernel
theorem dX10_count_5 : decode cX10_count 5 = .ok (.iload_n 1, 1) := by decide +kernel
theorem dX10_count_6 : decode cX10_count 6 = .ok (.ifCond .ne 10, 3) := by decide +kernel
theorem dX10_count_9 : decode cX10_count 9 = .ok (.aload_n 0, 1) := by decide +kernel
theorem dX10_count_10 : decode cX10_count 10 = .ok (.getfield 235, 3) := by decide +kernel
theorem dX10_count_13 : decode cX10_count 13 = .ok (.goto 28, 3) := by decide +kernel
theorem dX10_count_16 : decode cX10_count 16 = .ok (.iload_n 1, 1) := by decide +kernel
theorem dX10_count_17 : decode cX10_count 17 = .ok (.iconst 1, 1) := by decide +kernel
theorem dX10_count_18 : decode cX10_count 18 = .ok (.if_icmp .ne 10, 3) := by decide +kernel
theorem dX10_count_21 : decode cX10_count 21 = .ok (.aload_n 0, 1) := by decide +kernel
theorem dX10_count_22 : decode cX10_count 22 = .ok (.getfield 136, 3) := by decide +kernel
theorem dX10_count_25 : decode cX10_count 25 = .ok (.goto 16, 3) := by decide +kernel
theorem dX10_count_28 : decode cX10_count 28 = .ok (.iload_n 1, 1) := by decide +kernel
theorem dX10_count_29 : decode cX10_count 29 = .ok (.iconst 2, 1) := by decide +kernel
theorem dX10_count_30 : decode cX10_count 30 = .ok (.if_icmp .ne 10, 3) := by decide +kernel
theorem dX10_count_33 : decode cX10_count 33 = .ok (.aload_n 0, 1) := by decide +kernel
theorem dX10_count_34 : decode cX10_count 34 = .ok (.getfield 232, 3) := by decide +kernel
theorem dX10_count_37 : decode cX10_count 37 = .ok (.goto 4, 3) := by decide +kernel
theorem dX10_count_40 : decode cX10_count 40 = .ok (.iconst (-1), 1) := by decide +kernel
theorem dX10_count_41 : decode cX10_count 41 = .ok (.ireturn, 1) := by decide +kernel
