theorem dX12_take_37 : decode cX12_take 37 = .ok (.getfield 163, 3) := by decide +kernel
theorem dX12_take_40 : decode cX12_take 40 = .ok (.if_icmp .ge 25, 3) := by decide +kernel
theorem dX12_take_43 : decode cX12_take 43 = .ok (.aload_n 0, 1) := by decide +kernel
theorem dX12_take_44 : decode cX12_take 44 = .ok (.getfield 36, 3) := by decide +kernel
theorem dX12_take_47 : decode cX12_take 47 = .ok (.iload_n 2, 1) := by decide +kernel
theorem dX12_take_48 : decode cX12_take 48 = .ok (.aload_n 0, 1) := by decide +kernel
theorem dX12_take_49 : decode cX12_take 49 = .ok (.getfield 138, 3) := by decide +kernel
theorem dX12_take_52 : decode cX12_take 52 = .ok (.iconst 4, 1) := by decide +kernel
theorem dX12_take_53 : decode cX12_take 53 = .ok (.iload_n 1, 1) := by decide +kernel
theorem dX12_take_54 : decode cX12_take 54 = .ok (.imul, 1) := by decide +kernel
theorem dX12_take_55 : decode cX12_take 55 = .ok (.iload_n 2, 1) := by decide +kernel
theorem dX12_take_56 : decode cX12_take 56 = .ok (.iadd, 1) := by decide +kernel
theorem dX12_take_57 : decode cX12_take 57 = .ok (.iaload, 1) := by decide +kernel
theorem dX12_take_58 : decode cX12_take 58 = .ok (.iastore, 1) := by decide +kernel
theorem dX12_take_59 : decode cX12_take 59 = .ok (.iinc 2 1, 3) := by decide +kernel
theorem dX12_take_62 : decode cX12_take 62 = .ok (.goto (-27), 3) := by decide +kernel
theorem dX12_take_65 : decode cX12_take 65 = .ok (.aload_n 0, 1) := by decide +kernel
theorem dX12_take_66 : decode cX12_take 66 = .ok (.getfield 132, 3) := by decide +kernel
theorem dX12_take_69 : decode cX12_take 69 = .ok (.iload_n 1, 1) := by decide +kernel
theorem dX12_take_70 : decode cX12_take 70 = .ok (.iaload, 1) := by decide +kernel
theorem dX12_take_71 : decode cX12_take 71 = .ok (.ireturn, 1) := by decide +kernel
theorem dX12_morning_0 : decode cX12_morning 0 = .ok (.iload_n 1, 1) := by decide +kernel
theorem dX12_morning_1 : decode cX12_morning 1 = .ok (.ifCond .lt 23, 3) := by decide +kernel
theorem dX12_morning_4 : decode cX12_morning 4 = .ok (.iload_n 2, 1) := by decide +kernel
theorem dX12_morning_5 : decode cX12_morning 5 = .ok (.iconst 0, 1) := by decide +kernel
theorem dX12_morning_6 : decode cX12_morning 6 = .ok (.bipush 60, 2) := by decide +kernel
theorem dX12_morning_8 : decode cX12_morning 8 = .ok (.invokestatic 159, 3) := by decide +kernel
theorem dX12_morning_11 : decode cX12_morning 11 = .ok (.ifCond .eq 13, 3) := by decide +kernel
theorem dX12_morning_14 : decode cX12_morning 14 = .ok (.iload_n 3, 1) := by decide +kernel
theorem dX12_morning_15 : decode cX12_morning 15 = .ok (.iconst 0, 1) := by decide +kernel
theorem dX12_morning_16 : decode cX12_morning 16 = .ok (.bipush 10, 2) := by decide +kernel
theorem dX12_morning_18 : decode cX12_morning 18 = .ok (.invokestatic 159, 3) := by decide +kernel
theorem dX12_morning_21 : decode cX12_morning 21 = .ok (.ifCond .ne 10, 3) := by decide +kernel
theorem dX12_morning_24 : decode cX12_morning 24 = .ok (.aload_n 0, 1) := by decide +kernel
theorem dX12_morning_25 : decode cX12_morning 25 = .ok (.ldc 185, 2) := by decide +kernel
theorem dX12_morning_27 : decode cX12_morning 27 = .ok (.invokevirtual 177, 3) := by decide +kernel
theorem dX12_morning_30 : decode cX12_morning 30 = .ok (.ireturn, 1) := by decide +kernel
theorem dX12_morning_31 : decode cX12_morning 31 = .ok (.aload_n 0, 1) := by decide +kernel
theorem dX12_morning_32 : decode cX12_morning 32 = .ok (.invokevirtual 243, 3) := by decide +kernel
theorem dX12_morning_35 : decode cX12_morning 35 = .ok (.aload_n 0, 1) := by decide +kernel
theorem dX12_morning_36 : decode cX12_morning 36 = .ok (.getfield 233, 3) := by decide +kernel
theorem dX12_morning_39 : decode cX12_morning 39 = .ok (.ifCond .eq 11, 3) := by decide +kernel
theorem dX12_morning_42 : decode cX12_morning 42 = .ok (.iload_n 1, 1) := by decide +kernel
theorem dX12_morning_43 : decode cX12_morning 43 = .ok (.aload_n 0, 1) := by decide +kernel
theorem dX12_morning_44 : decode cX12_morning 44 = .ok (.getfield 230, 3) := by decide +kernel
theorem dX12_morning_47 : decode cX12_morning 47 = .ok (.if_icmp .lt 10, 3) := by decide +kernel
theorem dX12_morning_50 : decode cX12_morning 50 = .ok (.aload_n 0, 1) := by decide +kernel
theorem dX12_morning_51 : decode cX12_morning 51 = .ok (.ldc 197, 2) := by decide +kernel
theorem dX12_morning_53 : decode cX12_morning 53 = .ok (.invokevirtual 177, 3) := by decide +kernel
theorem dX12_morning_56 : decode cX12_morning 56 = .ok (.ireturn, 1) := by decide +kernel
theorem dX12_morning_57 : decode cX12_morning 57 = .ok (.aload_n 0, 1) := by decide +kernel
theorem dX12_morning_58 : decode cX12_morning 58 = .ok (.invokevirtual 271, 3) := by decide +kernel
theorem dX12_morning_61 : decode cX12_morning 61 = .ok (.iconst 0, 1) := by decide +kernel
theorem dX12_morning_62 : decode cX12_morning 62 = .ok (.istore 4, 2) := by decide +kernel
theorem dX12_morning_64 : decode cX12_morning 64 = .ok (.iload 4, 2) := by decide +kernel
theorem dX12_morning_66 : decode cX12_morning 66 = .ok (.aload_n 0, 1) := by decide +kernel
theorem dX12_morning_67 : decode cX12_morning 67 = .ok (.getfield 230, 3) := by decide +kernel
theorem dX12_morning_70 : decode cX12_morning 70 = .ok (.if_icmp .ge 46, 3) := by decide +kernel
theorem dX12_morning_73 : decode cX12_morning 73 = .ok (.iconst 0, 1) := by decide +kernel
theorem dX12_morning_74 : decode cX12_morning 74 = .ok (.istore 5, 2) := by decide +kernel
theorem dX12_morning_76 : decode cX12_morning 76 = .ok (.iload 5, 2) := by decide +kernel
theorem dX12_morning_78 : decode cX12_morning 78 = .ok (.bipush 11, 2) := by decide +kernel
theorem dX12_morning_80 : decode cX12_morning 80 = .ok (.if_icmp .ge 30, 3) := by decide +kernel
theorem dX12_morning_83 : decode cX12_morning 83 = .ok (.aload_n 0, 1) := by decide +kernel
theorem dX12_morning_84 : decode cX12_morning 84 = .ok (.getfield 147, 3) := by decide +kernel
theorem dX12_morning_87 : decode cX12_morning 87 = .ok (.bipush 11, 2) := by decide +kernel
theorem dX12_morning_89 : decode cX12_morning 89 = .ok (.iload 4, 2) := by decide +kernel
theorem dX12_morning_91 : decode cX12_morning 91 = .ok (.imul, 1) := by decide +kernel
theorem dX12_morning_92 : decode cX12_morning 92 = .ok (.iload 5, 2) := by decide +kernel
theorem dX12_morning_94 : decode cX12_morning 94 = .ok (.iadd, 1) := by decide +kernel
theorem dX12_morning_95 : decode cX12_morning 95 = .ok (.aload_n 0, 1) := by decide +kernel
theorem dX12_morning_96 : decode cX12_morning 96 = .ok (.iload 4, 2) := by decide +kernel
theorem dX12_morning_98 : decode cX12_morning 98 = .ok (.iload 5, 2) := by decide +kernel
theorem dX12_morning_100 : decode cX12_morning 100 = .ok (.invokevirtual 250, 3) := by decide +kernel
theorem dX12_morning_103 : decode cX12_morning 103 = .ok (.iastore, 1) := by decide +kernel
theorem dX12_morning_104 : decode cX12_morning 104 = .ok (.iinc 5 1, 3) := by decide +kernel
theorem dX12_morning_107 : decode cX12_morning 107 = .ok (.goto (-31), 3) := by decide +kernel
theorem dX12_morning_110 : decode cX12_morning 110 = .ok (.iinc 4 1, 3) := by decide +kernel
theorem dX12_morning_113 : decode cX12_morning 113 = .ok (.goto (-49), 3) := by decide +kernel
theorem dX12_morning_116 : decode cX12_morning 116 = .ok (.aload_n 0, 1) := by decide +kernel
theorem dX12_morning_117 : decode cX12_morning 117 = .ok (.iload_n 3, 1) := by decide +kernel
theorem dX12_morning_118 : decode cX12_morning 118 = .ok (.invokevirtual 193, 3) := by decide +kernel
theorem dX12_morning_121 : decode cX12_morning 121 = .ok (.iconst 0, 1) := by decide +kernel
theorem dX12_morning_122 : decode cX12_morning 122 = .ok (.istore 4, 2) := by decide +kernel
theorem dX12_morning_124 : decode cX12_morning 124 = .ok (.iconst 0, 1) := by decide +kernel
theorem dX12_morning_125 : decode cX12_morning 125 = .ok (.istore 5, 2) := by decide +kernel
theorem dX12_morning_127 : decode cX12_morning 127 = .ok (.iload 5, 2) := by decide +kernel
theorem dX12_morning_129 : decode cX12_morning 129 = .ok (.aload_n 0, 1) := by decide +kernel
theorem dX12_morning_130 : decode cX12_morning 130 = .ok (.getfield 230, 3) := by decide +kernel
theorem dX12_morning_133 : decode cX12_morning 133 = .ok (.if_icmp .ge 197, 3) := by decide +kernel
theorem dX12_morning_136 : decode cX12_morning 136 = .ok (.aload_n 0, 1) := by decide +kernel
theorem dX12_morning_137 : decode cX12_morning 137 = .ok (.iload 5, 2) := by decide +kernel
theorem dX12_morning_139 : decode cX12_morning 139 = .ok (.invokevirtual 274, 3) := by decide +kernel
theorem dX12_morning_142 : decode cX12_morning 142 = .ok (.ifCond .ne 6, 3) := by decide +kernel
theorem dX12_morning_145 : decode cX12_morning 145 = .ok (.goto 179, 3) := by decide +kernel
theorem dX12_morning_148 : decode cX12_morning 148 = .ok (.iconst (-1), 1) := by decide +kernel
theorem dX12_morning_149 : decode cX12_morning 149 = .ok (.istore 6, 2) := by decide +kernel
theorem dX12_morning_151 : decode cX12_morning 151 = .ok (.iload 5, 2) := by decide +kernel
theorem dX12_morning_153 : decode cX12_morning 153 = .ok (.istore 7, 2) := by decide +kernel
theorem dX12_morning_155 : decode cX12_morning 155 = .ok (.iload 7, 2) := by decide +kernel
theorem dX12_morning_157 : decode cX12_morning 157 = .ok (.ifCond .lt 167, 3) := by decide +kernel
theorem dX12_morning_160 : decode cX12_morning 160 = .ok (.aload_n 0, 1) := by decide +kernel
theorem dX12_morning_161 : decode cX12_morning 161 = .ok (.iload 7, 2) := by decide +kernel
theorem dX12_morning_163 : decode cX12_morning 163 = .ok (.invokevirtual 259, 3) := by decide +kernel
theorem dX12_morning_166 : decode cX12_morning 166 = .ok (.istore 8, 2) := by decide +kernel
theorem dX12_morning_168 : decode cX12_morning 168 = .ok (.iload 6, 2) := by decide +kernel
theorem dX12_morning_170 : decode cX12_morning 170 = .ok (.ifCond .lt 65, 3) := by decide +kernel
theorem dX12_morning_173 : decode cX12_morning 173 = .ok (.aload_n 0, 1) := by decide +kernel
theorem dX12_morning_174 : decode cX12_morning 174 = .ok (.getfield 144, 3) := by decide +kernel
theorem dX12_morning_177 : decode cX12_morning 177 = .ok (.iload 6, 2) := by decide +kernel
theorem dX12_morning_179 : decode cX12_morning 179 = .ok (.iaload, 1) := by decide +kernel
theorem dX12_morning_180 : decode cX12_morning 180 = .ok (.aload_n 0, 1) := by decide +kernel
theorem dX12_morning_181 : decode cX12_morning 181 = .ok (.getfield 75, 3) := by decide +kernel
theorem dX12_morning_184 : decode cX12_morning 184 = .ok (.bipush 8, 2) := by decide +kernel
theorem dX12_morning_186 : decode cX12_morning 186 = .ok (.aload_n 0, 1) := by decide +kernel
theorem dX12_morning_187 : decode cX12_morning 187 = .ok (.getfield 33, 3) := by decide +kernel
theorem dX12_morning_190 : decode cX12_morning 190 = .ok (.aload_n 0, 1) := by decide +kernel
theorem dX12_morning_191 : decode cX12_morning 191 = .ok (.getfield 96, 3) := by decide +kernel
theorem dX12_morning_194 : decode cX12_morning 194 = .ok (.iload 6, 2) := by decide +kernel
theorem dX12_morning_196 : decode cX12_morning 196 = .ok (.iaload, 1) := by decide +kernel
theorem dX12_morning_197 : decode cX12_morning 197 = .ok (.iaload, 1) := by decide +kernel
theorem dX12_morning_198 : decode cX12_morning 198 = .ok (.imul, 1) := by decide +kernel
theorem dX12_morning_199 : decode cX12_morning 199 = .ok (.aload_n 0, 1) := by decide +kernel
theorem dX12_morning_200 : decode cX12_morning 200 = .ok (.getfield 45, 3) := by decide +kernel
theorem dX12_morning_203 : decode cX12_morning 203 = .ok (.aload_n 0, 1) := by decide +kernel
theorem dX12_morning_204 : decode cX12_morning 204 = .ok (.getfield 147, 3) := by decide +kernel
theorem dX12_morning_207 : decode cX12_morning 207 = .ok (.bipush 11, 2) := by decide +kernel
theorem dX12_morning_209 : decode cX12_morning 209 = .ok (.iload 7, 2) := by decide +kernel
theorem dX12_morning_211 : decode cX12_morning 211 = .ok (.imul, 1) := by decide +kernel
theorem dX12_morning_212 : decode cX12_morning 212 = .ok (.iaload, 1) := by decide +kernel
theorem dX12_morning_213 : decode cX12_morning 213 = .ok (.iaload, 1) := by decide +kernel
theorem dX12_morning_214 : decode cX12_morning 214 = .ok (.iadd, 1) := by decide +kernel
theorem dX12_morning_215 : decode cX12_morning 215 = .ok (.iaload, 1) := by decide +kernel
theorem dX12_morning_216 : decode cX12_morning 216 = .ok (.iadd, 1) := by decide +kernel
theorem dX12_morning_217 : decode cX12_morning 217 = .ok (.istore 9, 2) := by decide +kernel
theorem dX12_morning_219 : decode cX12_morning 219 = .ok (.iload 9, 2) := by decide +kernel
theorem dX12_morning_221 : decode cX12_morning 221 = .ok (.iload 8, 2) := by decide +kernel
theorem dX12_morning_223 : decode cX12_morning 223 = .ok (.if_icmp .le 8, 3) := by decide +kernel
theorem dX12_morning_226 : decode cX12_morning 226 = .ok (.iload 9, 2) := by decide +kernel
theorem dX12_morning_228 : decode cX12_morning 228 = .ok (.goto 5, 3) := by decide +kernel
theorem dX12_morning_231 : decode cX12_morning 231 = .ok (.iload 8, 2) := by decide +kernel
theorem dX12_morning_233 : decode cX12_morning 233 = .ok (.istore 8, 2) := by decide +kernel
theorem dX12_morning_235 : decode cX12_morning 235 = .ok (.iload 8, 2) := by decide +kernel
theorem dX12_morning_237 : decode cX12_morning 237 = .ok (.iload 7, 2) := by decide +kernel
theorem dX12_morning_239 : decode cX12_morning 239 = .ok (.iload_n 1, 1) := by decide +kernel
theorem dX12_morning_240 : decode cX12_morning 240 = .ok (.if_icmp .ne 7, 3) := by decide +kernel
theorem dX12_morning_243 : decode cX12_morning 243 = .ok (.iload_n 2, 1) := by decide +kernel
theorem dX12_morning_244 : decode cX12_morning 244 = .ok (.goto 4, 3) := by decide +kernel
theorem dX12_morning_247 : decode cX12_morning 247 = .ok (.iconst 0, 1) := by decide +kernel
theorem dX12_morning_248 : decode cX12_morning 248 = .ok (.iadd, 1) := by decide +kernel
theorem dX12_morning_249 : decode cX12_morning 249 = .ok (.istore 8, 2) := by decide +kernel
theorem dX12_morning_251 : decode cX12_morning 251 = .ok (.aload_n 0, 1) := by decide +kernel
theorem dX12_morning_252 : decode cX12_morning 252 = .ok (.getfield 144, 3) := by decide +kernel
theorem dX12_morning_255 : decode cX12_morning 255 = .ok (.iload 7, 2) := by decide +kernel
theorem dX12_morning_257 : decode cX12_morning 257 = .ok (.iload 8, 2) := by decide +kernel
theorem dX12_morning_259 : decode cX12_morning 259 = .ok (.aload_n 0, 1) := by decide +kernel
theorem dX12_morning_260 : decode cX12_morning 260 = .ok (.iload 7, 2) := by decide +kernel
theorem dX12_morning_262 : decode cX12_morning 262 = .ok (.invokevirtual 316, 3) := by decide +kernel
theorem dX12_morning_265 : decode cX12_morning 265 = .ok (.iadd, 1) := by decide +kernel
theorem dX12_morning_266 : decode cX12_morning 266 = .ok (.iastore, 1) := by decide +kernel
theorem dX12_morning_267 : decode cX12_morning 267 = .ok (.iload 7, 2) := by decide +kernel
theorem dX12_morning_269 : decode cX12_morning 269 = .ok (.istore 6, 2) := by decide +kernel
theorem dX12_morning_271 : decode cX12_morning 271 = .ok (.aload_n 0, 1) := by decide +kernel
theorem dX12_morning_272 : decode cX12_morning 272 = .ok (.getfield 144, 3) := by decide +kernel
theorem dX12_morning_275 : decode cX12_morning 275 = .ok (.iload 7, 2) := by decide +kernel
theorem dX12_morning_277 : decode cX12_morning 277 = .ok (.iaload, 1) := by decide +kernel
theorem dX12_morning_278 : decode cX12_morning 278 = .ok (.aload_n 0, 1) := by decide +kernel
theorem dX12_morning_279 : decode cX12_morning 279 = .ok (.getfield 108, 3) := by decide +kernel
theorem dX12_morning_282 : decode cX12_morning 282 = .ok (.aload_n 0, 1) := by decide +kernel
theorem dX12_morning_283 : decode cX12_morning 283 = .ok (.getfield 96, 3) := by decide +kernel
theorem dX12_morning_286 : decode cX12_morning 286 = .ok (.iload 7, 2) := by decide +kernel
theorem dX12_morning_288 : decode cX12_morning 288 = .ok (.iaload, 1) := by decide +kernel
theorem dX12_morning_289 : decode cX12_morning 289 = .ok (.iaload, 1) := by decide +kernel
theorem dX12_morning_290 : decode cX12_morning 290 = .ok (.invokestatic 256, 3) := by decide +kernel
theorem dX12_morning_293 : decode cX12_morning 293 = .ok (.if_icmp .le 19, 3) := by decide +kernel
theorem dX12_morning_296 : decode cX12_morning 296 = .ok (.iload 4, 2) := by decide +kernel
theorem dX12_morning_298 : decode cX12_morning 298 = .ok (.aload_n 0, 1) := by decide +kernel
theorem dX12_morning_299 : decode cX12_morning 299 = .ok (.aload_n 0, 1) := by decide +kernel
theorem dX12_morning_300 : decode cX12_morning 300 = .ok (.getfield 93, 3) := by decide +kernel
theorem dX12_morning_303 : decode cX12_morning 303 = .ok (.iload 7, 2) := by decide +kernel
theorem dX12_morning_305 : decode cX12_morning 305 = .ok (.iaload, 1) := by decide +kernel
theorem dX12_morning_306 : decode cX12_morning 306 = .ok (.invokevirtual 215, 3) := by decide +kernel
theorem dX12_morning_309 : decode cX12_morning 309 = .ok (.iadd, 1) := by decide +kernel
theorem dX12_morning_310 : decode cX12_morning 310 = .ok (.istore 4, 2) := by decide +kernel
theorem dX12_morning_312 : decode cX12_morning 312 = .ok (.aload_n 0, 1) := by decide +kernel
theorem dX12_morning_313 : decode cX12_morning 313 = .ok (.getfield 117, 3) := by decide +kernel
theorem dX12_morning_316 : decode cX12_morning 316 = .ok (.iload 7, 2) := by decide +kernel
theorem dX12_morning_318 : decode cX12_morning 318 = .ok (.iaload, 1) := by decide +kernel
theorem dX12_morning_319 : decode cX12_morning 319 = .ok (.istore 7, 2) := by decide +kernel
theorem dX12_morning_321 : decode cX12_morning 321 = .ok (.goto (-166), 3) := by decide +kernel
theorem dX12_morning_324 : decode cX12_morning 324 = .ok (.iinc 5 1, 3) := by decide +kernel
theorem dX12_morning_327 : decode cX12_morning 327 = .ok (.goto (-200), 3) := by decide +kernel
theorem dX12_morning_330 : decode cX12_morning 330 = .ok (.aload_n 0, 1) := by decide +kernel
theorem dX12_morning_331 : decode cX12_morning 331 = .ok (.aload_n 0, 1) := by decide +kernel
theorem dX12_morning_332 : decode cX12_morning 332 = .ok (.getfield 230, 3) := by decide +kernel
theorem dX12_morning_335 : decode cX12_morning 335 = .ok (.putfield 319, 3) := by decide +kernel
theorem dX12_morning_338 : decode cX12_morning 338 = .ok (.iload 4, 2) := by decide +kernel
theorem dX12_morning_340 : decode cX12_morning 340 = .ok (.ireturn, 1) := by decide +kernel
theorem dX12_withSnow_0 : decode cX12_withSnow 0 = .ok (.iconst 0, 1) := by decide +kernel
theorem dX12_withSnow_1 : decode cX12_withSnow 1 = .ok (.istore_n 2, 1) := by decide +kernel
theorem dX12_withSnow_2 : decode cX12_withSnow 2 = .ok (.iconst 0, 1) := by decide +kernel
theorem dX12_withSnow_3 : decode cX12_withSnow 3 = .ok (.istore_n 3, 1) := by decide +kernel
theorem dX12_withSnow_4 : decode cX12_withSnow 4 = .ok (.aload_n 0, 1) := by decide +kernel
theorem dX12_withSnow_5 : decode cX12_withSnow 5 = .ok (.getfield 147, 3) := by decide +kernel
theorem dX12_withSnow_8 : decode cX12_withSnow 8 = .ok (.bipush 11, 2) := by decide +kernel
theorem dX12_withSnow_10 : decode cX12_withSnow 10 = .ok (.iload_n 1, 1) := by decide +kernel
theorem dX12_withSnow_11 : decode cX12_withSnow 11 = .ok (.imul, 1) := by decide +kernel
theorem dX12_withSnow_12 : decode cX12_withSnow 12 = .ok (.iload_n 3, 1) := by decide +kernel
theorem dX12_withSnow_13 : decode cX12_withSnow 13 = .ok (.iadd, 1) := by decide +kernel
theorem dX12_withSnow_14 : decode cX12_withSnow 14 = .ok (.iaload, 1) := by decide +kernel
theorem dX12_withSnow_15 : decode cX12_withSnow 15 = .ok (.ifCond .lt 84, 3) := by decide +kernel
theorem dX12_withSnow_18 : decode cX12_withSnow 18 = .ok (.aload_n 0, 1) := by decide +kernel
theorem dX12_withSnow_19 : decode cX12_withSnow 19 = .ok (.getfield 147, 3) := by decide +kernel
theorem dX12_withSnow_22 : decode cX12_withSnow 22 = .ok (.bipush 11, 2) := by decide +kernel
theorem dX12_withSnow_24 : decode cX12_withSnow 24 = .ok (.iload_n 1, 1) := by decide +kernel
theorem dX12_withSnow_25 : decode cX12_withSnow 25 = .ok (.imul, 1) := by decide +kernel
theorem dX12_withSnow_26 : decode cX12_withSnow 26 = .ok (.iload_n 3, 1) := by decide +kernel
theorem dX12_withSnow_27 : decode cX12_withSnow 27 = .ok (.iadd, 1) := by decide +kernel
theorem dX12_withSnow_28 : decode cX12_withSnow 28 = .ok (.iaload, 1) := by decide +kernel
theorem dX12_withSnow_29 : decode cX12_withSnow 29 = .ok (.istore 4, 2) := by decide +kernel
theorem dX12_withSnow_31 : decode cX12_withSnow 31 = .ok (.aload_n 0, 1) := by decide +kernel
theorem dX12_withSnow_32 : decode cX12_withSnow 32 = .ok (.getfield 147, 3) := by decide +kernel
theorem dX12_withSnow_35 : decode cX12_withSnow 35 = .ok (.bipush 11, 2) := by decide +kernel
theorem dX12_withSnow_37 : decode cX12_withSnow 37 = .ok (.iload_n 1, 1) := by decide +kernel
theorem dX12_withSnow_38 : decode cX12_withSnow 38 = .ok (.imul, 1) := by decide +kernel
theorem dX12_withSnow_39 : decode cX12_withSnow 39 = .ok (.iload_n 3, 1) := by decide +kernel
theorem dX12_withSnow_40 : decode cX12_withSnow 40 = .ok (.iadd, 1) := by decide +kernel
theorem dX12_withSnow_41 : decode cX12_withSnow 41 = .ok (.iconst 1, 1) := by decide +kernel
theorem dX12_withSnow_42 : decode cX12_withSnow 42 = .ok (.iadd, 1) := by decide +kernel
theorem dX12_withSnow_43 : decode cX12_withSnow 43 = .ok (.iaload, 1) := by decide +kernel
theorem dX12_withSnow_44 : decode cX12_withSnow 44 = .ok (.istore 5, 2) := by decide +kernel
theorem dX12_withSnow_46 : decode cX12_withSnow 46 = .ok (.iload_n 2, 1) := by decide +kernel
theorem dX12_withSnow_47 : decode cX12_withSnow 47 = .ok (.iconst 1, 1) := by decide +kernel
theorem dX12_withSnow_48 : decode cX12_withSnow 48 = .ok (.aload_n 0, 1) := by decide +kernel
theorem dX12_withSnow_49 : decode cX12_withSnow 49 = .ok (.getfield 75, 3) := by decide +kernel
theorem dX12_withSnow_52 : decode cX12_withSnow 52 = .ok (.bipush 8, 2) := by decide +kernel
theorem dX12_withSnow_54 : decode cX12_withSnow 54 = .ok (.aload_n 0, 1) := by decide +kernel
theorem dX12_withSnow_55 : decode cX12_withSnow 55 = .ok (.getfield 45, 3) := by decide +kernel
theorem dX12_withSnow_58 : decode cX12_withSnow 58 = .ok (.iload 4, 2) := by decide +kernel
theorem dX12_withSnow_60 : decode cX12_withSnow 60 = .ok (.iaload, 1) := by decide +kernel
theorem dX12_withSnow_61 : decode cX12_withSnow 61 = .ok (.imul, 1) := by decide +kernel
theorem dX12_withSnow_62 : decode cX12_withSnow 62 = .ok (.iload 5, 2) := by decide +kernel
theorem dX12_withSnow_64 : decode cX12_withSnow 64 = .ok (.ifCond .ge 17, 3) := by decide +kernel
theorem dX12_withSnow_67 : decode cX12_withSnow 67 = .ok (.aload_n 0, 1) := by decide +kernel
theorem dX12_withSnow_68 : decode cX12_withSnow 68 = .ok (.getfield 33, 3) := by decide +kernel
theorem dX12_withSnow_71 : decode cX12_withSnow 71 = .ok (.aload_n 0, 1) := by decide +kernel
theorem dX12_withSnow_72 : decode cX12_withSnow 72 = .ok (.getfield 96, 3) := by decide +kernel
theorem dX12_withSnow_75 : decode cX12_withSnow 75 = .ok (.iload_n 1, 1) := by decide +kernel
theorem dX12_withSnow_76 : decode cX12_withSnow 76 = .ok (.iaload, 1) := by decide +kernel
theorem dX12_withSnow_77 : decode cX12_withSnow 77 = .ok (.iaload, 1) := by decide +kernel
theorem dX12_withSnow_78 : decode cX12_withSnow 78 = .ok (.goto 10, 3) := by decide +kernel
theorem dX12_withSnow_81 : decode cX12_withSnow 81 = .ok (.aload_n 0, 1) := by decide +kernel
theorem dX12_withSnow_82 : decode cX12_withSnow 82 = .ok (.getfield 45, 3) := by decide +kernel
theorem dX12_withSnow_85 : decode cX12_withSnow 85 = .ok (.iload 5, 2) := by decide +kernel
theorem dX12_withSnow_87 : decode cX12_withSnow 87 = .ok (.iaload, 1) := by decide +kernel
theorem dX12_withSnow_88 : decode cX12_withSnow 88 = .ok (.iadd, 1) := by decide +kernel
theorem dX12_withSnow_89 : decode cX12_withSnow 89 = .ok (.iaload, 1) := by decide +kernel
theorem dX12_withSnow_90 : decode cX12_withSnow 90 = .ok (.iadd, 1) := by decide +kernel
theorem dX12_withSnow_91 : decode cX12_withSnow 91 = .ok (.iadd, 1) := by decide +kernel
theorem dX12_withSnow_92 : decode cX12_withSnow 92 = .ok (.istore_n 2, 1) := by decide +kernel
theorem dX12_withSnow_93 : decode cX12_withSnow 93 = .ok (.iinc 3 1, 3) := by decide +kernel
theorem dX12_withSnow_96 : decode cX12_withSnow 96 = .ok (.goto (-92), 3) := by decide +kernel
theorem dX12_withSnow_99 : decode cX12_withSnow 99 = .ok (.iload_n 2, 1) := by decide +kernel
theorem dX12_withSnow_100 : decode cX12_withSnow 100 = .ok (.ireturn, 1) := by decide +kernel
theorem dX12_comes_0 : decode cX12_comes 0 = .ok (.iload_n 1, 1) := by decide +kernel
theorem dX12_comes_1 : decode cX12_comes 1 = .ok (.ifCond .ge 10, 3) := by decide +kernel
theorem dX12_comes_4 : decode cX12_comes 4 = .ok (.aload_n 0, 1) := by decide +kernel
theorem dX12_comes_5 : decode cX12_comes 5 = .ok (.ldc 185, 2) := by decide +kernel
theorem dX12_comes_7 : decode cX12_comes 7 = .ok (.invokevirtual 177, 3) := by decide +kernel
theorem dX12_comes_10 : decode cX12_comes 10 = .ok (.ireturn, 1) := by decide +kernel
theorem dX12_comes_11 : decode cX12_comes 11 = .ok (.iload_n 1, 1) := by decide +kernel
theorem dX12_comes_12 : decode cX12_comes 12 = .ok (.aload_n 0, 1) := by decide +kernel
theorem dX12_comes_13 : decode cX12_comes 13 = .ok (.getfield 319, 3) := by decide +kernel
theorem dX12_comes_16 : decode cX12_comes 16 = .ok (.if_icmp .ge 12, 3) := by decide +kernel
theorem dX12_comes_19 : decode cX12_comes 19 = .ok (.aload_n 0, 1) := by decide +kernel
theorem dX12_comes_20 : decode cX12_comes 20 = .ok (.getfield 144, 3) := by decide +kernel
theorem dX12_comes_23 : decode cX12_comes 23 = .ok (.iload_n 1, 1) := by decide +kernel
theorem dX12_comes_24 : decode cX12_comes 24 = .ok (.iaload, 1) := by decide +kernel
theorem dX12_comes_25 : decode cX12_comes 25 = .ok (.goto 9, 3) := by decide +kernel
theorem dX12_comes_28 : decode cX12_comes 28 = .ok (.aload_n 0, 1) := by decide +kernel
theorem dX12_comes_29 : decode cX12_comes 29 = .ok (.ldc 197, 2) := by decide +kernel
theorem dX12_comes_31 : decode cX12_comes 31 = .ok (.invokevirtual 177, 3) := by decide +kernel
theorem dX12_comes_34 : decode cX12_comes 34 = .ok (.ireturn, 1) := by decide +kernel
theorem dX12_fair_0 : decode cX12_fair 0 = .ok (.iload_n 1, 1) := by decide +kernel
theorem dX12_fair_1 : decode cX12_fair 1 = .ok (.iconst 0, 1) := by decide +kernel
theorem dX12_fair_2 : decode cX12_fair 2 = .ok (.iconst 3, 1) := by decide +kernel
theorem dX12_fair_3 : decode cX12_fair 3 = .ok (.invokestatic 159, 3) := by decide +kernel
theorem dX12_fair_6 : decode cX12_fair 6 = .ok (.ifCond .eq 12, 3) := by decide +kernel
theorem dX12_fair_9 : decode cX12_fair 9 = .ok (.iload_n 2, 1) := by decide +kernel
theorem dX12_fair_10 : decode cX12_fair 10 = .ok (.iconst 0, 1) := by decide +kernel
theorem dX12_fair_11 : decode cX12_fair 11 = .ok (.iconst 3, 1) := by decide +kernel
theorem dX12_fair_12 : decode cX12_fair 12 = .ok (.invokestatic 159, 3) := by decide +kernel
theorem dX12_fair_15 : decode cX12_fair 15 = .ok (.ifCond .ne 10, 3) := by decide +kernel
theorem dX12_fair_18 : decode cX12_fair 18 = .ok (.aload_n 0, 1) := by decide +kernel
theorem dX12_fair_19 : decode cX12_fair 19 = .ok (.ldc 185, 2) := by decide +kernel
theorem dX12_fair_21 : decode cX12_fair 21 = .ok (.invokevirtual 177, 3) := by decide +kernel
theorem dX12_fair_24 : decode cX12_fair 24 = .ok (.ireturn, 1) := by decide +kernel
theorem dX12_fair_25 : decode cX12_fair 25 = .ok (.aload_n 0, 1) := by decide +kernel
theorem dX12_fair_26 : decode cX12_fair 26 = .ok (.invokevirtual 243, 3) := by decide +kernel
theorem dX12_fair_29 : decode cX12_fair 29 = .ok (.aload_n 0, 1) := by decide +kernel
theorem dX12_fair_30 : decode cX12_fair 30 = .ok (.getfield 233, 3) := by decide +kernel
theorem dX12_fair_33 : decode cX12_fair 33 = .ok (.ifCond .ne 20, 3) := by decide +kernel
theorem dX12_fair_36 : decode cX12_fair 36 = .ok (.iload_n 2, 1) := by decide +kernel
theorem dX12_fair_37 : decode cX12_fair 37 = .ok (.iconst 1, 1) := by decide +kernel
theorem dX12_fair_38 : decode cX12_fair 38 = .ok (.if_icmp .eq 8, 3) := by decide +kernel
theorem dX12_fair_41 : decode cX12_fair 41 = .ok (.iload_n 2, 1) := by decide +kernel
theorem dX12_fair_42 : decode cX12_fair 42 = .ok (.iconst 2, 1) := by decide +kernel
theorem dX12_fair_43 : decode cX12_fair 43 = .ok (.if_icmp .ne 10, 3) := by decide +kernel
theorem dX12_fair_46 : decode cX12_fair 46 = .ok (.aload_n 0, 1) := by decide +kernel
theorem dX12_fair_47 : decode cX12_fair 47 = .ok (.ldc 197, 2) := by decide +kernel
theorem dX12_fair_49 : decode cX12_fair 49 = .ok (.invokevirtual 177, 3) := by decide +kernel
theorem dX12_fair_52 : decode cX12_fair 52 = .ok (.ireturn, 1) := by decide +kernel
theorem dX12_fair_53 : decode cX12_fair 53 = .ok (.iconst 0, 1) := by decide +kernel
theorem dX12_fair_54 : decode cX12_fair 54 = .ok (.istore_n 3, 1) := by decide +kernel
theorem dX12_fair_55 : decode cX12_fair 55 = .ok (.iconst 0, 1) := by decide +kernel
theorem dX12_fair_56 : decode cX12_fair 56 = .ok (.istore 4, 2) := by decide +kernel
theorem dX12_fair_58 : decode cX12_fair 58 = .ok (.iload 4, 2) := by decide +kernel
theorem dX12_fair_60 : decode cX12_fair 60 = .ok (.aload_n 0, 1) := by decide +kernel
theorem dX12_fair_61 : decode cX12_fair 61 = .ok (.getfield 166, 3) := by decide +kernel
theorem dX12_fair_64 : decode cX12_fair 64 = .ok (.if_icmp .ge 138, 3) := by decide +kernel
theorem dX12_fair_67 : decode cX12_fair 67 = .ok (.aload_n 0, 1) := by decide +kernel
theorem dX12_fair_68 : decode cX12_fair 68 = .ok (.getfield 51, 3) := by decide +kernel
theorem dX12_fair_71 : decode cX12_fair 71 = .ok (.iload 4, 2) := by decide +kernel
theorem dX12_fair_73 : decode cX12_fair 73 = .ok (.iaload, 1) := by decide +kernel
theorem dX12_fair_74 : decode cX12_fair 74 = .ok (.iload_n 1, 1) := by decide +kernel
theorem dX12_fair_75 : decode cX12_fair 75 = .ok (.if_icmp .eq 6, 3) := by decide +kernel
theorem dX12_fair_78 : decode cX12_fair 78 = .ok (.goto 118, 3) := by decide +kernel
theorem dX12_fair_81 : decode cX12_fair 81 = .ok (.aload_n 0, 1) := by decide +kernel
theorem dX12_fair_82 : decode cX12_fair 82 = .ok (.getfield 39, 3) := by decide +kernel
theorem dX12_fair_85 : decode cX12_fair 85 = .ok (.aload_n 0, 1) := by decide +kernel
theorem dX12_fair_86 : decode cX12_fair 86 = .ok (.getfield 42, 3) := by decide +kernel
theorem dX12_fair_89 : decode cX12_fair 89 = .ok (.iload 4, 2) := by decide +kernel
theorem dX12_fair_91 : decode cX12_fair 91 = .ok (.iaload, 1) := by decide +kernel
theorem dX12_fair_92 : decode cX12_fair 92 = .ok (.iaload, 1) := by decide +kernel
theorem dX12_fair_93 : decode cX12_fair 93 = .ok (.aload_n 0, 1) := by decide +kernel
theorem dX12_fair_94 : decode cX12_fair 94 = .ok (.getfield 36, 3) := by decide +kernel
theorem dX12_fair_97 : decode cX12_fair 97 = .ok (.aload_n 0, 1) := by decide +kernel
theorem dX12_fair_98 : decode cX12_fair 98 = .ok (.getfield 42, 3) := by decide +kernel
theorem dX12_fair_101 : decode cX12_fair 101 = .ok (.iload 4, 2) := by decide +kernel
theorem dX12_fair_103 : decode cX12_fair 103 = .ok (.iaload, 1) := by decide +kernel
theorem dX12_fair_104 : decode cX12_fair 104 = .ok (.iaload, 1) := by decide +kernel
theorem dX12_fair_105 : decode cX12_fair 105 = .ok (.isub, 1) := by decide +kernel
theorem dX12_fair_106 : decode cX12_fair 106 = .ok (.istore 5, 2) := by decide +kernel
theorem dX12_fair_108 : decode cX12_fair 108 = .ok (.iload_n 2, 1) := by decide +kernel
theorem dX12_fair_109 : decode cX12_fair 109 = .ok (.ifCond .ne 13, 3) := by decide +kernel
theorem dX12_fair_112 : decode cX12_fair 112 = .ok (.iload_n 3, 1) := by decide +kernel
theorem dX12_fair_113 : decode cX12_fair 113 = .ok (.aload_n 0, 1) := by decide +kernel
theorem dX12_fair_114 : decode cX12_fair 114 = .ok (.getfield 48, 3) := by decide +kernel
theorem dX12_fair_117 : decode cX12_fair 117 = .ok (.iload 4, 2) := by decide +kernel
theorem dX12_fair_119 : decode cX12_fair 119 = .ok (.iaload, 1) := by decide +kernel
theorem dX12_fair_120 : decode cX12_fair 120 = .ok (.iadd, 1) := by decide +kernel
theorem dX12_fair_121 : decode cX12_fair 121 = .ok (.istore_n 3, 1) := by decide +kernel
theorem dX12_fair_122 : decode cX12_fair 122 = .ok (.iload_n 2, 1) := by decide +kernel
theorem dX12_fair_123 : decode cX12_fair 123 = .ok (.iconst 1, 1) := by decide +kernel
theorem dX12_fair_124 : decode cX12_fair 124 = .ok (.if_icmp .ne 20, 3) := by decide +kernel
theorem dX12_fair_127 : decode cX12_fair 127 = .ok (.iload_n 3, 1) := by decide +kernel
theorem dX12_fair_128 : decode cX12_fair 128 = .ok (.aload_n 0, 1) := by decide +kernel
theorem dX12_fair_129 : decode cX12_fair 129 = .ok (.getfield 48, 3) := by decide +kernel
theorem dX12_fair_132 : decode cX12_fair 132 = .ok (.iload 4, 2) := by decide +kernel
theorem dX12_fair_134 : decode cX12_fair 134 = .ok (.iaload, 1) := by decide +kernel
theorem dX12_fair_135 : decode cX12_fair 135 = .ok (.aload_n 0, 1) := by decide +kernel
theorem dX12_fair_136 : decode cX12_fair 136 = .ok (.iload 4, 2) := by decide +kernel
theorem dX12_fair_138 : decode cX12_fair 138 = .ok (.invokevirtual 253, 3) := by decide +kernel
theorem dX12_fair_141 : decode cX12_fair 141 = .ok (.imul, 1) := by decide +kernel
theorem dX12_fair_142 : decode cX12_fair 142 = .ok (.iadd, 1) := by decide +kernel
theorem dX12_fair_143 : decode cX12_fair 143 = .ok (.istore_n 3, 1) := by decide +kernel
theorem dX12_fair_144 : decode cX12_fair 144 = .ok (.iload_n 2, 1) := by decide +kernel
theorem dX12_fair_145 : decode cX12_fair 145 = .ok (.iconst 2, 1) := by decide +kernel
theorem dX12_fair_146 : decode cX12_fair 146 = .ok (.if_icmp .ne 24, 3) := by decide +kernel
theorem dX12_fair_149 : decode cX12_fair 149 = .ok (.aload_n 0, 1) := by decide +kernel
theorem dX12_fair_150 : decode cX12_fair 150 = .ok (.iload 4, 2) := by decide +kernel
theorem dX12_fair_152 : decode cX12_fair 152 = .ok (.invokevirtual 253, 3) := by decide +kernel
theorem dX12_fair_155 : decode cX12_fair 155 = .ok (.iload_n 3, 1) := by decide +kernel
theorem dX12_fair_156 : decode cX12_fair 156 = .ok (.if_icmp .le 12, 3) := by decide +kernel
theorem dX12_fair_159 : decode cX12_fair 159 = .ok (.aload_n 0, 1) := by decide +kernel
theorem dX12_fair_160 : decode cX12_fair 160 = .ok (.iload 4, 2) := by decide +kernel
theorem dX12_fair_162 : decode cX12_fair 162 = .ok (.invokevirtual 253, 3) := by decide +kernel
theorem dX12_fair_165 : decode cX12_fair 165 = .ok (.goto 4, 3) := by decide +kernel
theorem dX12_fair_168 : decode cX12_fair 168 = .ok (.iload_n 3, 1) := by decide +kernel
theorem dX12_fair_169 : decode cX12_fair 169 = .ok (.istore_n 3, 1) := by decide +kernel
theorem dX12_fair_170 : decode cX12_fair 170 = .ok (.iload_n 2, 1) := by decide +kernel
theorem dX12_fair_171 : decode cX12_fair 171 = .ok (.iconst 3, 1) := by decide +kernel
theorem dX12_fair_172 : decode cX12_fair 172 = .ok (.if_icmp .ne 24, 3) := by decide +kernel
theorem dX12_fair_175 : decode cX12_fair 175 = .ok (.iload 5, 2) := by decide +kernel
theorem dX12_fair_177 : decode cX12_fair 177 = .ok (.ifCond .le 19, 3) := by decide +kernel
theorem dX12_fair_180 : decode cX12_fair 180 = .ok (.iload_n 3, 1) := by decide +kernel
theorem dX12_fair_181 : decode cX12_fair 181 = .ok (.bipush 20, 2) := by decide +kernel
theorem dX12_fair_183 : decode cX12_fair 183 = .ok (.iload 5, 2) := by decide +kernel
theorem dX12_fair_185 : decode cX12_fair 185 = .ok (.imul, 1) := by decide +kernel
theorem dX12_fair_186 : decode cX12_fair 186 = .ok (.aload_n 0, 1) := by decide +kernel
theorem dX12_fair_187 : decode cX12_fair 187 = .ok (.getfield 48, 3) := by decide +kernel
theorem dX12_fair_190 : decode cX12_fair 190 = .ok (.iload 4, 2) := by decide +kernel
theorem dX12_fair_192 : decode cX12_fair 192 = .ok (.iaload, 1) := by decide +kernel
theorem dX12_fair_193 : decode cX12_fair 193 = .ok (.imul, 1) := by decide +kernel
theorem dX12_fair_194 : decode cX12_fair 194 = .ok (.iadd, 1) := by decide +kernel
theorem dX12_fair_195 : decode cX12_fair 195 = .ok (.istore_n 3, 1) := by decide +kernel
theorem dX12_fair_196 : decode cX12_fair 196 = .ok (.iinc 4 1, 3) := by decide +kernel
theorem dX12_fair_199 : decode cX12_fair 199 = .ok (.goto (-141), 3) := by decide +kernel
theorem dX12_fair_202 : decode cX12_fair 202 = .ok (.iload_n 3, 1) := by decide +kernel
theorem dX12_fair_203 : decode cX12_fair 203 = .ok (.ireturn, 1) := by decide +kernel
theorem dX12_isSheet_0 : decode cX12_isSheet 0 = .ok (.iload_n 0, 1) := by decide +kernel
theorem dX12_isSheet_1 : decode cX12_isSheet 1 = .ok (.iconst 0, 1) := by decide +kernel
theorem dX12_isSheet_2 : decode cX12_isSheet 2 = .ok (.iconst 3, 1) := by decide +kernel
theorem dX12_isSheet_3 : decode cX12_isSheet 3 = .ok (.invokestatic 159, 3) := by decide +kernel
theorem dX12_isSheet_6 : decode cX12_isSheet 6 = .ok (.ireturn, 1) := by decide +kernel
theorem dX12_sheet_0 : decode cX12_sheet 0 = .ok (.iload_n 1, 1) := by decide +kernel
theorem dX12_sheet_1 : decode cX12_sheet 1 = .ok (.invokestatic 322, 3) := by decide +kernel
theorem dX12_sheet_4 : decode cX12_sheet 4 = .ok (.ifCond .eq 25, 3) := by decide +kernel
theorem dX12_sheet_7 : decode cX12_sheet 7 = .ok (.iload_n 2, 1) := by decide +kernel
theorem dX12_sheet_8 : decode cX12_sheet 8 = .ok (.ifCond .eq 28, 3) := by decide +kernel
theorem dX12_sheet_11 : decode cX12_sheet 11 = .ok (.iload_n 2, 1) := by decide +kernel
theorem dX12_sheet_12 : decode cX12_sheet 12 = .ok (.bipush 8, 2) := by decide +kernel
theorem dX12_sheet_14 : decode cX12_sheet 14 = .ok (.if_icmp .eq 22, 3) := by decide +kernel
theorem dX12_sheet_17 : decode cX12_sheet 17 = .ok (.iload_n 2, 1) := by decide +kernel
theorem dX12_sheet_18 : decode cX12_sheet 18 = .ok (.bipush 16, 2) := by decide +kernel
theorem dX12_sheet_20 : decode cX12_sheet 20 = .ok (.if_icmp .eq 16, 3) := by decide +kernel
theorem dX12_sheet_23 : decode cX12_sheet 23 = .ok (.iload_n 2, 1) := by decide +kernel
theorem dX12_sheet_24 : decode cX12_sheet 24 = .ok (.bipush 32, 2) := by decide +kernel
theorem dX12_sheet_26 : decode cX12_sheet 26 = .ok (.if_icmp .eq 10, 3) := by decide +kernel
theorem dX12_sheet_29 : decode cX12_sheet 29 = .ok (.aload_n 0, 1) := by decide +kernel
theorem dX12_sheet_30 : decode cX12_sheet 30 = .ok (.ldc 185, 2) := by decide +kernel
theorem dX12_sheet_32 : decode cX12_sheet 32 = .ok (.invokevirtual 177, 3) := by decide +kernel
theorem dX12_sheet_35 : decode cX12_sheet 35 = .ok (.ireturn, 1) := by decide +kernel
theorem dX12_sheet_36 : decode cX12_sheet 36 = .ok (.iload_n 3, 1) := by decide +kernel
theorem dX12_sheet_37 : decode cX12_sheet 37 = .ok (.ifCond .ge 11, 3) := by decide +kernel
theorem dX12_sheet_40 : decode cX12_sheet 40 = .ok (.aload_n 0, 1) := by decide +kernel
theorem dX12_sheet_41 : decode cX12_sheet 41 = .ok (.ldc_w 325, 3) := by decide +kernel
theorem dX12_sheet_44 : decode cX12_sheet 44 = .ok (.invokevirtual 177, 3) := by decide +kernel
theorem dX12_sheet_47 : decode cX12_sheet 47 = .ok (.ireturn, 1) := by decide +kernel
theorem dX12_sheet_48 : decode cX12_sheet 48 = .ok (.iload_n 3, 1) := by decide +kernel
theorem dX12_sheet_49 : decode cX12_sheet 49 = .ok (.bipush 10, 2) := by decide +kernel
theorem dX12_sheet_51 : decode cX12_sheet 51 = .ok (.if_icmp .le 10, 3) := by decide +kernel
theorem dX12_sheet_54 : decode cX12_sheet 54 = .ok (.aload_n 0, 1) := by decide +kernel
theorem dX12_sheet_55 : decode cX12_sheet 55 = .ok (.ldc 185, 2) := by decide +kernel
theorem dX12_sheet_57 : decode cX12_sheet 57 = .ok (.invokevirtual 177, 3) := by decide +kernel
theorem dX12_sheet_60 : decode cX12_sheet 60 = .ok (.ireturn, 1) := by decide +kernel
theorem dX12_sheet_61 : decode cX12_sheet 61 = .ok (.aload_n 0, 1) := by decide +kernel
theorem dX12_sheet_62 : decode cX12_sheet 62 = .ok (.getfield 66, 3) := by decide +kernel
theorem dX12_sheet_65 : decode cX12_sheet 65 = .ok (.iload_n 1, 1) := by decide +kernel
theorem dX12_sheet_66 : decode cX12_sheet 66 = .ok (.iload_n 2, 1) := by decide +kernel
theorem dX12_sheet_67 : decode cX12_sheet 67 = .ok (.iastore, 1) := by decide +kernel
theorem dX12_sheet_68 : decode cX12_sheet 68 = .ok (.aload_n 0, 1) := by decide +kernel
theorem dX12_sheet_69 : decode cX12_sheet 69 = .ok (.getfield 69, 3) := by decide +kernel
theorem dX12_sheet_72 : decode cX12_sheet 72 = .ok (.iload_n 1, 1) := by decide +kernel
theorem dX12_sheet_73 : decode cX12_sheet 73 = .ok (.iload_n 2, 1) := by decide +kernel
theorem dX12_sheet_74 : decode cX12_sheet 74 = .ok (.ifCond .ne 7, 3) := by decide +kernel
theorem dX12_sheet_77 : decode cX12_sheet 77 = .ok (.iconst 0, 1) := by decide +kernel
theorem dX12_sheet_78 : decode cX12_sheet 78 = .ok (.goto 4, 3) := by decide +kernel
theorem dX12_sheet_81 : decode cX12_sheet 81 = .ok (.iload_n 3, 1) := by decide +kernel
theorem dX12_sheet_82 : decode cX12_sheet 82 = .ok (.iastore, 1) := by decide +kernel
theorem dX12_sheet_83 : decode cX12_sheet 83 = .ok (.iconst 0, 1) := by decide +kernel
theorem dX12_sheet_84 : decode cX12_sheet 84 = .ok (.istore 4, 2) := by decide +kernel
theorem dX12_sheet_86 : decode cX12_sheet 86 = .ok (.iload 4, 2) := by decide +kernel
theorem dX12_sheet_88 : decode cX12_sheet 88 = .ok (.bipush 10, 2) := by decide +kernel
theorem dX12_sheet_90 : decode cX12_sheet 90 = .ok (.if_icmp .ge 22, 3) := by decide +kernel
theorem dX12_sheet_93 : decode cX12_sheet 93 = .ok (.aload_n 0, 1) := by decide +kernel
theorem dX12_sheet_94 : decode cX12_sheet 94 = .ok (.getfield 72, 3) := by decide +kernel
theorem dX12_sheet_97 : decode cX12_sheet 97 = .ok (.bipush 10, 2) := by decide +kernel
theorem dX12_sheet_99 : decode cX12_sheet 99 = .ok (.iload_n 1, 1) := by decide +kernel
theorem dX12_sheet_100 : decode cX12_sheet 100 = .ok (.imul, 1) := by decide +kernel
theorem dX12_sheet_101 : decode cX12_sheet 101 = .ok (.iload 4, 2) := by decide +kernel
theorem dX12_sheet_103 : decode cX12_sheet 103 = .ok (.iadd, 1) := by decide +kernel
theorem dX12_sheet_104 : decode cX12_sheet 104 = .ok (.iconst 0, 1) := by decide +kernel
theorem dX12_sheet_105 : decode cX12_sheet 105 = .ok (.iastore, 1) := by decide +kernel
theorem dX12_sheet_106 : decode cX12_sheet 106 = .ok (.iinc 4 1, 3) := by decide +kernel
theorem dX12_sheet_109 : decode cX12_sheet 109 = .ok (.goto (-23), 3) := by decide +kernel
theorem dX12_sheet_112 : decode cX12_sheet 112 = .ok (.aload_n 0, 1) := by decide +kernel
theorem dX12_sheet_113 : decode cX12_sheet 113 = .ok (.getfield 69, 3) := by decide +kernel
theorem dX12_sheet_116 : decode cX12_sheet 116 = .ok (.iload_n 1, 1) := by decide +kernel
theorem dX12_sheet_117 : decode cX12_sheet 117 = .ok (.iaload, 1) := by decide +kernel
theorem dX12_sheet_118 : decode cX12_sheet 118 = .ok (.ireturn, 1) := by decide +kernel
theorem dX12_write_0 : decode cX12_write 0 = .ok (.iload_n 1, 1) := by decide +kernel
theorem dX12_write_1 : decode cX12_write 1 = .ok (.invokestatic 322, 3) := by decide +kernel
theorem dX12_write_4 : decode cX12_write 4 = .ok (.ifCond .ne 10, 3) := by decide +kernel
theorem dX12_write_7 : decode cX12_write 7 = .ok (.aload_n 0, 1) := by decide +kernel
theorem dX12_write_8 : decode cX12_write 8 = .ok (.ldc 185, 2) := by decide +kernel
theorem dX12_write_10 : decode cX12_write 10 = .ok (.invokevirtual 177, 3) := by decide +kernel
theorem dX12_write_13 : decode cX12_write 13 = .ok (.ireturn, 1) := by decide +kernel
theorem dX12_write_14 : decode cX12_write 14 = .ok (.aload_n 0, 1) := by decide +kernel
theorem dX12_write_15 : decode cX12_write 15 = .ok (.getfield 66, 3) := by decide +kernel
theorem dX12_write_18 : decode cX12_write 18 = .ok (.iload_n 1, 1) := by decide +kernel
theorem dX12_write_19 : decode cX12_write 19 = .ok (.iaload, 1) := by decide +kernel
theorem dX12_write_20 : decode cX12_write 20 = .ok (.ifCond .ne 11, 3) := by decide +kernel
theorem dX12_write_23 : decode cX12_write 23 = .ok (.aload_n 0, 1) := by decide +kernel
theorem dX12_write_24 : decode cX12_write 24 = .ok (.ldc_w 326, 3) := by decide +kernel
theorem dX12_write_27 : decode cX12_write 27 = .ok (.invokevirtual 177, 3) := by decide +kernel
theorem dX12_write_30 : decode cX12_write 30 = .ok (.ireturn, 1) := by decide +kernel
theorem dX12_write_31 : decode cX12_write 31 = .ok (.iload_n 2, 1) := by decide +kernel
theorem dX12_write_32 : decode cX12_write 32 = .ok (.iconst 0, 1) := by decide +kernel
theorem dX12_write_33 : decode cX12_write 33 = .ok (.aload_n 0, 1) := by decide +kernel
theorem dX12_write_34 : decode cX12_write 34 = .ok (.getfield 69, 3) := by decide +kernel
theorem dX12_write_37 : decode cX12_write 37 = .ok (.iload_n 1, 1) := by decide +kernel
theorem dX12_write_38 : decode cX12_write 38 = .ok (.iaload, 1) := by decide +kernel
theorem dX12_write_39 : decode cX12_write 39 = .ok (.iconst 1, 1) := by decide +kernel
theorem dX12_write_40 : decode cX12_write 40 = .ok (.isub, 1) := by decide +kernel
theorem dX12_write_41 : decode cX12_write 41 = .ok (.invokestatic 159, 3) := by decide +kernel
theorem dX12_write_44 : decode cX12_write 44 = .ok (.ifCond .ne 10, 3) := by decide +kernel
theorem dX12_write_47 : decode cX12_write 47 = .ok (.aload_n 0, 1) := by decide +kernel
theorem dX12_write_48 : decode cX12_write 48 = .ok (.ldc 185, 2) := by decide +kernel
theorem dX12_write_50 : decode cX12_write 50 = .ok (.invokevirtual 177, 3) := by decide +kernel
theorem dX12_write_53 : decode cX12_write 53 = .ok (.ireturn, 1) := by decide +kernel
theorem dX12_write_54 : decode cX12_write 54 = .ok (.aload_n 0, 1) := by decide +kernel
theorem dX12_write_55 : decode cX12_write 55 = .ok (.getfield 72, 3) := by decide +kernel
theorem dX12_write_58 : decode cX12_write 58 = .ok (.bipush 10, 2) := by decide +kernel
theorem dX12_write_60 : decode cX12_write 60 = .ok (.iload_n 1, 1) := by decide +kernel
theorem dX12_write_61 : decode cX12_write 61 = .ok (.imul, 1) := by decide +kernel
theorem dX12_write_62 : decode cX12_write 62 = .ok (.iload_n 2, 1) := by decide +kernel
theorem dX12_write_63 : decode cX12_write 63 = .ok (.iadd, 1) := by decide +kernel
theorem dX12_write_64 : decode cX12_write 64 = .ok (.iaload, 1) := by decide +kernel
theorem dX12_write_65 : decode cX12_write 65 = .ok (.istore 4, 2) := by decide +kernel
theorem dX12_write_67 : decode cX12_write 67 = .ok (.aload_n 0, 1) := by decide +kernel
theorem dX12_write_68 : decode cX12_write 68 = .ok (.getfield 72, 3) := by decide +kernel
theorem dX12_write_71 : decode cX12_write 71 = .ok (.bipush 10, 2) := by decide +kernel
theorem dX12_write_73 : decode cX12_write 73 = .ok (.iload_n 1, 1) := by decide +kernel
theorem dX12_write_74 : decode cX12_write 74 = .ok (.imul, 1) := by decide +kernel
theorem dX12_write_75 : decode cX12_write 75 = .ok (.iload_n 2, 1) := by decide +kernel
theorem dX12_write_76 : decode cX12_write 76 = .ok (.iadd, 1) := by decide +kernel
theorem dX12_write_77 : decode cX12_write 77 = .ok (.aload_n 0, 1) := by decide +kernel
theorem dX12_write_78 : decode cX12_write 78 = .ok (.getfield 66, 3) := by decide +kernel
theorem dX12_write_81 : decode cX12_write 81 = .ok (.iload_n 1, 1) := by decide +kernel
theorem dX12_write_82 : decode cX12_write 82 = .ok (.iaload, 1) := by decide +kernel
theorem dX12_write_83 : decode cX12_write 83 = .ok (.bipush 8, 2) := by decide +kernel
theorem dX12_write_85 : decode cX12_write 85 = .ok (.if_icmp .ne 8, 3) := by decide +kernel
theorem dX12_write_88 : decode cX12_write 88 = .ok (.iload_n 3, 1) := by decide +kernel
theorem dX12_write_89 : decode cX12_write 89 = .ok (.i2b, 1) := by decide +kernel
theorem dX12_write_90 : decode cX12_write 90 = .ok (.goto 20, 3) := by decide +kernel
theorem dX12_write_93 : decode cX12_write 93 = .ok (.aload_n 0, 1) := by decide +kernel
theorem dX12_write_94 : decode cX12_write 94 = .ok (.getfield 66, 3) := by decide +kernel
theorem dX12_write_97 : decode cX12_write 97 = .ok (.iload_n 1, 1) := by decide +kernel
theorem dX12_write_98 : decode cX12_write 98 = .ok (.iaload, 1) := by decide +kernel
theorem dX12_write_99 : decode cX12_write 99 = .ok (.bipush 16, 2) := by decide +kernel
theorem dX12_write_101 : decode cX12_write 101 = .ok (.if_icmp .ne 8, 3) := by decide +kernel
theorem dX12_write_104 : decode cX12_write 104 = .ok (.iload_n 3, 1) := by decide +kernel
theorem dX12_write_105 : decode cX12_write 105 = .ok (.i2s, 1) := by decide +kernel
theorem dX12_write_106 : decode cX12_write 106 = .ok (.goto 4, 3) := by decide +kernel
theorem dX12_write_109 : decode cX12_write 109 = .ok (.iload_n 3, 1) := by decide +kernel
theorem dX12_write_110 : decode cX12_write 110 = .ok (.iastore, 1) := by decide +kernel
theorem dX12_write_111 : decode cX12_write 111 = .ok (.iload 4, 2) := by decide +kernel
theorem dX12_write_113 : decode cX12_write 113 = .ok (.ireturn, 1) := by decide +kernel
theorem dX12_copy_0 : decode cX12_copy 0 = .ok (.iload_n 1, 1) := by decide +kernel
theorem dX12_copy_1 : decode cX12_copy 1 = .ok (.invokestatic 322, 3) := by decide +kernel
theorem dX12_copy_4 : decode cX12_copy 4 = .ok (.ifCond .eq 10, 3) := by decide +kernel
theorem dX12_copy_7 : decode cX12_copy 7 = .ok (.iload_n 3, 1) := by decide +kernel
theorem dX12_copy_8 : decode cX12_copy 8 = .ok (.invokestatic 322, 3) := by decide +kernel
theorem dX12_copy_11 : decode cX12_copy 11 = .ok (.ifCond .ne 10, 3) := by decide +kernel
theorem dX12_copy_14 : decode cX12_copy 14 = .ok (.aload_n 0, 1) := by decide +kernel
theorem dX12_copy_15 : decode cX12_copy 15 = .ok (.ldc 185, 2) := by decide +kernel
theorem dX12_copy_17 : decode cX12_copy 17 = .ok (.invokevirtual 177, 3) := by decide +kernel
theorem dX12_copy_20 : decode cX12_copy 20 = .ok (.ireturn, 1) := by decide +kernel
theorem dX12_copy_21 : decode cX12_copy 21 = .ok (.aload_n 0, 1) := by decide +kernel
theorem dX12_copy_22 : decode cX12_copy 22 = .ok (.getfield 66, 3) := by decide +kernel
theorem dX12_copy_25 : decode cX12_copy 25 = .ok (.iload_n 1, 1) := by decide +kernel
theorem dX12_copy_26 : decode cX12_copy 26 = .ok (.iaload, 1) := by decide +kernel
theorem dX12_copy_27 : decode cX12_copy 27 = .ok (.ifCond .eq 12, 3) := by decide +kernel
theorem dX12_copy_30 : decode cX12_copy 30 = .ok (.aload_n 0, 1) := by decide +kernel
theorem dX12_copy_31 : decode cX12_copy 31 = .ok (.getfield 66, 3) := by decide +kernel
theorem dX12_copy_34 : decode cX12_copy 34 = .ok (.iload_n 3, 1) := by decide +kernel
theorem dX12_copy_35 : decode cX12_copy 35 = .ok (.iaload, 1) := by decide +kernel
theorem dX12_copy_36 : decode cX12_copy 36 = .ok (.ifCond .ne 11, 3) := by decide +kernel
theorem dX12_copy_39 : decode cX12_copy 39 = .ok (.aload_n 0, 1) := by decide +kernel
theorem dX12_copy_40 : decode cX12_copy 40 = .ok (.ldc_w 326, 3) := by decide +kernel
theorem dX12_copy_43 : decode cX12_copy 43 = .ok (.invokevirtual 177, 3) := by decide +kernel
theorem dX12_copy_46 : decode cX12_copy 46 = .ok (.ireturn, 1) := by decide +kernel
theorem dX12_copy_47 : decode cX12_copy 47 = .ok (.aload_n 0, 1) := by decide +kernel
theorem dX12_copy_48 : decode cX12_copy 48 = .ok (.getfield 66, 3) := by decide +kernel
theorem dX12_copy_51 : decode cX12_copy 51 = .ok (.iload_n 1, 1) := by decide +kernel
theorem dX12_copy_52 : decode cX12_copy 52 = .ok (.iaload, 1) := by decide +kernel
theorem dX12_copy_53 : decode cX12_copy 53 = .ok (.aload_n 0, 1) := by decide +kernel
theorem dX12_copy_54 : decode cX12_copy 54 = .ok (.getfield 66, 3) := by decide +kernel
theorem dX12_copy_57 : decode cX12_copy 57 = .ok (.iload_n 3, 1) := by decide +kernel
theorem dX12_copy_58 : decode cX12_copy 58 = .ok (.iaload, 1) := by decide +kernel
theorem dX12_copy_59 : decode cX12_copy 59 = .ok (.if_icmp .eq 10, 3) := by decide +kernel
theorem dX12_copy_62 : decode cX12_copy 62 = .ok (.aload_n 0, 1) := by decide +kernel
theorem dX12_copy_63 : decode cX12_copy 63 = .ok (.ldc 205, 2) := by decide +kernel
theorem dX12_copy_65 : decode cX12_copy 65 = .ok (.invokevirtual 177, 3) := by decide +kernel
theorem dX12_copy_68 : decode cX12_copy 68 = .ok (.ireturn, 1) := by decide +kernel
theorem dX12_copy_69 : decode cX12_copy 69 = .ok (.iload_n 2, 1) := by decide +kernel
theorem dX12_copy_70 : decode cX12_copy 70 = .ok (.ifCond .lt 48, 3) := by decide +kernel
theorem dX12_copy_73 : decode cX12_copy 73 = .ok (.iload 4, 2) := by decide +kernel
theorem dX12_copy_75 : decode cX12_copy 75 = .ok (.ifCond .lt 43, 3) := by decide +kernel
theorem dX12_copy_78 : decode cX12_copy 78 = .ok (.iload 5, 2) := by decide +kernel
theorem dX12_copy_80 : decode cX12_copy 80 = .ok (.ifCond .lt 38, 3) := by decide +kernel
theorem dX12_copy_83 : decode cX12_copy 83 = .ok (.iload_n 2, 1) := by decide +kernel
theorem dX12_copy_84 : decode cX12_copy 84 = .ok (.i2l, 1) := by decide +kernel
theorem dX12_copy_85 : decode cX12_copy 85 = .ok (.iload 5, 2) := by decide +kernel
theorem dX12_copy_87 : decode cX12_copy 87 = .ok (.i2l, 1) := by decide +kernel
theorem dX12_copy_88 : decode cX12_copy 88 = .ok (.ladd, 1) := by decide +kernel
theorem dX12_copy_89 : decode cX12_copy 89 = .ok (.aload_n 0, 1) := by decide +kernel
theorem dX12_copy_90 : decode cX12_copy 90 = .ok (.getfield 69, 3) := by decide +kernel
theorem dX12_copy_93 : decode cX12_copy 93 = .ok (.iload_n 1, 1) := by decide +kernel
theorem dX12_copy_94 : decode cX12_copy 94 = .ok (.iaload, 1) := by decide +kernel
theorem dX12_copy_95 : decode cX12_copy 95 = .ok (.i2l, 1) := by decide +kernel
theorem dX12_copy_96 : decode cX12_copy 96 = .ok (.lcmp, 1) := by decide +kernel
theorem dX12_copy_97 : decode cX12_copy 97 = .ok (.ifCond .gt 21, 3) := by decide +kernel
theorem dX12_copy_100 : decode cX12_copy 100 = .ok (.iload 4, 2) := by decide +kernel
theorem dX12_copy_102 : decode cX12_copy 102 = .ok (.i2l, 1) := by decide +kernel
theorem dX12_copy_103 : decode cX12_copy 103 = .ok (.iload 5, 2) := by decide +kernel
theorem dX12_copy_105 : decode cX12_copy 105 = .ok (.i2l, 1) := by decide +kernel
theorem dX12_copy_106 : decode cX12_copy 106 = .ok (.ladd, 1) := by decide +kernel
theorem dX12_copy_107 : decode cX12_copy 107 = .ok (.aload_n 0, 1) := by decide +kernel
theorem dX12_copy_108 : decode cX12_copy 108 = .ok (.getfield 69, 3) := by decide +kernel
theorem dX12_copy_111 : decode cX12_copy 111 = .ok (.iload_n 3, 1) := by decide +kernel
theorem dX12_copy_112 : decode cX12_copy 112 = .ok (.iaload, 1) := by decide +kernel
theorem dX12_copy_113 : decode cX12_copy 113 = .ok (.i2l, 1) := by decide +kernel
theorem dX12_copy_114 : decode cX12_copy 114 = .ok (.lcmp, 1) := by decide +kernel
theorem dX12_copy_115 : decode cX12_copy 115 = .ok (.ifCond .le 10, 3) := by decide +kernel
theorem dX12_copy_118 : decode cX12_copy 118 = .ok (.aload_n 0, 1) := by decide +kernel
theorem dX12_copy_119 : decode cX12_copy 119 = .ok (.ldc 185, 2) := by decide +kernel
theorem dX12_copy_121 : decode cX12_copy 121 = .ok (.invokevirtual 177, 3) := by decide +kernel
theorem dX12_copy_124 : decode cX12_copy 124 = .ok (.ireturn, 1) := by decide +kernel
theorem dX12_copy_125 : decode cX12_copy 125 = .ok (.iconst 0, 1) := by decide +kernel
theorem dX12_copy_126 : decode cX12_copy 126 = .ok (.istore 6, 2) := by decide +kernel
theorem dX12_copy_128 : decode cX12_copy 128 = .ok (.iload 6, 2) := by decide +kernel
theorem dX12_copy_130 : decode cX12_copy 130 = .ok (.iload 5, 2) := by decide +kernel
theorem dX12_copy_132 : decode cX12_copy 132 = .ok (.if_icmp .ge 30, 3) := by decide +kernel
theorem dX12_copy_135 : decode cX12_copy 135 = .ok (.aload_n 0, 1) := by decide +kernel
theorem dX12_copy_136 : decode cX12_copy 136 = .ok (.getfield 150, 3) := by decide +kernel
theorem dX12_copy_139 : decode cX12_copy 139 = .ok (.iload 6, 2) := by decide +kernel
theorem dX12_copy_141 : decode cX12_copy 141 = .ok (.aload_n 0, 1) := by decide +kernel
theorem dX12_copy_142 : decode cX12_copy 142 = .ok (.getfield 72, 3) := by decide +kernel
theorem dX12_copy_145 : decode cX12_copy 145 = .ok (.bipush 10, 2) := by decide +kernel
theorem dX12_copy_147 : decode cX12_copy 147 = .ok (.iload_n 1, 1) := by decide +kernel
theorem dX12_copy_148 : decode cX12_copy 148 = .ok (.imul, 1) := by decide +kernel
theorem dX12_copy_149 : decode cX12_copy 149 = .ok (.iload_n 2, 1) := by decide +kernel
theorem dX12_copy_150 : decode cX12_copy 150 = .ok (.iadd, 1) := by decide +kernel
theorem dX12_copy_151 : decode cX12_copy 151 = .ok (.iload 6, 2) := by decide +kernel
theorem dX12_copy_153 : decode cX12_copy 153 = .ok (.iadd, 1) := by decide +kernel
theorem dX12_copy_154 : decode cX12_copy 154 = .ok (.iaload, 1) := by decide +kernel
theorem dX12_copy_155 : decode cX12_copy 155 = .ok (.iastore, 1) := by decide +kernel
theorem dX12_copy_156 : decode cX12_copy 156 = .ok (.iinc 6 1, 3) := by decide +kernel
theorem dX12_copy_159 : decode cX12_copy 159 = .ok (.goto (-31), 3) := by decide +kernel
theorem dX12_copy_162 : decode cX12_copy 162 = .ok (.iconst 0, 1) := by decide +kernel
theorem dX12_copy_163 : decode cX12_copy 163 = .ok (.istore 6, 2) := by decide +kernel
theorem dX12_copy_165 : decode cX12_copy 165 = .ok (.iload 6, 2) := by decide +kernel
theorem dX12_copy_167 : decode cX12_copy 167 = .ok (.iload 5, 2) := by decide +kernel
theorem dX12_copy_169 : decode cX12_copy 169 = .ok (.if_icmp .ge 31, 3) := by decide +kernel
theorem dX12_copy_172 : decode cX12_copy 172 = .ok (.aload_n 0, 1) := by decide +kernel
theorem dX12_copy_173 : decode cX12_copy 173 = .ok (.getfield 72, 3) := by decide +kernel
theorem dX12_copy_176 : decode cX12_copy 176 = .ok (.bipush 10, 2) := by decide +kernel
theorem dX12_copy_178 : decode cX12_copy 178 = .ok (.iload_n 3, 1) := by decide +kernel
theorem dX12_copy_179 : decode cX12_copy 179 = .ok (.imul, 1) := by decide +kernel
theorem dX12_copy_180 : decode cX12_copy 180 = .ok (.iload 4, 2) := by decide +kernel
theorem dX12_copy_182 : decode cX12_copy 182 = .ok (.iadd, 1) := by decide +kernel
theorem dX12_copy_183 : decode cX12_copy 183 = .ok (.iload 6, 2) := by decide +kernel
theorem dX12_copy_185 : decode cX12_copy 185 = .ok (.iadd, 1) := by decide +kernel
theorem dX12_copy_186 : decode cX12_copy 186 = .ok (.aload_n 0, 1) := by decide +kernel
theorem dX12_copy_187 : decode cX12_copy 187 = .ok (.getfield 150, 3) := by decide +kernel
theorem dX12_copy_190 : decode cX12_copy 190 = .ok (.iload 6, 2) := by decide +kernel
theorem dX12_copy_192 : decode cX12_copy 192 = .ok (.iaload, 1) := by decide +kernel
theorem dX12_copy_193 : decode cX12_copy 193 = .ok (.iastore, 1) := by decide +kernel
theorem dX12_copy_194 : decode cX12_copy 194 = .ok (.iinc 6 1, 3) := by decide +kernel
theorem dX12_copy_197 : decode cX12_copy 197 = .ok (.goto (-32), 3) := by decide +kernel
theorem dX12_copy_200 : decode cX12_copy 200 = .ok (.iload 5, 2) := by decide +kernel
theorem dX12_copy_202 : decode cX12_copy 202 = .ok (.ireturn, 1) := by decide +kernel
theorem dX12_read_0 : decode cX12_read 0 = .ok (.iload_n 1, 1) := by decide +kernel
theorem dX12_read_1 : decode cX12_read 1 = .ok (.invokestatic 322, 3) := by decide +kernel
theorem dX12_read_4 : decode cX12_read 4 = .ok (.ifCond .ne 10, 3) := by decide +kernel
theorem dX12_read_7 : decode cX12_read 7 = .ok (.aload_n 0, 1) := by decide +kernel
theorem dX12_read_8 : decode cX12_read 8 = .ok (.ldc 185, 2) := by decide +kernel
theorem dX12_read_10 : decode cX12_read 10 = .ok (.invokevirtual 177, 3) := by decide +kernel
theorem dX12_read_13 : decode cX12_read 13 = .ok (.ireturn, 1) := by decide +kernel
theorem dX12_read_14 : decode cX12_read 14 = .ok (.aload_n 0, 1) := by decide +kernel
theorem dX12_read_15 : decode cX12_read 15 = .ok (.getfield 66, 3) := by decide +kernel
theorem dX12_read_18 : decode cX12_read 18 = .ok (.iload_n 1, 1) := by decide +kernel
theorem dX12_read_19 : decode cX12_read 19 = .ok (.iaload, 1) := by decide +kernel
theorem dX12_read_20 : decode cX12_read 20 = .ok (.ifCond .ne 11, 3) := by decide +kernel
theorem dX12_read_23 : decode cX12_read 23 = .ok (.aload_n 0, 1) := by decide +kernel
theorem dX12_read_24 : decode cX12_read 24 = .ok (.ldc_w 326, 3) := by decide +kernel
theorem dX12_read_27 : decode cX12_read 27 = .ok (.invokevirtual 177, 3) := by decide +kernel
theorem dX12_read_30 : decode cX12_read 30 = .ok (.ireturn, 1) := by decide +kernel
theorem dX12_read_31 : decode cX12_read 31 = .ok (.aload_n 0, 1) := by decide +kernel
theorem dX12_read_32 : decode cX12_read 32 = .ok (.getfield 69, 3) := by decide +kernel
theorem dX12_read_35 : decode cX12_read 35 = .ok (.iload_n 1, 1) := by decide +kernel
theorem dX12_read_36 : decode cX12_read 36 = .ok (.iaload, 1) := by decide +kernel
theorem dX12_read_37 : decode cX12_read 37 = .ok (.istore_n 3, 1) := by decide +kernel
theorem dX12_read_38 : decode cX12_read 38 = .ok (.iload_n 3, 1) := by decide +kernel
theorem dX12_read_39 : decode cX12_read 39 = .ok (.ifCond .ne 5, 3) := by decide +kernel
theorem dX12_read_42 : decode cX12_read 42 = .ok (.iconst 0, 1) := by decide +kernel
theorem dX12_read_43 : decode cX12_read 43 = .ok (.ireturn, 1) := by decide +kernel
theorem dX12_read_44 : decode cX12_read 44 = .ok (.iload_n 2, 1) := by decide +kernel
theorem dX12_read_45 : decode cX12_read 45 = .ok (.ifCond .lt 17, 3) := by decide +kernel
theorem dX12_read_48 : decode cX12_read 48 = .ok (.iload_n 2, 1) := by decide +kernel
theorem dX12_read_49 : decode cX12_read 49 = .ok (.i2l, 1) := by decide +kernel
theorem dX12_read_50 : decode cX12_read 50 = .ok (.iload_n 3, 1) := by decide +kernel
theorem dX12_read_51 : decode cX12_read 51 = .ok (.i2l, 1) := by decide +kernel
theorem dX12_read_52 : decode cX12_read 52 = .ok (.ladd, 1) := by decide +kernel
theorem dX12_read_53 : decode cX12_read 53 = .ok (.aload_n 0, 1) := by decide +kernel
theorem dX12_read_54 : decode cX12_read 54 = .ok (.getfield 166, 3) := by decide +kernel
theorem dX12_read_57 : decode cX12_read 57 = .ok (.i2l, 1) := by decide +kernel
theorem dX12_read_58 : decode cX12_read 58 = .ok (.lcmp, 1) := by decide +kernel
theorem dX12_read_59 : decode cX12_read 59 = .ok (.ifCond .le 10, 3) := by decide +kernel
theorem dX12_read_62 : decode cX12_read 62 = .ok (.aload_n 0, 1) := by decide +kernel
theorem dX12_read_63 : decode cX12_read 63 = .ok (.ldc 185, 2) := by decide +kernel
theorem dX12_read_65 : decode cX12_read 65 = .ok (.invokevirtual 177, 3) := by decide +kernel
theorem dX12_read_68 : decode cX12_read 68 = .ok (.ireturn, 1) := by decide +kernel
theorem dX12_read_69 : decode cX12_read 69 = .ok (.iconst 0, 1) := by decide +kernel
theorem dX12_read_70 : decode cX12_read 70 = .ok (.istore 4, 2) := by decide +kernel
theorem dX12_read_72 : decode cX12_read 72 = .ok (.iload 4, 2) := by decide +kernel
theorem dX12_read_74 : decode cX12_read 74 = .ok (.iload_n 3, 1) := by decide +kernel
theorem dX12_read_75 : decode cX12_read 75 = .ok (.if_icmp .ge 37, 3) := by decide +kernel
theorem dX12_read_78 : decode cX12_read 78 = .ok (.aload_n 0, 1) := by decide +kernel
theorem dX12_read_79 : decode cX12_read 79 = .ok (.getfield 72, 3) := by decide +kernel
theorem dX12_read_82 : decode cX12_read 82 = .ok (.bipush 10, 2) := by decide +kernel
theorem dX12_read_84 : decode cX12_read 84 = .ok (.iload_n 1, 1) := by decide +kernel
theorem dX12_read_85 : decode cX12_read 85 = .ok (.imul, 1) := by decide +kernel
theorem dX12_read_86 : decode cX12_read 86 = .ok (.iload 4, 2) := by decide +kernel
theorem dX12_read_88 : decode cX12_read 88 = .ok (.iadd, 1) := by decide +kernel
theorem dX12_read_89 : decode cX12_read 89 = .ok (.iaload, 1) := by decide +kernel
theorem dX12_read_90 : decode cX12_read 90 = .ok (.iconst 1, 1) := by decide +kernel
theorem dX12_read_91 : decode cX12_read 91 = .ok (.bipush 30, 2) := by decide +kernel
theorem dX12_read_93 : decode cX12_read 93 = .ok (.invokestatic 159, 3) := by decide +kernel
theorem dX12_read_96 : decode cX12_read 96 = .ok (.ifCond .ne 10, 3) := by decide +kernel
theorem dX12_read_99 : decode cX12_read 99 = .ok (.aload_n 0, 1) := by decide +kernel
theorem dX12_read_100 : decode cX12_read 100 = .ok (.ldc 185, 2) := by decide +kernel
theorem dX12_read_102 : decode cX12_read 102 = .ok (.invokevirtual 177, 3) := by decide +kernel
theorem dX12_read_105 : decode cX12_read 105 = .ok (.ireturn, 1) := by decide +kernel
theorem dX12_read_106 : decode cX12_read 106 = .ok (.iinc 4 1, 3) := by decide +kernel
theorem dX12_read_109 : decode cX12_read 109 = .ok (.goto (-37), 3) := by decide +kernel
theorem dX12_read_112 : decode cX12_read 112 = .ok (.iconst 0, 1) := by decide +kernel
theorem dX12_read_113 : decode cX12_read 113 = .ok (.istore 4, 2) := by decide +kernel
theorem dX12_read_115 : decode cX12_read 115 = .ok (.iload 4, 2) := by decide +kernel
theorem dX12_read_117 : decode cX12_read 117 = .ok (.iload_n 3, 1) := by decide +kernel
theorem dX12_read_118 : decode cX12_read 118 = .ok (.if_icmp .ge 30, 3) := by decide +kernel
theorem dX12_read_121 : decode cX12_read 121 = .ok (.aload_n 0, 1) := by decide +kernel
theorem dX12_read_122 : decode cX12_read 122 = .ok (.getfield 48, 3) := by decide +kernel
theorem dX12_read_125 : decode cX12_read 125 = .ok (.iload_n 2, 1) := by decide +kernel
theorem dX12_read_126 : decode cX12_read 126 = .ok (.iload 4, 2) := by decide +kernel
theorem dX12_read_128 : decode cX12_read 128 = .ok (.iadd, 1) := by decide +kernel
theorem dX12_read_129 : decode cX12_read 129 = .ok (.aload_n 0, 1) := by decide +kernel
theorem dX12_read_130 : decode cX12_read 130 = .ok (.getfield 72, 3) := by decide +kernel
theorem dX12_read_133 : decode cX12_read 133 = .ok (.bipush 10, 2) := by decide +kernel
theorem dX12_read_135 : decode cX12_read 135 = .ok (.iload_n 1, 1) := by decide +kernel
theorem dX12_read_136 : decode cX12_read 136 = .ok (.imul, 1) := by decide +kernel
theorem dX12_read_137 : decode cX12_read 137 = .ok (.iload 4, 2) := by decide +kernel
theorem dX12_read_139 : decode cX12_read 139 = .ok (.iadd, 1) := by decide +kernel
theorem dX12_read_140 : decode cX12_read 140 = .ok (.iaload, 1) := by decide +kernel
theorem dX12_read_141 : decode cX12_read 141 = .ok (.iastore, 1) := by decide +kernel
theorem dX12_read_142 : decode cX12_read 142 = .ok (.iinc 4 1, 3) := by decide +kernel
theorem dX12_read_145 : decode cX12_read 145 = .ok (.goto (-30), 3) := by decide +kernel
theorem dX12_read_148 : decode cX12_read 148 = .ok (.aload_n 0, 1) := by decide +kernel
theorem dX12_read_149 : decode cX12_read 149 = .ok (.invokevirtual 189, 3) := by decide +kernel
theorem dX12_read_152 : decode cX12_read 152 = .ok (.iload_n 3, 1) := by decide +kernel
theorem dX12_read_153 : decode cX12_read 153 = .ok (.ireturn, 1) := by decide +kernel
theorem dX12_told_0 : decode cX12_told 0 = .ok (.iload_n 1, 1) := by decide +kernel
theorem dX12_told_1 : decode cX12_told 1 = .ok (.tableswitch 78 0 6 #[43, 48, 53, 58, 63, 68, 73], 43) := by decide +kernel
theorem dX12_told_44 : decode cX12_told 44 = .ok (.aload_n 0, 1) := by decide +kernel
theorem dX12_told_45 : decode cX12_told 45 = .ok (.getfield 156, 3) := by decide +kernel
theorem dX12_told_48 : decode cX12_told 48 = .ok (.ireturn, 1) := by decide +kernel
theorem dX12_told_49 : decode cX12_told 49 = .ok (.aload_n 0, 1) := by decide +kernel
theorem dX12_told_50 : decode cX12_told 50 = .ok (.getfield 186, 3) := by decide +kernel
theorem dX12_told_53 : decode cX12_told 53 = .ok (.ireturn, 1) := by decide +kernel
theorem dX12_told_54 : decode cX12_told 54 = .ok (.aload_n 0, 1) := by decide +kernel
theorem dX12_told_55 : decode cX12_told 55 = .ok (.getfield 163, 3) := by decide +kernel
theorem dX12_told_58 : decode cX12_told 58 = .ok (.ireturn, 1) := by decide +kernel
theorem dX12_told_59 : decode cX12_told 59 = .ok (.aload_n 0, 1) := by decide +kernel
theorem dX12_told_60 : decode cX12_told 60 = .ok (.getfield 166, 3) := by decide +kernel
theorem dX12_told_63 : decode cX12_told 63 = .ok (.ireturn, 1) := by decide +kernel
theorem dX12_told_64 : decode cX12_told 64 = .ok (.aload_n 0, 1) := by decide +kernel
theorem dX12_told_65 : decode cX12_told 65 = .ok (.getfield 289, 3) := by decide +kernel
theorem dX12_told_68 : decode cX12_told 68 = .ok (.ireturn, 1) := by decide +kernel
theorem dX12_told_69 : decode cX12_told 69 = .ok (.aload_n 0, 1) := by decide +kernel
theorem dX12_told_70 : decode cX12_told 70 = .ok (.getfield 277, 3) := by decide +kernel
theorem dX12_told_73 : decode cX12_told 73 = .ok (.ireturn, 1) := by decide +kernel
theorem dX12_told_74 : decode cX12_told 74 = .ok (.aload_n 0, 1) := by decide +kernel
theorem dX12_told_75 : decode cX12_told 75 = .ok (.getfield 153, 3) := by decide +kernel
theorem dX12_told_78 : decode cX12_told 78 = .ok (.ireturn, 1) := by decide +kernel
theorem dX12_told_79 : decode cX12_told 79 = .ok (.aload_n 0, 1) := by decide +kernel
theorem dX12_told_80 : decode cX12_told 80 = .ok (.ldc 185, 2) := by decide +kernel
theorem dX12_told_82 : decode cX12_told 82 = .ok (.invokevirtual 177, 3) := by decide +kernel
theorem dX12_told_85 : decode cX12_told 85 = .ok (.ireturn, 1) := by decide +kernel
theorem dJ6_bitCount_0f7a4_0 : decode cJ6_bitCount_0f7a4 0 = .ok (.iload_n 0, 1) := by decide +kernel
theorem dJ6_bitCount_0f7a4_1 : decode cJ6_bitCount_0f7a4 1 = .ok (.iload_n 0, 1) := by decide +kernel
theorem dJ6_bitCount_0f7a4_2 : decode cJ6_bitCount_0f7a4 2 = .ok (.iconst 1, 1) := by decide +kernel
theorem dJ6_bitCount_0f7a4_3 : decode cJ6_bitCount_0f7a4 3 = .ok (.iushr, 1) := by decide +kernel
theorem dJ6_bitCount_0f7a4_4 : decode cJ6_bitCount_0f7a4 4 = .ok (.ldc_w 265, 3) := by decide +kernel
theorem dJ6_bitCount_0f7a4_7 : decode cJ6_bitCount_0f7a4 7 = .ok (.iand, 1) := by decide +kernel
theorem dJ6_bitCount_0f7a4_8 : decode cJ6_bitCount_0f7a4 8 = .ok (.isub, 1) := by decide +kernel
theorem dJ6_bitCount_0f7a4_9 : decode cJ6_bitCount_0f7a4 9 = .ok (.istore_n 0, 1) := by decide +kernel
theorem dJ6_bitCount_0f7a4_10 : decode cJ6_bitCount_0f7a4 10 = .ok (.iload_n 0, 1) := by decide +kernel
theorem dJ6_bitCount_0f7a4_11 : decode cJ6_bitCount_0f7a4 11 = .ok (.ldc_w 266, 3) := by decide +kernel
theorem dJ6_bitCount_0f7a4_14 : decode cJ6_bitCount_0f7a4 14 = .ok (.iand, 1) := by decide +kernel
theorem dJ6_bitCount_0f7a4_15 : decode cJ6_bitCount_0f7a4 15 = .ok (.iload_n 0, 1) := by decide +kernel
theorem dJ6_bitCount_0f7a4_16 : decode cJ6_bitCount_0f7a4 16 = .ok (.iconst 2, 1) := by decide +kernel
theorem dJ6_bitCount_0f7a4_17 : decode cJ6_bitCount_0f7a4 17 = .ok (.iushr, 1) := by decide +kernel
theorem dJ6_bitCount_0f7a4_18 : decode cJ6_bitCount_0f7a4 18 = .ok (.ldc_w 266, 3) := by decide +kernel
theorem dJ6_bitCount_0f7a4_21 : decode cJ6_bitCount_0f7a4 21 = .ok (.iand, 1) := by decide +kernel
theorem dJ6_bitCount_0f7a4_22 : decode cJ6_bitCount_0f7a4 22 = .ok (.iadd, 1) := by decide +kernel
theorem dJ6_bitCount_0f7a4_23 : decode cJ6_bitCount_0f7a4 23 = .ok (.istore_n 0, 1) := by decide +kernel
theorem dJ6_bitCount_0f7a4_24 : decode cJ6_bitCount_0f7a4 24 = .ok (.iload_n 0, 1) := by decide +kernel
theorem dJ6_bitCount_0f7a4_25 : decode cJ6_bitCount_0f7a4 25 = .ok (.iload_n 0, 1) := by decide +kernel
theorem dJ6_bitCount_0f7a4_26 : decode cJ6_bitCount_0f7a4 26 = .ok (.iconst 4, 1) := by decide +kernel
theorem dJ6_bitCount_0f7a4_27 : decode cJ6_bitCount_0f7a4 27 = .ok (.iushr, 1) := by decide +kernel
theorem dJ6_bitCount_0f7a4_28 : decode cJ6_bitCount_0f7a4 28 = .ok (.iadd, 1) := by decide +kernel
theorem dJ6_bitCount_0f7a4_29 : decode cJ6_bitCount_0f7a4 29 = .ok (.ldc_w 267, 3) := by decide +kernel
theorem dJ6_bitCount_0f7a4_32 : decode cJ6_bitCount_0f7a4 32 = .ok (.iand, 1) := by decide +kernel
theorem dJ6_bitCount_0f7a4_33 : decode cJ6_bitCount_0f7a4 33 = .ok (.istore_n 0, 1) := by decide +kernel
theorem dJ6_bitCount_0f7a4_34 : decode cJ6_bitCount_0f7a4 34 = .ok (.iload_n 0, 1) := by decide +kernel
theorem dJ6_bitCount_0f7a4_35 : decode cJ6_bitCount_0f7a4 35 = .ok (.iload_n 0, 1) := by decide +kernel
theorem dJ6_bitCount_0f7a4_36 : decode cJ6_bitCount_0f7a4 36 = .ok (.bipush 8, 2) := by decide +kernel
theorem dJ6_bitCount_0f7a4_38 : decode cJ6_bitCount_0f7a4 38 = .ok (.iushr, 1) := by decide +kernel
theorem dJ6_bitCount_0f7a4_39 : decode cJ6_bitCount_0f7a4 39 = .ok (.iadd, 1) := by decide +kernel
theorem dJ6_bitCount_0f7a4_40 : decode cJ6_bitCount_0f7a4 40 = .ok (.istore_n 0, 1) := by decide +kernel
theorem dJ6_bitCount_0f7a4_41 : decode cJ6_bitCount_0f7a4 41 = .ok (.iload_n 0, 1) := by decide +kernel
theorem dJ6_bitCount_0f7a4_42 : decode cJ6_bitCount_0f7a4 42 = .ok (.iload_n 0, 1) := by decide +kernel
theorem dJ6_bitCount_0f7a4_43 : decode cJ6_bitCount_0f7a4 43 = .ok (.bipush 16, 2) := by decide +kernel
theorem dJ6_bitCount_0f7a4_45 : decode cJ6_bitCount_0f7a4 45 = .ok (.iushr, 1) := by decide +kernel
theorem dJ6_bitCount_0f7a4_46 : decode cJ6_bitCount_0f7a4 46 = .ok (.iadd, 1) := by decide +kernel
theorem dJ6_bitCount_0f7a4_47 : decode cJ6_bitCount_0f7a4 47 = .ok (.istore_n 0, 1) := by decide +kernel
theorem dJ6_bitCount_0f7a4_48 : decode cJ6_bitCount_0f7a4 48 = .ok (.iload_n 0, 1) := by decide +kernel
theorem dJ6_bitCount_0f7a4_49 : decode cJ6_bitCount_0f7a4 49 = .ok (.bipush 63, 2) := by decide +kernel
theorem dJ6_bitCount_0f7a4_51 : decode cJ6_bitCount_0f7a4 51 = .ok (.iand, 1) := by decide +kernel
theorem dJ6_bitCount_0f7a4_52 : decode cJ6_bitCount_0f7a4 52 = .ok (.ireturn, 1) := by decide +kernel
theorem dJ9_abs_0f7a4_0 : decode cJ9_abs_0f7a4 0 = .ok (.iload_n 0, 1) := by decide +kernel
theorem dJ9_abs_0f7a4_1 : decode cJ9_abs_0f7a4 1 = .ok (.ifCond .ge 8, 3) := by decide +kernel
theorem dJ9_abs_0f7a4_4 : decode cJ9_abs_0f7a4 4 = .ok (.iload_n 0, 1) := by decide +kernel
theorem dJ9_abs_0f7a4_5 : decode cJ9_abs_0f7a4 5 = .ok (.ineg, 1) := by decide +kernel
theorem dJ9_abs_0f7a4_6 : decode cJ9_abs_0f7a4 6 = .ok (.goto 4, 3) := by decide +kernel
theorem dJ9_abs_0f7a4_9 : decode cJ9_abs_0f7a4 9 = .ok (.iload_n 0, 1) := by decide +kernel
theorem dJ9_abs_0f7a4_10 : decode cJ9_abs_0f7a4 10 = .ok (.ireturn, 1) := by decide +kernel
theorem dJ9_max_7cf53_0 : decode cJ9_max_7cf53 0 = .ok (.iload_n 0, 1) := by decide +kernel
theorem dJ9_max_7cf53_1 : decode cJ9_max_7cf53 1 = .ok (.iload_n 1, 1) := by decide +kernel
theorem dJ9_max_7cf53_2 : decode cJ9_max_7cf53 2 = .ok (.if_icmp .lt 7, 3) := by decide +kernel
theorem dJ9_max_7cf53_5 : decode cJ9_max_7cf53 5 = .ok (.iload_n 0, 1) := by decide +kernel
theorem dJ9_max_7cf53_6 : decode cJ9_max_7cf53 6 = .ok (.goto 4, 3) := by decide +kernel
theorem dJ9_max_7cf53_9 : decode cJ9_max_7cf53 9 = .ok (.iload_n 1, 1) := by decide +kernel
theorem dJ9_max_7cf53_10 : decode cJ9_max_7cf53 10 = .ok (.ireturn, 1) := by decide +kernel
theorem dJ9_min_7cf53_0 : decode cJ9_min_7cf53 0 = .ok (.iload_n 0, 1) := by decide +kernel
theorem dJ9_min_7cf53_1 : decode cJ9_min_7cf53 1 = .ok (.iload_n 1, 1) := by decide +kernel
theorem dJ9_min_7cf53_2 : decode cJ9_min_7cf53 2 = .ok (.if_icmp .gt 7, 3) := by decide +kernel
theorem dJ9_min_7cf53_5 : decode cJ9_min_7cf53 5 = .ok (.iload_n 0, 1) := by decide +kernel
theorem dJ9_min_7cf53_6 : decode cJ9_min_7cf53 6 = .ok (.goto 4, 3) := by decide +kernel
theorem dJ9_min_7cf53_9 : decode cJ9_min_7cf53 9 = .ok (.iload_n 1, 1) := by decide +kernel
theorem dJ9_min_7cf53_10 : decode cJ9_min_7cf53 10 = .ok (.ireturn, 1) := by decide +kernel
theorem dJ7_fill_53178_0 : decode cJ7_fill_53178 0 = .ok (.iconst 0, 1) := by decide +kernel
theorem dJ7_fill_53178_1 : decode cJ7_fill_53178 1 = .ok (.istore_n 2, 1) := by decide +kernel
theorem dJ7_fill_53178_2 : decode cJ7_fill_53178 2 = .ok (.aload_n 0, 1) := by decide +kernel
theorem dJ7_fill_53178_3 : decode cJ7_fill_53178 3 = .ok (.arraylength, 1) := by decide +kernel
theorem dJ7_fill_53178_4 : decode cJ7_fill_53178 4 = .ok (.istore_n 3, 1) := by decide +kernel
theorem dJ7_fill_53178_5 : decode cJ7_fill_53178 5 = .ok (.iload_n 2, 1) := by decide +kernel
theorem dJ7_fill_53178_6 : decode cJ7_fill_53178 6 = .ok (.iload_n 3, 1) := by decide +kernel
theorem dJ7_fill_53178_7 : decode cJ7_fill_53178 7 = .ok (.if_icmp .ge 13, 3) := by decide +kernel
theorem dJ7_fill_53178_10 : decode cJ7_fill_53178 10 = .ok (.aload_n 0, 1) := by decide +kernel
theorem dJ7_fill_53178_11 : decode cJ7_fill_53178 11 = .ok (.iload_n 2, 1) := by decide +kernel
theorem dJ7_fill_53178_12 : decode cJ7_fill_53178 12 = .ok (.iload_n 1, 1) := by decide +kernel
theorem dJ7_fill_53178_13 : decode cJ7_fill_53178 13 = .ok (.iastore, 1) := by decide +kernel
theorem dJ7_fill_53178_14 : decode cJ7_fill_53178 14 = .ok (.iinc 2 1, 3) := by decide +kernel
theorem dJ7_fill_53178_17 : decode cJ7_fill_53178 17 = .ok (.goto (-12), 3) := by decide +kernel
theorem dJ7_fill_53178_20 : decode cJ7_fill_53178 20 = .ok (.return_, 1) := by decide +kernel
theorem dL_law_0 : decode cL_law 0 = .ok (.new 7, 3) := by decide +kernel
theorem dL_law_3 : decode cL_law 3 = .ok (.dup, 1) := by decide +kernel
theorem dL_law_4 : decode cL_law 4 = .ok (.invokespecial 9, 3) := by decide +kernel
theorem dL_law_7 : decode cL_law 7 = .ok (.astore_n 1, 1) := by decide +kernel
theorem dL_law_8 : decode cL_law 8 = .ok (.new 10, 3) := by decide +kernel
theorem dL_law_11 : decode cL_law 11 = .ok (.dup, 1) := by decide +kernel
theorem dL_law_12 : decode cL_law 12 = .ok (.invokespecial 12, 3) := by decide +kernel
theorem dL_law_15 : decode cL_law 15 = .ok (.astore_n 2, 1) := by decide +kernel
theorem dL_law_16 : decode cL_law 16 = .ok (.iconst 0, 1) := by decide +kernel
theorem dL_law_17 : decode cL_law 17 = .ok (.istore_n 3, 1) := by decide +kernel
theorem dL_law_18 : decode cL_law 18 = .ok (.iload_n 3, 1) := by decide +kernel
theorem dL_law_19 : decode cL_law 19 = .ok (.aload_n 0, 1) := by decide +kernel
theorem dL_law_20 : decode cL_law 20 = .ok (.arraylength, 1) := by decide +kernel
theorem dL_law_21 : decode cL_law 21 = .ok (.bipush 6, 2) := by decide +kernel
theorem dL_law_23 : decode cL_law 23 = .ok (.isub, 1) := by decide +kernel
theorem dL_law_24 : decode cL_law 24 = .ok (.if_icmp .gt 1345, 3) := by decide +kernel
theorem dL_law_27 : decode cL_law 27 = .ok (.aload_n 0, 1) := by decide +kernel
theorem dL_law_28 : decode cL_law 28 = .ok (.iload_n 3, 1) := by decide +kernel
theorem dL_law_29 : decode cL_law 29 = .ok (.iaload, 1) := by decide +kernel
theorem dL_law_30 : decode cL_law 30 = .ok (.bipush 63, 2) := by decide +kernel
theorem dL_law_32 : decode cL_law 32 = .ok (.iand, 1) := by decide +kernel
theorem dL_law_33 : decode cL_law 33 = .ok (.tableswitch 1330 0 36 #[163, 176, 219, 268, 301, 334, 367, 400, 433, 466, 519, 552, 575, 618, 641, 684, 707, 720, 743, 776, 789, 822, 835, 898, 911, 944, 957, 970, 1003, 1026, 1069, 1092, 1125, 1168, 1211, 1274, 1307], 163) := by decide +kernel
theorem dL_law_196 : decode cL_law 196 = .ok (.aload_n 1, 1) := by decide +kernel
theorem dL_law_197 : decode cL_law 197 = .ok (.invokevirtual 13, 3) := by decide +kernel
theorem dL_law_200 : decode cL_law 200 = .ok (.aload_n 2, 1) := by decide +kernel
theorem dL_law_201 : decode cL_law 201 = .ok (.invokevirtual 17, 3) := by decide +kernel
theorem dL_law_204 : decode cL_law 204 = .ok (.if_icmp .eq 1159, 3) := by decide +kernel
theorem dL_law_207 : decode cL_law 207 = .ok (.iconst 0, 1) := by decide +kernel
theorem dL_law_208 : decode cL_law 208 = .ok (.ireturn, 1) := by decide +kernel
theorem dL_law_209 : decode cL_law 209 = .ok (.aload_n 1, 1) := by decide +kernel
theorem dL_law_210 : decode cL_law 210 = .ok (.aload_n 0, 1) := by decide +kernel
theorem dL_law_211 : decode cL_law 211 = .ok (.iload_n 3, 1) := by decide +kernel
theorem dL_law_212 : decode cL_law 212 = .ok (.iconst 1, 1) := by decide +kernel
theorem dL_law_213 : decode cL_law 213 = .ok (.iadd, 1) := by decide +kernel
theorem dL_law_214 : decode cL_law 214 = .ok (.iaload, 1) := by decide +kernel
theorem dL_law_215 : decode cL_law 215 = .ok (.aload_n 0, 1) := by decide +kernel
theorem dL_law_216 : decode cL_law 216 = .ok (.iload_n 3, 1) := by decide +kernel
theorem dL_law_217 : decode cL_law 217 = .ok (.iconst 2, 1) := by decide +kernel
theorem dL_law_218 : decode cL_law 218 = .ok (.iadd, 1) := by decide +kernel
theorem dL_law_219 : decode cL_law 219 = .ok (.iaload, 1) := by decide +kernel
theorem dL_law_220 : decode cL_law 220 = .ok (.aload_n 0, 1) := by decide +kernel
theorem dL_law_221 : decode cL_law 221 = .ok (.iload_n 3, 1) := by decide +kernel
theorem dL_law_222 : decode cL_law 222 = .ok (.iconst 3, 1) := by decide +kernel
theorem dL_law_223 : decode cL_law 223 = .ok (.iadd, 1) := by decide +kernel
theorem dL_law_224 : decode cL_law 224 = .ok (.iaload, 1) := by decide +kernel
theorem dL_law_225 : decode cL_law 225 = .ok (.invokevirtual 18, 3) := by decide +kernel
theorem dL_law_228 : decode cL_law 228 = .ok (.aload_n 2, 1) := by decide +kernel
theorem dL_law_229 : decode cL_law 229 = .ok (.aload_n 0, 1) := by decide +kernel
theorem dL_law_230 : decode cL_law 230 = .ok (.iload_n 3, 1) := by decide +kernel
theorem dL_law_231 : decode cL_law 231 = .ok (.iconst 1, 1) := by decide +kernel
theorem dL_law_232 : decode cL_law 232 = .ok (.iadd, 1) := by decide +kernel
theorem dL_law_233 : decode cL_law 233 = .ok (.iaload, 1) := by decide +kernel
