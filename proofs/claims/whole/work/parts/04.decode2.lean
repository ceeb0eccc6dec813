theorem d_Mod_message_0 : decode prog_13_method_16_code 0 = .ok (.aload_n 0, 1) := by decide +kernel
theorem d_Mod_message_1 : decode prog_13_method_16_code 1 = .ok (.iconst 0, 1) := by decide +kernel
theorem d_Mod_message_2 : decode prog_13_method_16_code 2 = .ok (.putfield 117, 3) := by decide +kernel
theorem d_Mod_message_5 : decode prog_13_method_16_code 5 = .ok (.aload_n 0, 1) := by decide +kernel
theorem d_Mod_message_6 : decode prog_13_method_16_code 6 = .ok (.iconst 0, 1) := by decide +kernel
theorem d_Mod_message_7 : decode prog_13_method_16_code 7 = .ok (.putfield 120, 3) := by decide +kernel
theorem d_Mod_message_10 : decode prog_13_method_16_code 10 = .ok (.iconst 0, 1) := by decide +kernel
theorem d_Mod_message_11 : decode prog_13_method_16_code 11 = .ok (.istore_n 1, 1) := by decide +kernel
theorem d_Mod_message_12 : decode prog_13_method_16_code 12 = .ok (.iload_n 1, 1) := by decide +kernel
theorem d_Mod_message_13 : decode prog_13_method_16_code 13 = .ok (.bipush (6), 2) := by decide +kernel
theorem d_Mod_message_15 : decode prog_13_method_16_code 15 = .ok (.if_icmp .ge (23), 3) := by decide +kernel
theorem d_Mod_message_18 : decode prog_13_method_16_code 18 = .ok (.aload_n 0, 1) := by decide +kernel
theorem d_Mod_message_19 : decode prog_13_method_16_code 19 = .ok (.getfield 54, 3) := by decide +kernel
theorem d_Mod_message_22 : decode prog_13_method_16_code 22 = .ok (.iload_n 1, 1) := by decide +kernel
theorem d_Mod_message_23 : decode prog_13_method_16_code 23 = .ok (.iconst 0, 1) := by decide +kernel
theorem d_Mod_message_24 : decode prog_13_method_16_code 24 = .ok (.bastore, 1) := by decide +kernel
theorem d_Mod_message_25 : decode prog_13_method_16_code 25 = .ok (.aload_n 0, 1) := by decide +kernel
theorem d_Mod_message_26 : decode prog_13_method_16_code 26 = .ok (.getfield 57, 3) := by decide +kernel
theorem d_Mod_message_29 : decode prog_13_method_16_code 29 = .ok (.iload_n 1, 1) := by decide +kernel
theorem d_Mod_message_30 : decode prog_13_method_16_code 30 = .ok (.iconst 0, 1) := by decide +kernel
theorem d_Mod_message_31 : decode prog_13_method_16_code 31 = .ok (.iastore, 1) := by decide +kernel
theorem d_Mod_message_32 : decode prog_13_method_16_code 32 = .ok (.iinc 1 (1), 3) := by decide +kernel
theorem d_Mod_message_35 : decode prog_13_method_16_code 35 = .ok (.goto (-23), 3) := by decide +kernel
theorem d_Mod_message_38 : decode prog_13_method_16_code 38 = .ok (.aload_n 0, 1) := by decide +kernel
theorem d_Mod_message_39 : decode prog_13_method_16_code 39 = .ok (.bipush (8), 2) := by decide +kernel
theorem d_Mod_message_41 : decode prog_13_method_16_code 41 = .ok (.invokevirtual 123, 3) := by decide +kernel
theorem d_Mod_message_44 : decode prog_13_method_16_code 44 = .ok (.istore_n 1, 1) := by decide +kernel
theorem d_Mod_message_45 : decode prog_13_method_16_code 45 = .ok (.aload_n 0, 1) := by decide +kernel
theorem d_Mod_message_46 : decode prog_13_method_16_code 46 = .ok (.iload_n 1, 1) := by decide +kernel
theorem d_Mod_message_47 : decode prog_13_method_16_code 47 = .ok (.iconst 3, 1) := by decide +kernel
theorem d_Mod_message_48 : decode prog_13_method_16_code 48 = .ok (.if_icmp .eq (21), 3) := by decide +kernel
theorem d_Mod_message_51 : decode prog_13_method_16_code 51 = .ok (.iload_n 1, 1) := by decide +kernel
theorem d_Mod_message_52 : decode prog_13_method_16_code 52 = .ok (.bipush (9), 2) := by decide +kernel
theorem d_Mod_message_54 : decode prog_13_method_16_code 54 = .ok (.if_icmp .eq (15), 3) := by decide +kernel
theorem d_Mod_message_57 : decode prog_13_method_16_code 57 = .ok (.iload_n 1, 1) := by decide +kernel
theorem d_Mod_message_58 : decode prog_13_method_16_code 58 = .ok (.bipush (16), 2) := by decide +kernel
theorem d_Mod_message_60 : decode prog_13_method_16_code 60 = .ok (.if_icmp .eq (9), 3) := by decide +kernel
theorem d_Mod_message_63 : decode prog_13_method_16_code 63 = .ok (.iload_n 1, 1) := by decide +kernel
theorem d_Mod_message_64 : decode prog_13_method_16_code 64 = .ok (.bipush (24), 2) := by decide +kernel
theorem d_Mod_message_66 : decode prog_13_method_16_code 66 = .ok (.if_icmp .ne (7), 3) := by decide +kernel
theorem d_Mod_message_69 : decode prog_13_method_16_code 69 = .ok (.iconst 1, 1) := by decide +kernel
theorem d_Mod_message_70 : decode prog_13_method_16_code 70 = .ok (.goto (4), 3) := by decide +kernel
theorem d_Mod_message_73 : decode prog_13_method_16_code 73 = .ok (.iconst 0, 1) := by decide +kernel
theorem d_Mod_message_74 : decode prog_13_method_16_code 74 = .ok (.iconst 1, 1) := by decide +kernel
theorem d_Mod_message_75 : decode prog_13_method_16_code 75 = .ok (.invokevirtual 130, 3) := by decide +kernel
theorem d_Mod_message_78 : decode prog_13_method_16_code 78 = .ok (.aload_n 0, 1) := by decide +kernel
theorem d_Mod_message_79 : decode prog_13_method_16_code 79 = .ok (.bipush (10), 2) := by decide +kernel
theorem d_Mod_message_81 : decode prog_13_method_16_code 81 = .ok (.invokevirtual 123, 3) := by decide +kernel
theorem d_Mod_message_84 : decode prog_13_method_16_code 84 = .ok (.istore_n 2, 1) := by decide +kernel
theorem d_Mod_message_85 : decode prog_13_method_16_code 85 = .ok (.aload_n 0, 1) := by decide +kernel
theorem d_Mod_message_86 : decode prog_13_method_16_code 86 = .ok (.iload_n 2, 1) := by decide +kernel
theorem d_Mod_message_87 : decode prog_13_method_16_code 87 = .ok (.aload_n 0, 1) := by decide +kernel
theorem d_Mod_message_88 : decode prog_13_method_16_code 88 = .ok (.getfield 114, 3) := by decide +kernel
theorem d_Mod_message_91 : decode prog_13_method_16_code 91 = .ok (.if_icmp .ne (7), 3) := by decide +kernel
theorem d_Mod_message_94 : decode prog_13_method_16_code 94 = .ok (.iconst 1, 1) := by decide +kernel
theorem d_Mod_message_95 : decode prog_13_method_16_code 95 = .ok (.goto (4), 3) := by decide +kernel
theorem d_Mod_message_98 : decode prog_13_method_16_code 98 = .ok (.iconst 0, 1) := by decide +kernel
theorem d_Mod_message_99 : decode prog_13_method_16_code 99 = .ok (.iconst 2, 1) := by decide +kernel
theorem d_Mod_message_100 : decode prog_13_method_16_code 100 = .ok (.invokevirtual 130, 3) := by decide +kernel
theorem d_Mod_message_103 : decode prog_13_method_16_code 103 = .ok (.aload_n 0, 1) := by decide +kernel
theorem d_Mod_message_104 : decode prog_13_method_16_code 104 = .ok (.bipush (16), 2) := by decide +kernel
theorem d_Mod_message_106 : decode prog_13_method_16_code 106 = .ok (.invokevirtual 123, 3) := by decide +kernel
theorem d_Mod_message_109 : decode prog_13_method_16_code 109 = .ok (.istore_n 3, 1) := by decide +kernel
theorem d_Mod_message_110 : decode prog_13_method_16_code 110 = .ok (.aload_n 0, 1) := by decide +kernel
theorem d_Mod_message_111 : decode prog_13_method_16_code 111 = .ok (.iload_n 3, 1) := by decide +kernel
theorem d_Mod_message_112 : decode prog_13_method_16_code 112 = .ok (.aload_n 0, 1) := by decide +kernel
theorem d_Mod_message_113 : decode prog_13_method_16_code 113 = .ok (.getfield 47, 3) := by decide +kernel
theorem d_Mod_message_116 : decode prog_13_method_16_code 116 = .ok (.if_icmp .le (7), 3) := by decide +kernel
theorem d_Mod_message_119 : decode prog_13_method_16_code 119 = .ok (.iconst 1, 1) := by decide +kernel
theorem d_Mod_message_120 : decode prog_13_method_16_code 120 = .ok (.goto (4), 3) := by decide +kernel
theorem d_Mod_message_123 : decode prog_13_method_16_code 123 = .ok (.iconst 0, 1) := by decide +kernel
theorem d_Mod_message_124 : decode prog_13_method_16_code 124 = .ok (.iconst 3, 1) := by decide +kernel
theorem d_Mod_message_125 : decode prog_13_method_16_code 125 = .ok (.invokevirtual 130, 3) := by decide +kernel
theorem d_Mod_message_128 : decode prog_13_method_16_code 128 = .ok (.iconst 0, 1) := by decide +kernel
theorem d_Mod_message_129 : decode prog_13_method_16_code 129 = .ok (.istore 4, 2) := by decide +kernel
theorem d_Mod_message_131 : decode prog_13_method_16_code 131 = .ok (.iload_n 1, 1) := by decide +kernel
theorem d_Mod_message_132 : decode prog_13_method_16_code 132 = .ok (.bipush (9), 2) := by decide +kernel
theorem d_Mod_message_134 : decode prog_13_method_16_code 134 = .ok (.if_icmp .ne (14), 3) := by decide +kernel
theorem d_Mod_message_137 : decode prog_13_method_16_code 137 = .ok (.bipush (10), 2) := by decide +kernel
theorem d_Mod_message_139 : decode prog_13_method_16_code 139 = .ok (.aload_n 0, 1) := by decide +kernel
theorem d_Mod_message_140 : decode prog_13_method_16_code 140 = .ok (.bipush (15), 2) := by decide +kernel
theorem d_Mod_message_142 : decode prog_13_method_16_code 142 = .ok (.invokevirtual 123, 3) := by decide +kernel
theorem d_Mod_message_145 : decode prog_13_method_16_code 145 = .ok (.imul, 1) := by decide +kernel
theorem d_Mod_message_146 : decode prog_13_method_16_code 146 = .ok (.istore 4, 2) := by decide +kernel
theorem d_Mod_message_148 : decode prog_13_method_16_code 148 = .ok (.iload_n 1, 1) := by decide +kernel
theorem d_Mod_message_149 : decode prog_13_method_16_code 149 = .ok (.iconst 3, 1) := by decide +kernel
theorem d_Mod_message_150 : decode prog_13_method_16_code 150 = .ok (.if_icmp .eq (9), 3) := by decide +kernel
theorem d_Mod_message_153 : decode prog_13_method_16_code 153 = .ok (.iload_n 1, 1) := by decide +kernel
theorem d_Mod_message_154 : decode prog_13_method_16_code 154 = .ok (.bipush (24), 2) := by decide +kernel
theorem d_Mod_message_156 : decode prog_13_method_16_code 156 = .ok (.if_icmp .ne (10), 3) := by decide +kernel
theorem d_Mod_message_159 : decode prog_13_method_16_code 159 = .ok (.aload_n 0, 1) := by decide +kernel
theorem d_Mod_message_160 : decode prog_13_method_16_code 160 = .ok (.invokevirtual 148, 3) := by decide +kernel
theorem d_Mod_message_163 : decode prog_13_method_16_code 163 = .ok (.goto (24), 3) := by decide +kernel
theorem d_Mod_message_166 : decode prog_13_method_16_code 166 = .ok (.aload_n 0, 1) := by decide +kernel
theorem d_Mod_message_167 : decode prog_13_method_16_code 167 = .ok (.aload_n 0, 1) := by decide +kernel
theorem d_Mod_message_168 : decode prog_13_method_16_code 168 = .ok (.getfield 120, 3) := by decide +kernel
theorem d_Mod_message_171 : decode prog_13_method_16_code 171 = .ok (.aload_n 0, 1) := by decide +kernel
theorem d_Mod_message_172 : decode prog_13_method_16_code 172 = .ok (.getfield 114, 3) := by decide +kernel
theorem d_Mod_message_175 : decode prog_13_method_16_code 175 = .ok (.if_icmp .ne (7), 3) := by decide +kernel
theorem d_Mod_message_178 : decode prog_13_method_16_code 178 = .ok (.iconst 1, 1) := by decide +kernel
theorem d_Mod_message_179 : decode prog_13_method_16_code 179 = .ok (.goto (4), 3) := by decide +kernel
theorem d_Mod_message_182 : decode prog_13_method_16_code 182 = .ok (.iconst 0, 1) := by decide +kernel
theorem d_Mod_message_183 : decode prog_13_method_16_code 183 = .ok (.iconst 2, 1) := by decide +kernel
theorem d_Mod_message_184 : decode prog_13_method_16_code 184 = .ok (.invokevirtual 130, 3) := by decide +kernel
theorem d_Mod_message_187 : decode prog_13_method_16_code 187 = .ok (.aload_n 0, 1) := by decide +kernel
theorem d_Mod_message_188 : decode prog_13_method_16_code 188 = .ok (.iload_n 1, 1) := by decide +kernel
theorem d_Mod_message_189 : decode prog_13_method_16_code 189 = .ok (.iconst 3, 1) := by decide +kernel
theorem d_Mod_message_190 : decode prog_13_method_16_code 190 = .ok (.if_icmp .ne (12), 3) := by decide +kernel
theorem d_Mod_message_193 : decode prog_13_method_16_code 193 = .ok (.aload_n 0, 1) := by decide +kernel
theorem d_Mod_message_194 : decode prog_13_method_16_code 194 = .ok (.getfield 54, 3) := by decide +kernel
theorem d_Mod_message_197 : decode prog_13_method_16_code 197 = .ok (.iconst 1, 1) := by decide +kernel
theorem d_Mod_message_198 : decode prog_13_method_16_code 198 = .ok (.baload, 1) := by decide +kernel
theorem d_Mod_message_199 : decode prog_13_method_16_code 199 = .ok (.ifCond .eq (7), 3) := by decide +kernel
theorem d_Mod_message_202 : decode prog_13_method_16_code 202 = .ok (.iconst 1, 1) := by decide +kernel
theorem d_Mod_message_203 : decode prog_13_method_16_code 203 = .ok (.goto (4), 3) := by decide +kernel
theorem d_Mod_message_206 : decode prog_13_method_16_code 206 = .ok (.iconst 0, 1) := by decide +kernel
theorem d_Mod_message_207 : decode prog_13_method_16_code 207 = .ok (.bipush (8), 2) := by decide +kernel
theorem d_Mod_message_209 : decode prog_13_method_16_code 209 = .ok (.invokevirtual 130, 3) := by decide +kernel
theorem d_Mod_message_212 : decode prog_13_method_16_code 212 = .ok (.aload_n 0, 1) := by decide +kernel
theorem d_Mod_message_213 : decode prog_13_method_16_code 213 = .ok (.iload_n 1, 1) := by decide +kernel
theorem d_Mod_message_214 : decode prog_13_method_16_code 214 = .ok (.bipush (24), 2) := by decide +kernel
theorem d_Mod_message_216 : decode prog_13_method_16_code 216 = .ok (.if_icmp .ne (12), 3) := by decide +kernel
theorem d_Mod_message_219 : decode prog_13_method_16_code 219 = .ok (.aload_n 0, 1) := by decide +kernel
theorem d_Mod_message_220 : decode prog_13_method_16_code 220 = .ok (.getfield 54, 3) := by decide +kernel
theorem d_Mod_message_223 : decode prog_13_method_16_code 223 = .ok (.iconst 1, 1) := by decide +kernel
theorem d_Mod_message_224 : decode prog_13_method_16_code 224 = .ok (.baload, 1) := by decide +kernel
theorem d_Mod_message_225 : decode prog_13_method_16_code 225 = .ok (.ifCond .ne (7), 3) := by decide +kernel
theorem d_Mod_message_228 : decode prog_13_method_16_code 228 = .ok (.iconst 1, 1) := by decide +kernel
theorem d_Mod_message_229 : decode prog_13_method_16_code 229 = .ok (.goto (4), 3) := by decide +kernel
theorem d_Mod_message_232 : decode prog_13_method_16_code 232 = .ok (.iconst 0, 1) := by decide +kernel
theorem d_Mod_message_233 : decode prog_13_method_16_code 233 = .ok (.bipush (8), 2) := by decide +kernel
theorem d_Mod_message_235 : decode prog_13_method_16_code 235 = .ok (.invokevirtual 130, 3) := by decide +kernel
theorem d_Mod_message_238 : decode prog_13_method_16_code 238 = .ok (.aload_n 0, 1) := by decide +kernel
theorem d_Mod_message_239 : decode prog_13_method_16_code 239 = .ok (.aload_n 0, 1) := by decide +kernel
theorem d_Mod_message_240 : decode prog_13_method_16_code 240 = .ok (.getfield 81, 3) := by decide +kernel
theorem d_Mod_message_243 : decode prog_13_method_16_code 243 = .ok (.bipush (6), 2) := by decide +kernel
theorem d_Mod_message_245 : decode prog_13_method_16_code 245 = .ok (.if_icmp .eq (21), 3) := by decide +kernel
theorem d_Mod_message_248 : decode prog_13_method_16_code 248 = .ok (.aload_n 0, 1) := by decide +kernel
theorem d_Mod_message_249 : decode prog_13_method_16_code 249 = .ok (.getfield 81, 3) := by decide +kernel
theorem d_Mod_message_252 : decode prog_13_method_16_code 252 = .ok (.iconst 4, 1) := by decide +kernel
theorem d_Mod_message_253 : decode prog_13_method_16_code 253 = .ok (.if_icmp .ne (9), 3) := by decide +kernel
theorem d_Mod_message_256 : decode prog_13_method_16_code 256 = .ok (.iload_n 1, 1) := by decide +kernel
theorem d_Mod_message_257 : decode prog_13_method_16_code 257 = .ok (.bipush (16), 2) := by decide +kernel
theorem d_Mod_message_259 : decode prog_13_method_16_code 259 = .ok (.if_icmp .ne (7), 3) := by decide +kernel
theorem d_Mod_message_262 : decode prog_13_method_16_code 262 = .ok (.iconst 1, 1) := by decide +kernel
theorem d_Mod_message_263 : decode prog_13_method_16_code 263 = .ok (.goto (4), 3) := by decide +kernel
theorem d_Mod_message_266 : decode prog_13_method_16_code 266 = .ok (.iconst 0, 1) := by decide +kernel
theorem d_Mod_message_267 : decode prog_13_method_16_code 267 = .ok (.bipush (9), 2) := by decide +kernel
theorem d_Mod_message_269 : decode prog_13_method_16_code 269 = .ok (.invokevirtual 130, 3) := by decide +kernel
theorem d_Mod_message_272 : decode prog_13_method_16_code 272 = .ok (.aload_n 0, 1) := by decide +kernel
theorem d_Mod_message_273 : decode prog_13_method_16_code 273 = .ok (.iload_n 1, 1) := by decide +kernel
theorem d_Mod_message_274 : decode prog_13_method_16_code 274 = .ok (.bipush (9), 2) := by decide +kernel
theorem d_Mod_message_276 : decode prog_13_method_16_code 276 = .ok (.if_icmp .ne (10), 3) := by decide +kernel
theorem d_Mod_message_279 : decode prog_13_method_16_code 279 = .ok (.aload_n 0, 1) := by decide +kernel
theorem d_Mod_message_280 : decode prog_13_method_16_code 280 = .ok (.getfield 88, 3) := by decide +kernel
theorem d_Mod_message_283 : decode prog_13_method_16_code 283 = .ok (.ifCond .eq (7), 3) := by decide +kernel
theorem d_Mod_message_286 : decode prog_13_method_16_code 286 = .ok (.iconst 1, 1) := by decide +kernel
theorem d_Mod_message_287 : decode prog_13_method_16_code 287 = .ok (.goto (4), 3) := by decide +kernel
theorem d_Mod_message_290 : decode prog_13_method_16_code 290 = .ok (.iconst 0, 1) := by decide +kernel
theorem d_Mod_message_291 : decode prog_13_method_16_code 291 = .ok (.bipush (10), 2) := by decide +kernel
theorem d_Mod_message_293 : decode prog_13_method_16_code 293 = .ok (.invokevirtual 130, 3) := by decide +kernel
theorem d_Mod_message_296 : decode prog_13_method_16_code 296 = .ok (.aload_n 0, 1) := by decide +kernel
theorem d_Mod_message_297 : decode prog_13_method_16_code 297 = .ok (.getfield 117, 3) := by decide +kernel
theorem d_Mod_message_300 : decode prog_13_method_16_code 300 = .ok (.ifCond .ne (61), 3) := by decide +kernel
theorem d_Mod_message_303 : decode prog_13_method_16_code 303 = .ok (.iload_n 1, 1) := by decide +kernel
theorem d_Mod_message_304 : decode prog_13_method_16_code 304 = .ok (.bipush (9), 2) := by decide +kernel
theorem d_Mod_message_306 : decode prog_13_method_16_code 306 = .ok (.if_icmp .ne (55), 3) := by decide +kernel
theorem d_Mod_message_309 : decode prog_13_method_16_code 309 = .ok (.aload_n 0, 1) := by decide +kernel
theorem d_Mod_message_310 : decode prog_13_method_16_code 310 = .ok (.iload 4, 2) := by decide +kernel
theorem d_Mod_message_312 : decode prog_13_method_16_code 312 = .ok (.aload_n 0, 1) := by decide +kernel
theorem d_Mod_message_313 : decode prog_13_method_16_code 313 = .ok (.getfield 151, 3) := by decide +kernel
theorem d_Mod_message_316 : decode prog_13_method_16_code 316 = .ok (.if_icmp .gt (7), 3) := by decide +kernel
theorem d_Mod_message_319 : decode prog_13_method_16_code 319 = .ok (.iconst 1, 1) := by decide +kernel
theorem d_Mod_message_320 : decode prog_13_method_16_code 320 = .ok (.goto (4), 3) := by decide +kernel
theorem d_Mod_message_323 : decode prog_13_method_16_code 323 = .ok (.iconst 0, 1) := by decide +kernel
theorem d_Mod_message_324 : decode prog_13_method_16_code 324 = .ok (.bipush (11), 2) := by decide +kernel
theorem d_Mod_message_326 : decode prog_13_method_16_code 326 = .ok (.invokevirtual 130, 3) := by decide +kernel
theorem d_Mod_message_329 : decode prog_13_method_16_code 329 = .ok (.aload_n 0, 1) := by decide +kernel
theorem d_Mod_message_330 : decode prog_13_method_16_code 330 = .ok (.aload_n 0, 1) := by decide +kernel
theorem d_Mod_message_331 : decode prog_13_method_16_code 331 = .ok (.invokevirtual 154, 3) := by decide +kernel
theorem d_Mod_message_334 : decode prog_13_method_16_code 334 = .ok (.ifCond .eq (17), 3) := by decide +kernel
theorem d_Mod_message_337 : decode prog_13_method_16_code 337 = .ok (.aload_n 0, 1) := by decide +kernel
theorem d_Mod_message_338 : decode prog_13_method_16_code 338 = .ok (.aload_n 0, 1) := by decide +kernel
theorem d_Mod_message_339 : decode prog_13_method_16_code 339 = .ok (.getfield 158, 3) := by decide +kernel
theorem d_Mod_message_342 : decode prog_13_method_16_code 342 = .ok (.iload 4, 2) := by decide +kernel
theorem d_Mod_message_344 : decode prog_13_method_16_code 344 = .ok (.invokevirtual 161, 3) := by decide +kernel
theorem d_Mod_message_347 : decode prog_13_method_16_code 347 = .ok (.iconst 3, 1) := by decide +kernel
theorem d_Mod_message_348 : decode prog_13_method_16_code 348 = .ok (.if_icmp .ge (7), 3) := by decide +kernel
theorem d_Mod_message_351 : decode prog_13_method_16_code 351 = .ok (.iconst 1, 1) := by decide +kernel
theorem d_Mod_message_352 : decode prog_13_method_16_code 352 = .ok (.goto (4), 3) := by decide +kernel
theorem d_Mod_message_355 : decode prog_13_method_16_code 355 = .ok (.iconst 0, 1) := by decide +kernel
theorem d_Mod_message_356 : decode prog_13_method_16_code 356 = .ok (.bipush (11), 2) := by decide +kernel
theorem d_Mod_message_358 : decode prog_13_method_16_code 358 = .ok (.invokevirtual 130, 3) := by decide +kernel
theorem d_Mod_message_361 : decode prog_13_method_16_code 361 = .ok (.aload_n 0, 1) := by decide +kernel
theorem d_Mod_message_362 : decode prog_13_method_16_code 362 = .ok (.getfield 117, 3) := by decide +kernel
theorem d_Mod_message_365 : decode prog_13_method_16_code 365 = .ok (.ifCond .ne (22), 3) := by decide +kernel
theorem d_Mod_message_368 : decode prog_13_method_16_code 368 = .ok (.aload_n 0, 1) := by decide +kernel
theorem d_Mod_message_369 : decode prog_13_method_16_code 369 = .ok (.getfield 54, 3) := by decide +kernel
theorem d_Mod_message_372 : decode prog_13_method_16_code 372 = .ok (.iconst 4, 1) := by decide +kernel
theorem d_Mod_message_373 : decode prog_13_method_16_code 373 = .ok (.baload, 1) := by decide +kernel
theorem d_Mod_message_374 : decode prog_13_method_16_code 374 = .ok (.ifCond .eq (13), 3) := by decide +kernel
theorem d_Mod_message_377 : decode prog_13_method_16_code 377 = .ok (.aload_n 0, 1) := by decide +kernel
theorem d_Mod_message_378 : decode prog_13_method_16_code 378 = .ok (.aload_n 0, 1) := by decide +kernel
theorem d_Mod_message_379 : decode prog_13_method_16_code 379 = .ok (.invokevirtual 165, 3) := by decide +kernel
theorem d_Mod_message_382 : decode prog_13_method_16_code 382 = .ok (.bipush (12), 2) := by decide +kernel
theorem d_Mod_message_384 : decode prog_13_method_16_code 384 = .ok (.invokevirtual 130, 3) := by decide +kernel
theorem d_Mod_message_387 : decode prog_13_method_16_code 387 = .ok (.aload_n 0, 1) := by decide +kernel
theorem d_Mod_message_388 : decode prog_13_method_16_code 388 = .ok (.iconst 0, 1) := by decide +kernel
theorem d_Mod_message_389 : decode prog_13_method_16_code 389 = .ok (.putfield 114, 3) := by decide +kernel
theorem d_Mod_message_392 : decode prog_13_method_16_code 392 = .ok (.aload_n 0, 1) := by decide +kernel
theorem d_Mod_message_393 : decode prog_13_method_16_code 393 = .ok (.getfield 117, 3) := by decide +kernel
theorem d_Mod_message_396 : decode prog_13_method_16_code 396 = .ok (.ifCond .eq (15), 3) := by decide +kernel
theorem d_Mod_message_399 : decode prog_13_method_16_code 399 = .ok (.aload_n 0, 1) := by decide +kernel
theorem d_Mod_message_400 : decode prog_13_method_16_code 400 = .ok (.iconst 4, 1) := by decide +kernel
theorem d_Mod_message_401 : decode prog_13_method_16_code 401 = .ok (.aload_n 0, 1) := by decide +kernel
theorem d_Mod_message_402 : decode prog_13_method_16_code 402 = .ok (.getfield 117, 3) := by decide +kernel
theorem d_Mod_message_405 : decode prog_13_method_16_code 405 = .ok (.invokevirtual 84, 3) := by decide +kernel
theorem d_Mod_message_408 : decode prog_13_method_16_code 408 = .ok (.goto (21), 3) := by decide +kernel
theorem d_Mod_message_411 : decode prog_13_method_16_code 411 = .ok (.aload_n 0, 1) := by decide +kernel
theorem d_Mod_message_412 : decode prog_13_method_16_code 412 = .ok (.iconst 3, 1) := by decide +kernel
theorem d_Mod_message_413 : decode prog_13_method_16_code 413 = .ok (.iload_n 1, 1) := by decide +kernel
theorem d_Mod_message_414 : decode prog_13_method_16_code 414 = .ok (.invokevirtual 84, 3) := by decide +kernel
theorem d_Mod_message_417 : decode prog_13_method_16_code 417 = .ok (.aload_n 0, 1) := by decide +kernel
theorem d_Mod_message_418 : decode prog_13_method_16_code 418 = .ok (.iload_n 3, 1) := by decide +kernel
theorem d_Mod_message_419 : decode prog_13_method_16_code 419 = .ok (.putfield 47, 3) := by decide +kernel
theorem d_Mod_message_422 : decode prog_13_method_16_code 422 = .ok (.aload_n 0, 1) := by decide +kernel
theorem d_Mod_message_423 : decode prog_13_method_16_code 423 = .ok (.iload_n 1, 1) := by decide +kernel
theorem d_Mod_message_424 : decode prog_13_method_16_code 424 = .ok (.iload 4, 2) := by decide +kernel
theorem d_Mod_message_426 : decode prog_13_method_16_code 426 = .ok (.invokevirtual 168, 3) := by decide +kernel
theorem d_Mod_message_429 : decode prog_13_method_16_code 429 = .ok (.aload_n 0, 1) := by decide +kernel
theorem d_Mod_message_430 : decode prog_13_method_16_code 430 = .ok (.getfield 117, 3) := by decide +kernel
theorem d_Mod_message_433 : decode prog_13_method_16_code 433 = .ok (.ireturn, 1) := by decide +kernel
theorem d_Mod_fits_0 : decode prog_13_method_17_code 0 = .ok (.iconst 0, 1) := by decide +kernel
theorem d_Mod_fits_1 : decode prog_13_method_17_code 1 = .ok (.istore_n 1, 1) := by decide +kernel
theorem d_Mod_fits_2 : decode prog_13_method_17_code 2 = .ok (.iconst 0, 1) := by decide +kernel
theorem d_Mod_fits_3 : decode prog_13_method_17_code 3 = .ok (.istore_n 2, 1) := by decide +kernel
theorem d_Mod_fits_4 : decode prog_13_method_17_code 4 = .ok (.iconst 0, 1) := by decide +kernel
theorem d_Mod_fits_5 : decode prog_13_method_17_code 5 = .ok (.istore_n 3, 1) := by decide +kernel
theorem d_Mod_fits_6 : decode prog_13_method_17_code 6 = .ok (.iload_n 3, 1) := by decide +kernel
theorem d_Mod_fits_7 : decode prog_13_method_17_code 7 = .ok (.aload_n 0, 1) := by decide +kernel
theorem d_Mod_fits_8 : decode prog_13_method_17_code 8 = .ok (.getfield 171, 3) := by decide +kernel
theorem d_Mod_fits_11 : decode prog_13_method_17_code 11 = .ok (.if_icmp .ge (85), 3) := by decide +kernel
theorem d_Mod_fits_14 : decode prog_13_method_17_code 14 = .ok (.aload_n 0, 1) := by decide +kernel
theorem d_Mod_fits_15 : decode prog_13_method_17_code 15 = .ok (.getfield 54, 3) := by decide +kernel
theorem d_Mod_fits_18 : decode prog_13_method_17_code 18 = .ok (.iconst 5, 1) := by decide +kernel
theorem d_Mod_fits_19 : decode prog_13_method_17_code 19 = .ok (.baload, 1) := by decide +kernel
theorem d_Mod_fits_20 : decode prog_13_method_17_code 20 = .ok (.ifCond .eq (19), 3) := by decide +kernel
theorem d_Mod_fits_23 : decode prog_13_method_17_code 23 = .ok (.aload_n 0, 1) := by decide +kernel
theorem d_Mod_fits_24 : decode prog_13_method_17_code 24 = .ok (.getfield 35, 3) := by decide +kernel
theorem d_Mod_fits_27 : decode prog_13_method_17_code 27 = .ok (.iload_n 3, 1) := by decide +kernel
theorem d_Mod_fits_28 : decode prog_13_method_17_code 28 = .ok (.iaload, 1) := by decide +kernel
theorem d_Mod_fits_29 : decode prog_13_method_17_code 29 = .ok (.aload_n 0, 1) := by decide +kernel
theorem d_Mod_fits_30 : decode prog_13_method_17_code 30 = .ok (.iconst 5, 1) := by decide +kernel
theorem d_Mod_fits_31 : decode prog_13_method_17_code 31 = .ok (.iconst 0, 1) := by decide +kernel
theorem d_Mod_fits_32 : decode prog_13_method_17_code 32 = .ok (.iconst 0, 1) := by decide +kernel
theorem d_Mod_fits_33 : decode prog_13_method_17_code 33 = .ok (.invokevirtual 141, 3) := by decide +kernel
theorem d_Mod_fits_36 : decode prog_13_method_17_code 36 = .ok (.if_icmp .eq (7), 3) := by decide +kernel
theorem d_Mod_fits_39 : decode prog_13_method_17_code 39 = .ok (.iconst 1, 1) := by decide +kernel
theorem d_Mod_fits_40 : decode prog_13_method_17_code 40 = .ok (.goto (4), 3) := by decide +kernel
theorem d_Mod_fits_43 : decode prog_13_method_17_code 43 = .ok (.iconst 0, 1) := by decide +kernel
theorem d_Mod_fits_44 : decode prog_13_method_17_code 44 = .ok (.istore 4, 2) := by decide +kernel
theorem d_Mod_fits_46 : decode prog_13_method_17_code 46 = .ok (.iload_n 1, 1) := by decide +kernel
theorem d_Mod_fits_47 : decode prog_13_method_17_code 47 = .ok (.iload 4, 2) := by decide +kernel
theorem d_Mod_fits_49 : decode prog_13_method_17_code 49 = .ok (.ifCond .eq (7), 3) := by decide +kernel
theorem d_Mod_fits_52 : decode prog_13_method_17_code 52 = .ok (.iconst 1, 1) := by decide +kernel
theorem d_Mod_fits_53 : decode prog_13_method_17_code 53 = .ok (.goto (4), 3) := by decide +kernel
theorem d_Mod_fits_56 : decode prog_13_method_17_code 56 = .ok (.iconst 0, 1) := by decide +kernel
theorem d_Mod_fits_57 : decode prog_13_method_17_code 57 = .ok (.iadd, 1) := by decide +kernel
theorem d_Mod_fits_58 : decode prog_13_method_17_code 58 = .ok (.istore_n 1, 1) := by decide +kernel
theorem d_Mod_fits_59 : decode prog_13_method_17_code 59 = .ok (.iload_n 2, 1) := by decide +kernel
theorem d_Mod_fits_60 : decode prog_13_method_17_code 60 = .ok (.ifCond .ne (24), 3) := by decide +kernel
theorem d_Mod_fits_63 : decode prog_13_method_17_code 63 = .ok (.iload 4, 2) := by decide +kernel
theorem d_Mod_fits_65 : decode prog_13_method_17_code 65 = .ok (.ifCond .eq (23), 3) := by decide +kernel
theorem d_Mod_fits_68 : decode prog_13_method_17_code 68 = .ok (.aload_n 0, 1) := by decide +kernel
theorem d_Mod_fits_69 : decode prog_13_method_17_code 69 = .ok (.getfield 35, 3) := by decide +kernel
theorem d_Mod_fits_72 : decode prog_13_method_17_code 72 = .ok (.iload_n 3, 1) := by decide +kernel
theorem d_Mod_fits_73 : decode prog_13_method_17_code 73 = .ok (.iaload, 1) := by decide +kernel
theorem d_Mod_fits_74 : decode prog_13_method_17_code 74 = .ok (.aload_n 0, 1) := by decide +kernel
theorem d_Mod_fits_75 : decode prog_13_method_17_code 75 = .ok (.iconst 4, 1) := by decide +kernel
theorem d_Mod_fits_76 : decode prog_13_method_17_code 76 = .ok (.iconst 0, 1) := by decide +kernel
theorem d_Mod_fits_77 : decode prog_13_method_17_code 77 = .ok (.iconst 0, 1) := by decide +kernel
theorem d_Mod_fits_78 : decode prog_13_method_17_code 78 = .ok (.invokevirtual 141, 3) := by decide +kernel
theorem d_Mod_fits_81 : decode prog_13_method_17_code 81 = .ok (.if_icmp .ne (7), 3) := by decide +kernel
theorem d_Mod_fits_84 : decode prog_13_method_17_code 84 = .ok (.iconst 1, 1) := by decide +kernel
theorem d_Mod_fits_85 : decode prog_13_method_17_code 85 = .ok (.goto (4), 3) := by decide +kernel
theorem d_Mod_fits_88 : decode prog_13_method_17_code 88 = .ok (.iconst 0, 1) := by decide +kernel
theorem d_Mod_fits_89 : decode prog_13_method_17_code 89 = .ok (.istore_n 2, 1) := by decide +kernel
theorem d_Mod_fits_90 : decode prog_13_method_17_code 90 = .ok (.iinc 3 (1), 3) := by decide +kernel
theorem d_Mod_fits_93 : decode prog_13_method_17_code 93 = .ok (.goto (-87), 3) := by decide +kernel
theorem d_Mod_fits_96 : decode prog_13_method_17_code 96 = .ok (.iload_n 2, 1) := by decide +kernel
theorem d_Mod_fits_97 : decode prog_13_method_17_code 97 = .ok (.ifCond .ne (9), 3) := by decide +kernel
theorem d_Mod_fits_100 : decode prog_13_method_17_code 100 = .ok (.iload_n 1, 1) := by decide +kernel
theorem d_Mod_fits_101 : decode prog_13_method_17_code 101 = .ok (.bipush (6), 2) := by decide +kernel
theorem d_Mod_fits_103 : decode prog_13_method_17_code 103 = .ok (.if_icmp .ge (7), 3) := by decide +kernel
theorem d_Mod_fits_106 : decode prog_13_method_17_code 106 = .ok (.iconst 1, 1) := by decide +kernel
theorem d_Mod_fits_107 : decode prog_13_method_17_code 107 = .ok (.goto (4), 3) := by decide +kernel
theorem d_Mod_fits_110 : decode prog_13_method_17_code 110 = .ok (.iconst 0, 1) := by decide +kernel
theorem d_Mod_fits_111 : decode prog_13_method_17_code 111 = .ok (.ireturn, 1) := by decide +kernel
theorem d_Mod_drop_0 : decode prog_13_method_18_code 0 = .ok (.iconst 0, 1) := by decide +kernel
theorem d_Mod_drop_1 : decode prog_13_method_18_code 1 = .ok (.istore_n 2, 1) := by decide +kernel
theorem d_Mod_drop_2 : decode prog_13_method_18_code 2 = .ok (.iconst 0, 1) := by decide +kernel
theorem d_Mod_drop_3 : decode prog_13_method_18_code 3 = .ok (.istore_n 3, 1) := by decide +kernel
theorem d_Mod_drop_4 : decode prog_13_method_18_code 4 = .ok (.iload_n 3, 1) := by decide +kernel
theorem d_Mod_drop_5 : decode prog_13_method_18_code 5 = .ok (.aload_n 0, 1) := by decide +kernel
theorem d_Mod_drop_6 : decode prog_13_method_18_code 6 = .ok (.getfield 171, 3) := by decide +kernel
theorem d_Mod_drop_9 : decode prog_13_method_18_code 9 = .ok (.if_icmp .ge (75), 3) := by decide +kernel
theorem d_Mod_drop_12 : decode prog_13_method_18_code 12 = .ok (.aload_n 0, 1) := by decide +kernel
theorem d_Mod_drop_13 : decode prog_13_method_18_code 13 = .ok (.getfield 35, 3) := by decide +kernel
theorem d_Mod_drop_16 : decode prog_13_method_18_code 16 = .ok (.iload_n 2, 1) := by decide +kernel
theorem d_Mod_drop_17 : decode prog_13_method_18_code 17 = .ok (.aload_n 0, 1) := by decide +kernel
theorem d_Mod_drop_18 : decode prog_13_method_18_code 18 = .ok (.getfield 35, 3) := by decide +kernel
theorem d_Mod_drop_21 : decode prog_13_method_18_code 21 = .ok (.iload_n 3, 1) := by decide +kernel
theorem d_Mod_drop_22 : decode prog_13_method_18_code 22 = .ok (.iaload, 1) := by decide +kernel
theorem d_Mod_drop_23 : decode prog_13_method_18_code 23 = .ok (.iastore, 1) := by decide +kernel
theorem d_Mod_drop_24 : decode prog_13_method_18_code 24 = .ok (.aload_n 0, 1) := by decide +kernel
theorem d_Mod_drop_25 : decode prog_13_method_18_code 25 = .ok (.getfield 38, 3) := by decide +kernel
theorem d_Mod_drop_28 : decode prog_13_method_18_code 28 = .ok (.iload_n 2, 1) := by decide +kernel
theorem d_Mod_drop_29 : decode prog_13_method_18_code 29 = .ok (.aload_n 0, 1) := by decide +kernel
theorem d_Mod_drop_30 : decode prog_13_method_18_code 30 = .ok (.getfield 38, 3) := by decide +kernel
theorem d_Mod_drop_33 : decode prog_13_method_18_code 33 = .ok (.iload_n 3, 1) := by decide +kernel
theorem d_Mod_drop_34 : decode prog_13_method_18_code 34 = .ok (.iaload, 1) := by decide +kernel
theorem d_Mod_drop_35 : decode prog_13_method_18_code 35 = .ok (.iastore, 1) := by decide +kernel
theorem d_Mod_drop_36 : decode prog_13_method_18_code 36 = .ok (.aload_n 0, 1) := by decide +kernel
theorem d_Mod_drop_37 : decode prog_13_method_18_code 37 = .ok (.getfield 41, 3) := by decide +kernel
theorem d_Mod_drop_40 : decode prog_13_method_18_code 40 = .ok (.iload_n 2, 1) := by decide +kernel
theorem d_Mod_drop_41 : decode prog_13_method_18_code 41 = .ok (.aload_n 0, 1) := by decide +kernel
theorem d_Mod_drop_42 : decode prog_13_method_18_code 42 = .ok (.getfield 41, 3) := by decide +kernel
theorem d_Mod_drop_45 : decode prog_13_method_18_code 45 = .ok (.iload_n 3, 1) := by decide +kernel
theorem d_Mod_drop_46 : decode prog_13_method_18_code 46 = .ok (.iaload, 1) := by decide +kernel
theorem d_Mod_drop_47 : decode prog_13_method_18_code 47 = .ok (.iastore, 1) := by decide +kernel
theorem d_Mod_drop_48 : decode prog_13_method_18_code 48 = .ok (.aload_n 0, 1) := by decide +kernel
theorem d_Mod_drop_49 : decode prog_13_method_18_code 49 = .ok (.getfield 44, 3) := by decide +kernel
theorem d_Mod_drop_52 : decode prog_13_method_18_code 52 = .ok (.iload_n 2, 1) := by decide +kernel
theorem d_Mod_drop_53 : decode prog_13_method_18_code 53 = .ok (.aload_n 0, 1) := by decide +kernel
theorem d_Mod_drop_54 : decode prog_13_method_18_code 54 = .ok (.getfield 44, 3) := by decide +kernel
theorem d_Mod_drop_57 : decode prog_13_method_18_code 57 = .ok (.iload_n 3, 1) := by decide +kernel
theorem d_Mod_drop_58 : decode prog_13_method_18_code 58 = .ok (.iaload, 1) := by decide +kernel
theorem d_Mod_drop_59 : decode prog_13_method_18_code 59 = .ok (.iastore, 1) := by decide +kernel
theorem d_Mod_drop_60 : decode prog_13_method_18_code 60 = .ok (.iload_n 2, 1) := by decide +kernel
theorem d_Mod_drop_61 : decode prog_13_method_18_code 61 = .ok (.aload_n 0, 1) := by decide +kernel
theorem d_Mod_drop_62 : decode prog_13_method_18_code 62 = .ok (.getfield 35, 3) := by decide +kernel
theorem d_Mod_drop_65 : decode prog_13_method_18_code 65 = .ok (.iload_n 3, 1) := by decide +kernel
theorem d_Mod_drop_66 : decode prog_13_method_18_code 66 = .ok (.iaload, 1) := by decide +kernel
theorem d_Mod_drop_67 : decode prog_13_method_18_code 67 = .ok (.iload_n 1, 1) := by decide +kernel
theorem d_Mod_drop_68 : decode prog_13_method_18_code 68 = .ok (.if_icmp .ne (7), 3) := by decide +kernel
theorem d_Mod_drop_71 : decode prog_13_method_18_code 71 = .ok (.iconst 0, 1) := by decide +kernel
theorem d_Mod_drop_72 : decode prog_13_method_18_code 72 = .ok (.goto (4), 3) := by decide +kernel
theorem d_Mod_drop_75 : decode prog_13_method_18_code 75 = .ok (.iconst 1, 1) := by decide +kernel
theorem d_Mod_drop_76 : decode prog_13_method_18_code 76 = .ok (.iadd, 1) := by decide +kernel
theorem d_Mod_drop_77 : decode prog_13_method_18_code 77 = .ok (.istore_n 2, 1) := by decide +kernel
theorem d_Mod_drop_78 : decode prog_13_method_18_code 78 = .ok (.iinc 3 (1), 3) := by decide +kernel
theorem d_Mod_drop_81 : decode prog_13_method_18_code 81 = .ok (.goto (-77), 3) := by decide +kernel
theorem d_Mod_drop_84 : decode prog_13_method_18_code 84 = .ok (.aload_n 0, 1) := by decide +kernel
theorem d_Mod_drop_85 : decode prog_13_method_18_code 85 = .ok (.iload_n 2, 1) := by decide +kernel
theorem d_Mod_drop_86 : decode prog_13_method_18_code 86 = .ok (.putfield 171, 3) := by decide +kernel
theorem d_Mod_drop_89 : decode prog_13_method_18_code 89 = .ok (.return_, 1) := by decide +kernel
theorem d_Mod_take_0 : decode prog_13_method_19_code 0 = .ok (.iload_n 1, 1) := by decide +kernel
theorem d_Mod_take_1 : decode prog_13_method_19_code 1 = .ok (.bipush (16), 2) := by decide +kernel
theorem d_Mod_take_3 : decode prog_13_method_19_code 3 = .ok (.if_icmp .ne (8), 3) := by decide +kernel
theorem d_Mod_take_6 : decode prog_13_method_19_code 6 = .ok (.aload_n 0, 1) := by decide +kernel
theorem d_Mod_take_7 : decode prog_13_method_19_code 7 = .ok (.invokevirtual 174, 3) := by decide +kernel
theorem d_Mod_take_10 : decode prog_13_method_19_code 10 = .ok (.return_, 1) := by decide +kernel
theorem d_Mod_take_11 : decode prog_13_method_19_code 11 = .ok (.iload_n 1, 1) := by decide +kernel
theorem d_Mod_take_12 : decode prog_13_method_19_code 12 = .ok (.bipush (9), 2) := by decide +kernel
theorem d_Mod_take_14 : decode prog_13_method_19_code 14 = .ok (.if_icmp .ne (9), 3) := by decide +kernel
theorem d_Mod_take_17 : decode prog_13_method_19_code 17 = .ok (.aload_n 0, 1) := by decide +kernel
theorem d_Mod_take_18 : decode prog_13_method_19_code 18 = .ok (.iload_n 2, 1) := by decide +kernel
theorem d_Mod_take_19 : decode prog_13_method_19_code 19 = .ok (.putfield 151, 3) := by decide +kernel
theorem d_Mod_take_22 : decode prog_13_method_19_code 22 = .ok (.return_, 1) := by decide +kernel
theorem d_Mod_take_23 : decode prog_13_method_19_code 23 = .ok (.aload_n 0, 1) := by decide +kernel
theorem d_Mod_take_24 : decode prog_13_method_19_code 24 = .ok (.getfield 54, 3) := by decide +kernel
theorem d_Mod_take_27 : decode prog_13_method_19_code 27 = .ok (.iconst 5, 1) := by decide +kernel
theorem d_Mod_take_28 : decode prog_13_method_19_code 28 = .ok (.baload, 1) := by decide +kernel
theorem d_Mod_take_29 : decode prog_13_method_19_code 29 = .ok (.ifCond .eq (14), 3) := by decide +kernel
theorem d_Mod_take_32 : decode prog_13_method_19_code 32 = .ok (.aload_n 0, 1) := by decide +kernel
theorem d_Mod_take_33 : decode prog_13_method_19_code 33 = .ok (.aload_n 0, 1) := by decide +kernel
theorem d_Mod_take_34 : decode prog_13_method_19_code 34 = .ok (.iconst 5, 1) := by decide +kernel
theorem d_Mod_take_35 : decode prog_13_method_19_code 35 = .ok (.iconst 0, 1) := by decide +kernel
theorem d_Mod_take_36 : decode prog_13_method_19_code 36 = .ok (.iconst 0, 1) := by decide +kernel
theorem d_Mod_take_37 : decode prog_13_method_19_code 37 = .ok (.invokevirtual 141, 3) := by decide +kernel
theorem d_Mod_take_40 : decode prog_13_method_19_code 40 = .ok (.invokevirtual 177, 3) := by decide +kernel
theorem d_Mod_take_43 : decode prog_13_method_19_code 43 = .ok (.aload_n 0, 1) := by decide +kernel
theorem d_Mod_take_44 : decode prog_13_method_19_code 44 = .ok (.getfield 54, 3) := by decide +kernel
theorem d_Mod_take_47 : decode prog_13_method_19_code 47 = .ok (.iconst 4, 1) := by decide +kernel
theorem d_Mod_take_48 : decode prog_13_method_19_code 48 = .ok (.baload, 1) := by decide +kernel
theorem d_Mod_take_49 : decode prog_13_method_19_code 49 = .ok (.ifCond .eq (88), 3) := by decide +kernel
theorem d_Mod_take_52 : decode prog_13_method_19_code 52 = .ok (.aload_n 0, 1) := by decide +kernel
theorem d_Mod_take_53 : decode prog_13_method_19_code 53 = .ok (.aload_n 0, 1) := by decide +kernel
theorem d_Mod_take_54 : decode prog_13_method_19_code 54 = .ok (.iconst 4, 1) := by decide +kernel
theorem d_Mod_take_55 : decode prog_13_method_19_code 55 = .ok (.iconst 0, 1) := by decide +kernel
theorem d_Mod_take_56 : decode prog_13_method_19_code 56 = .ok (.iconst 0, 1) := by decide +kernel
theorem d_Mod_take_57 : decode prog_13_method_19_code 57 = .ok (.invokevirtual 141, 3) := by decide +kernel
theorem d_Mod_take_60 : decode prog_13_method_19_code 60 = .ok (.invokevirtual 177, 3) := by decide +kernel
theorem d_Mod_take_63 : decode prog_13_method_19_code 63 = .ok (.aload_n 0, 1) := by decide +kernel
theorem d_Mod_take_64 : decode prog_13_method_19_code 64 = .ok (.getfield 35, 3) := by decide +kernel
theorem d_Mod_take_67 : decode prog_13_method_19_code 67 = .ok (.aload_n 0, 1) := by decide +kernel
theorem d_Mod_take_68 : decode prog_13_method_19_code 68 = .ok (.getfield 171, 3) := by decide +kernel
theorem d_Mod_take_71 : decode prog_13_method_19_code 71 = .ok (.aload_n 0, 1) := by decide +kernel
theorem d_Mod_take_72 : decode prog_13_method_19_code 72 = .ok (.iconst 4, 1) := by decide +kernel
theorem d_Mod_take_73 : decode prog_13_method_19_code 73 = .ok (.iconst 0, 1) := by decide +kernel
theorem d_Mod_take_74 : decode prog_13_method_19_code 74 = .ok (.iconst 0, 1) := by decide +kernel
theorem d_Mod_take_75 : decode prog_13_method_19_code 75 = .ok (.invokevirtual 141, 3) := by decide +kernel
theorem d_Mod_take_78 : decode prog_13_method_19_code 78 = .ok (.iastore, 1) := by decide +kernel
theorem d_Mod_take_79 : decode prog_13_method_19_code 79 = .ok (.aload_n 0, 1) := by decide +kernel
theorem d_Mod_take_80 : decode prog_13_method_19_code 80 = .ok (.getfield 38, 3) := by decide +kernel
theorem d_Mod_take_83 : decode prog_13_method_19_code 83 = .ok (.aload_n 0, 1) := by decide +kernel
theorem d_Mod_take_84 : decode prog_13_method_19_code 84 = .ok (.getfield 171, 3) := by decide +kernel
theorem d_Mod_take_87 : decode prog_13_method_19_code 87 = .ok (.aload_n 0, 1) := by decide +kernel
theorem d_Mod_take_88 : decode prog_13_method_19_code 88 = .ok (.iconst 4, 1) := by decide +kernel
theorem d_Mod_take_89 : decode prog_13_method_19_code 89 = .ok (.iconst 0, 1) := by decide +kernel
theorem d_Mod_take_90 : decode prog_13_method_19_code 90 = .ok (.iconst 1, 1) := by decide +kernel
theorem d_Mod_take_91 : decode prog_13_method_19_code 91 = .ok (.invokevirtual 141, 3) := by decide +kernel
theorem d_Mod_take_94 : decode prog_13_method_19_code 94 = .ok (.iastore, 1) := by decide +kernel
theorem d_Mod_take_95 : decode prog_13_method_19_code 95 = .ok (.aload_n 0, 1) := by decide +kernel
theorem d_Mod_take_96 : decode prog_13_method_19_code 96 = .ok (.getfield 41, 3) := by decide +kernel
theorem d_Mod_take_99 : decode prog_13_method_19_code 99 = .ok (.aload_n 0, 1) := by decide +kernel
theorem d_Mod_take_100 : decode prog_13_method_19_code 100 = .ok (.getfield 171, 3) := by decide +kernel
theorem d_Mod_take_103 : decode prog_13_method_19_code 103 = .ok (.aload_n 0, 1) := by decide +kernel
theorem d_Mod_take_104 : decode prog_13_method_19_code 104 = .ok (.iconst 4, 1) := by decide +kernel
theorem d_Mod_take_105 : decode prog_13_method_19_code 105 = .ok (.iconst 0, 1) := by decide +kernel
theorem d_Mod_take_106 : decode prog_13_method_19_code 106 = .ok (.iconst 2, 1) := by decide +kernel
theorem d_Mod_take_107 : decode prog_13_method_19_code 107 = .ok (.invokevirtual 141, 3) := by decide +kernel
theorem d_Mod_take_110 : decode prog_13_method_19_code 110 = .ok (.iastore, 1) := by decide +kernel
theorem d_Mod_take_111 : decode prog_13_method_19_code 111 = .ok (.aload_n 0, 1) := by decide +kernel
theorem d_Mod_take_112 : decode prog_13_method_19_code 112 = .ok (.getfield 44, 3) := by decide +kernel
theorem d_Mod_take_115 : decode prog_13_method_19_code 115 = .ok (.aload_n 0, 1) := by decide +kernel
theorem d_Mod_take_116 : decode prog_13_method_19_code 116 = .ok (.getfield 171, 3) := by decide +kernel
theorem d_Mod_take_119 : decode prog_13_method_19_code 119 = .ok (.aload_n 0, 1) := by decide +kernel
theorem d_Mod_take_120 : decode prog_13_method_19_code 120 = .ok (.iconst 4, 1) := by decide +kernel
theorem d_Mod_take_121 : decode prog_13_method_19_code 121 = .ok (.iconst 1, 1) := by decide +kernel
theorem d_Mod_take_122 : decode prog_13_method_19_code 122 = .ok (.iconst 0, 1) := by decide +kernel
theorem d_Mod_take_123 : decode prog_13_method_19_code 123 = .ok (.invokevirtual 141, 3) := by decide +kernel
theorem d_Mod_take_126 : decode prog_13_method_19_code 126 = .ok (.iastore, 1) := by decide +kernel
theorem d_Mod_take_127 : decode prog_13_method_19_code 127 = .ok (.aload_n 0, 1) := by decide +kernel
theorem d_Mod_take_128 : decode prog_13_method_19_code 128 = .ok (.dup, 1) := by decide +kernel
theorem d_Mod_take_129 : decode prog_13_method_19_code 129 = .ok (.getfield 171, 3) := by decide +kernel
theorem d_Mod_take_132 : decode prog_13_method_19_code 132 = .ok (.iconst 1, 1) := by decide +kernel
theorem d_Mod_take_133 : decode prog_13_method_19_code 133 = .ok (.iadd, 1) := by decide +kernel
theorem d_Mod_take_134 : decode prog_13_method_19_code 134 = .ok (.putfield 171, 3) := by decide +kernel
theorem d_Mod_take_137 : decode prog_13_method_19_code 137 = .ok (.aload_n 0, 1) := by decide +kernel
theorem d_Mod_take_138 : decode prog_13_method_19_code 138 = .ok (.invokevirtual 180, 3) := by decide +kernel
theorem d_Mod_take_141 : decode prog_13_method_19_code 141 = .ok (.aload_n 0, 1) := by decide +kernel
theorem d_Mod_take_142 : decode prog_13_method_19_code 142 = .ok (.getfield 54, 3) := by decide +kernel
theorem d_Mod_take_145 : decode prog_13_method_19_code 145 = .ok (.iconst 1, 1) := by decide +kernel
theorem d_Mod_take_146 : decode prog_13_method_19_code 146 = .ok (.baload, 1) := by decide +kernel
theorem d_Mod_take_147 : decode prog_13_method_19_code 147 = .ok (.ifCond .eq (41), 3) := by decide +kernel
theorem d_Mod_take_150 : decode prog_13_method_19_code 150 = .ok (.aload_n 0, 1) := by decide +kernel
theorem d_Mod_take_151 : decode prog_13_method_19_code 151 = .ok (.iconst 1, 1) := by decide +kernel
theorem d_Mod_take_152 : decode prog_13_method_19_code 152 = .ok (.putfield 88, 3) := by decide +kernel
theorem d_Mod_take_155 : decode prog_13_method_19_code 155 = .ok (.aload_n 0, 1) := by decide +kernel
theorem d_Mod_take_156 : decode prog_13_method_19_code 156 = .ok (.aload_n 0, 1) := by decide +kernel
theorem d_Mod_take_157 : decode prog_13_method_19_code 157 = .ok (.iconst 1, 1) := by decide +kernel
theorem d_Mod_take_158 : decode prog_13_method_19_code 158 = .ok (.iconst 0, 1) := by decide +kernel
theorem d_Mod_take_159 : decode prog_13_method_19_code 159 = .ok (.iconst 0, 1) := by decide +kernel
theorem d_Mod_take_160 : decode prog_13_method_19_code 160 = .ok (.invokevirtual 141, 3) := by decide +kernel
theorem d_Mod_take_163 : decode prog_13_method_19_code 163 = .ok (.putfield 151, 3) := by decide +kernel
theorem d_Mod_take_166 : decode prog_13_method_19_code 166 = .ok (.aload_n 0, 1) := by decide +kernel
theorem d_Mod_take_167 : decode prog_13_method_19_code 167 = .ok (.aload_n 0, 1) := by decide +kernel
theorem d_Mod_take_168 : decode prog_13_method_19_code 168 = .ok (.iconst 1, 1) := by decide +kernel
theorem d_Mod_take_169 : decode prog_13_method_19_code 169 = .ok (.iconst 0, 1) := by decide +kernel
theorem d_Mod_take_170 : decode prog_13_method_19_code 170 = .ok (.iconst 1, 1) := by decide +kernel
theorem d_Mod_take_171 : decode prog_13_method_19_code 171 = .ok (.invokevirtual 141, 3) := by decide +kernel
theorem d_Mod_take_174 : decode prog_13_method_19_code 174 = .ok (.putfield 183, 3) := by decide +kernel
theorem d_Mod_take_177 : decode prog_13_method_19_code 177 = .ok (.aload_n 0, 1) := by decide +kernel
theorem d_Mod_take_178 : decode prog_13_method_19_code 178 = .ok (.aload_n 0, 1) := by decide +kernel
theorem d_Mod_take_179 : decode prog_13_method_19_code 179 = .ok (.iconst 1, 1) := by decide +kernel
theorem d_Mod_take_180 : decode prog_13_method_19_code 180 = .ok (.iconst 0, 1) := by decide +kernel
theorem d_Mod_take_181 : decode prog_13_method_19_code 181 = .ok (.iconst 2, 1) := by decide +kernel
theorem d_Mod_take_182 : decode prog_13_method_19_code 182 = .ok (.invokevirtual 141, 3) := by decide +kernel
theorem d_Mod_take_185 : decode prog_13_method_19_code 185 = .ok (.putfield 108, 3) := by decide +kernel
theorem d_Mod_take_188 : decode prog_13_method_19_code 188 = .ok (.iload_n 1, 1) := by decide +kernel
theorem d_Mod_take_189 : decode prog_13_method_19_code 189 = .ok (.iconst 3, 1) := by decide +kernel
theorem d_Mod_take_190 : decode prog_13_method_19_code 190 = .ok (.if_icmp .ne (29), 3) := by decide +kernel
theorem d_Mod_take_193 : decode prog_13_method_19_code 193 = .ok (.aload_n 0, 1) := by decide +kernel
theorem d_Mod_take_194 : decode prog_13_method_19_code 194 = .ok (.getfield 92, 3) := by decide +kernel
theorem d_Mod_take_197 : decode prog_13_method_19_code 197 = .ok (.ifCond .le (22), 3) := by decide +kernel
theorem d_Mod_take_200 : decode prog_13_method_19_code 200 = .ok (.aload_n 0, 1) := by decide +kernel
theorem d_Mod_take_201 : decode prog_13_method_19_code 201 = .ok (.getfield 81, 3) := by decide +kernel
theorem d_Mod_take_204 : decode prog_13_method_19_code 204 = .ok (.iconst 1, 1) := by decide +kernel
theorem d_Mod_take_205 : decode prog_13_method_19_code 205 = .ok (.if_icmp .eq (10), 3) := by decide +kernel
theorem d_Mod_take_208 : decode prog_13_method_19_code 208 = .ok (.aload_n 0, 1) := by decide +kernel
theorem d_Mod_take_209 : decode prog_13_method_19_code 209 = .ok (.invokevirtual 154, 3) := by decide +kernel
theorem d_Mod_take_212 : decode prog_13_method_19_code 212 = .ok (.ifCond .eq (7), 3) := by decide +kernel
theorem d_Mod_take_215 : decode prog_13_method_19_code 215 = .ok (.aload_n 0, 1) := by decide +kernel
theorem d_Mod_take_216 : decode prog_13_method_19_code 216 = .ok (.invokevirtual 186, 3) := by decide +kernel
theorem d_Mod_take_219 : decode prog_13_method_19_code 219 = .ok (.return_, 1) := by decide +kernel
theorem d_Mod_lists_0 : decode prog_13_method_20_code 0 = .ok (.aload_n 0, 1) := by decide +kernel
theorem d_Mod_lists_1 : decode prog_13_method_20_code 1 = .ok (.aload_n 0, 1) := by decide +kernel
theorem d_Mod_lists_2 : decode prog_13_method_20_code 2 = .ok (.getfield 54, 3) := by decide +kernel
theorem d_Mod_lists_5 : decode prog_13_method_20_code 5 = .ok (.iconst 0, 1) := by decide +kernel
theorem d_Mod_lists_6 : decode prog_13_method_20_code 6 = .ok (.baload, 1) := by decide +kernel
theorem d_Mod_lists_7 : decode prog_13_method_20_code 7 = .ok (.ifCond .eq (12), 3) := by decide +kernel
theorem d_Mod_lists_10 : decode prog_13_method_20_code 10 = .ok (.aload_n 0, 1) := by decide +kernel
theorem d_Mod_lists_11 : decode prog_13_method_20_code 11 = .ok (.getfield 57, 3) := by decide +kernel
theorem d_Mod_lists_14 : decode prog_13_method_20_code 14 = .ok (.iconst 0, 1) := by decide +kernel
theorem d_Mod_lists_15 : decode prog_13_method_20_code 15 = .ok (.iaload, 1) := by decide +kernel
theorem d_Mod_lists_16 : decode prog_13_method_20_code 16 = .ok (.goto (7), 3) := by decide +kernel
theorem d_Mod_lists_19 : decode prog_13_method_20_code 19 = .ok (.aload_n 0, 1) := by decide +kernel
theorem d_Mod_lists_20 : decode prog_13_method_20_code 20 = .ok (.getfield 98, 3) := by decide +kernel
theorem d_Mod_lists_23 : decode prog_13_method_20_code 23 = .ok (.putfield 98, 3) := by decide +kernel
theorem d_Mod_lists_26 : decode prog_13_method_20_code 26 = .ok (.aload_n 0, 1) := by decide +kernel
theorem d_Mod_lists_27 : decode prog_13_method_20_code 27 = .ok (.aload_n 0, 1) := by decide +kernel
theorem d_Mod_lists_28 : decode prog_13_method_20_code 28 = .ok (.getfield 54, 3) := by decide +kernel
theorem d_Mod_lists_31 : decode prog_13_method_20_code 31 = .ok (.iconst 2, 1) := by decide +kernel
theorem d_Mod_lists_32 : decode prog_13_method_20_code 32 = .ok (.baload, 1) := by decide +kernel
theorem d_Mod_lists_33 : decode prog_13_method_20_code 33 = .ok (.ifCond .eq (12), 3) := by decide +kernel
theorem d_Mod_lists_36 : decode prog_13_method_20_code 36 = .ok (.aload_n 0, 1) := by decide +kernel
theorem d_Mod_lists_37 : decode prog_13_method_20_code 37 = .ok (.getfield 57, 3) := by decide +kernel
theorem d_Mod_lists_40 : decode prog_13_method_20_code 40 = .ok (.iconst 2, 1) := by decide +kernel
theorem d_Mod_lists_41 : decode prog_13_method_20_code 41 = .ok (.iaload, 1) := by decide +kernel
theorem d_Mod_lists_42 : decode prog_13_method_20_code 42 = .ok (.goto (7), 3) := by decide +kernel
theorem d_Mod_lists_45 : decode prog_13_method_20_code 45 = .ok (.aload_n 0, 1) := by decide +kernel
theorem d_Mod_lists_46 : decode prog_13_method_20_code 46 = .ok (.getfield 95, 3) := by decide +kernel
theorem d_Mod_lists_49 : decode prog_13_method_20_code 49 = .ok (.putfield 95, 3) := by decide +kernel
theorem d_Mod_lists_52 : decode prog_13_method_20_code 52 = .ok (.aload_n 0, 1) := by decide +kernel
theorem d_Mod_lists_53 : decode prog_13_method_20_code 53 = .ok (.aload_n 0, 1) := by decide +kernel
theorem d_Mod_lists_54 : decode prog_13_method_20_code 54 = .ok (.getfield 54, 3) := by decide +kernel
theorem d_Mod_lists_57 : decode prog_13_method_20_code 57 = .ok (.iconst 3, 1) := by decide +kernel
theorem d_Mod_lists_58 : decode prog_13_method_20_code 58 = .ok (.baload, 1) := by decide +kernel
theorem d_Mod_lists_59 : decode prog_13_method_20_code 59 = .ok (.ifCond .eq (12), 3) := by decide +kernel
theorem d_Mod_lists_62 : decode prog_13_method_20_code 62 = .ok (.aload_n 0, 1) := by decide +kernel
theorem d_Mod_lists_63 : decode prog_13_method_20_code 63 = .ok (.getfield 57, 3) := by decide +kernel
theorem d_Mod_lists_66 : decode prog_13_method_20_code 66 = .ok (.iconst 3, 1) := by decide +kernel
theorem d_Mod_lists_67 : decode prog_13_method_20_code 67 = .ok (.iaload, 1) := by decide +kernel
theorem d_Mod_lists_68 : decode prog_13_method_20_code 68 = .ok (.goto (7), 3) := by decide +kernel
theorem d_Mod_lists_71 : decode prog_13_method_20_code 71 = .ok (.aload_n 0, 1) := by decide +kernel
theorem d_Mod_lists_72 : decode prog_13_method_20_code 72 = .ok (.getfield 92, 3) := by decide +kernel
theorem d_Mod_lists_75 : decode prog_13_method_20_code 75 = .ok (.putfield 92, 3) := by decide +kernel
theorem d_Mod_lists_78 : decode prog_13_method_20_code 78 = .ok (.iconst 0, 1) := by decide +kernel
theorem d_Mod_lists_79 : decode prog_13_method_20_code 79 = .ok (.istore_n 1, 1) := by decide +kernel
theorem d_Mod_lists_80 : decode prog_13_method_20_code 80 = .ok (.iload_n 1, 1) := by decide +kernel
theorem d_Mod_lists_81 : decode prog_13_method_20_code 81 = .ok (.bipush (7), 2) := by decide +kernel
theorem d_Mod_lists_83 : decode prog_13_method_20_code 83 = .ok (.if_icmp .ge (182), 3) := by decide +kernel
theorem d_Mod_lists_86 : decode prog_13_method_20_code 86 = .ok (.aload_n 0, 1) := by decide +kernel
theorem d_Mod_lists_87 : decode prog_13_method_20_code 87 = .ok (.getfield 54, 3) := by decide +kernel
theorem d_Mod_lists_90 : decode prog_13_method_20_code 90 = .ok (.iconst 0, 1) := by decide +kernel
theorem d_Mod_lists_91 : decode prog_13_method_20_code 91 = .ok (.baload, 1) := by decide +kernel
theorem d_Mod_lists_92 : decode prog_13_method_20_code 92 = .ok (.ifCond .eq (81), 3) := by decide +kernel
theorem d_Mod_lists_95 : decode prog_13_method_20_code 95 = .ok (.iload_n 1, 1) := by decide +kernel
theorem d_Mod_lists_96 : decode prog_13_method_20_code 96 = .ok (.aload_n 0, 1) := by decide +kernel
theorem d_Mod_lists_97 : decode prog_13_method_20_code 97 = .ok (.getfield 98, 3) := by decide +kernel
theorem d_Mod_lists_100 : decode prog_13_method_20_code 100 = .ok (.if_icmp .ge (73), 3) := by decide +kernel
theorem d_Mod_lists_103 : decode prog_13_method_20_code 103 = .ok (.aload_n 0, 1) := by decide +kernel
theorem d_Mod_lists_104 : decode prog_13_method_20_code 104 = .ok (.getfield 22, 3) := by decide +kernel
theorem d_Mod_lists_107 : decode prog_13_method_20_code 107 = .ok (.iload_n 1, 1) := by decide +kernel
theorem d_Mod_lists_108 : decode prog_13_method_20_code 108 = .ok (.aload_n 0, 1) := by decide +kernel
theorem d_Mod_lists_109 : decode prog_13_method_20_code 109 = .ok (.iconst 0, 1) := by decide +kernel
theorem d_Mod_lists_110 : decode prog_13_method_20_code 110 = .ok (.iload_n 1, 1) := by decide +kernel
theorem d_Mod_lists_111 : decode prog_13_method_20_code 111 = .ok (.iconst 0, 1) := by decide +kernel
theorem d_Mod_lists_112 : decode prog_13_method_20_code 112 = .ok (.invokevirtual 141, 3) := by decide +kernel
theorem d_Mod_lists_115 : decode prog_13_method_20_code 115 = .ok (.iastore, 1) := by decide +kernel
theorem d_Mod_lists_116 : decode prog_13_method_20_code 116 = .ok (.aload_n 0, 1) := by decide +kernel
theorem d_Mod_lists_117 : decode prog_13_method_20_code 117 = .ok (.getfield 25, 3) := by decide +kernel
theorem d_Mod_lists_120 : decode prog_13_method_20_code 120 = .ok (.iload_n 1, 1) := by decide +kernel
theorem d_Mod_lists_121 : decode prog_13_method_20_code 121 = .ok (.aload_n 0, 1) := by decide +kernel
theorem d_Mod_lists_122 : decode prog_13_method_20_code 122 = .ok (.iconst 0, 1) := by decide +kernel
theorem d_Mod_lists_123 : decode prog_13_method_20_code 123 = .ok (.iload_n 1, 1) := by decide +kernel
theorem d_Mod_lists_124 : decode prog_13_method_20_code 124 = .ok (.iconst 1, 1) := by decide +kernel
theorem d_Mod_lists_125 : decode prog_13_method_20_code 125 = .ok (.invokevirtual 141, 3) := by decide +kernel
theorem d_Mod_lists_128 : decode prog_13_method_20_code 128 = .ok (.iastore, 1) := by decide +kernel
theorem d_Mod_lists_129 : decode prog_13_method_20_code 129 = .ok (.aload_n 0, 1) := by decide +kernel
theorem d_Mod_lists_130 : decode prog_13_method_20_code 130 = .ok (.getfield 28, 3) := by decide +kernel
theorem d_Mod_lists_133 : decode prog_13_method_20_code 133 = .ok (.iload_n 1, 1) := by decide +kernel
theorem d_Mod_lists_134 : decode prog_13_method_20_code 134 = .ok (.aload_n 0, 1) := by decide +kernel
theorem d_Mod_lists_135 : decode prog_13_method_20_code 135 = .ok (.iconst 0, 1) := by decide +kernel
theorem d_Mod_lists_136 : decode prog_13_method_20_code 136 = .ok (.iload_n 1, 1) := by decide +kernel
theorem d_Mod_lists_137 : decode prog_13_method_20_code 137 = .ok (.iconst 2, 1) := by decide +kernel
theorem d_Mod_lists_138 : decode prog_13_method_20_code 138 = .ok (.invokevirtual 141, 3) := by decide +kernel
theorem d_Mod_lists_141 : decode prog_13_method_20_code 141 = .ok (.iastore, 1) := by decide +kernel
theorem d_Mod_lists_142 : decode prog_13_method_20_code 142 = .ok (.aload_n 0, 1) := by decide +kernel
theorem d_Mod_lists_143 : decode prog_13_method_20_code 143 = .ok (.getfield 31, 3) := by decide +kernel
theorem d_Mod_lists_146 : decode prog_13_method_20_code 146 = .ok (.iload_n 1, 1) := by decide +kernel
theorem d_Mod_lists_147 : decode prog_13_method_20_code 147 = .ok (.aload_n 0, 1) := by decide +kernel
theorem d_Mod_lists_148 : decode prog_13_method_20_code 148 = .ok (.getfield 22, 3) := by decide +kernel
theorem d_Mod_lists_151 : decode prog_13_method_20_code 151 = .ok (.iload_n 1, 1) := by decide +kernel
theorem d_Mod_lists_152 : decode prog_13_method_20_code 152 = .ok (.iaload, 1) := by decide +kernel
theorem d_Mod_lists_153 : decode prog_13_method_20_code 153 = .ok (.aload_n 0, 1) := by decide +kernel
theorem d_Mod_lists_154 : decode prog_13_method_20_code 154 = .ok (.getfield 28, 3) := by decide +kernel
theorem d_Mod_lists_157 : decode prog_13_method_20_code 157 = .ok (.iload_n 1, 1) := by decide +kernel
theorem d_Mod_lists_158 : decode prog_13_method_20_code 158 = .ok (.iaload, 1) := by decide +kernel
theorem d_Mod_lists_159 : decode prog_13_method_20_code 159 = .ok (.iadd, 1) := by decide +kernel
theorem d_Mod_lists_160 : decode prog_13_method_20_code 160 = .ok (.aload_n 0, 1) := by decide +kernel
theorem d_Mod_lists_161 : decode prog_13_method_20_code 161 = .ok (.getfield 189, 3) := by decide +kernel
theorem d_Mod_lists_164 : decode prog_13_method_20_code 164 = .ok (.if_icmp .ge (7), 3) := by decide +kernel
theorem d_Mod_lists_167 : decode prog_13_method_20_code 167 = .ok (.iconst 1, 1) := by decide +kernel
theorem d_Mod_lists_168 : decode prog_13_method_20_code 168 = .ok (.goto (4), 3) := by decide +kernel
theorem d_Mod_lists_171 : decode prog_13_method_20_code 171 = .ok (.iconst 0, 1) := by decide +kernel
theorem d_Mod_lists_172 : decode prog_13_method_20_code 172 = .ok (.bastore, 1) := by decide +kernel
theorem d_Mod_lists_173 : decode prog_13_method_20_code 173 = .ok (.aload_n 0, 1) := by decide +kernel
theorem d_Mod_lists_174 : decode prog_13_method_20_code 174 = .ok (.getfield 54, 3) := by decide +kernel
theorem d_Mod_lists_177 : decode prog_13_method_20_code 177 = .ok (.iconst 2, 1) := by decide +kernel
theorem d_Mod_lists_178 : decode prog_13_method_20_code 178 = .ok (.baload, 1) := by decide +kernel
theorem d_Mod_lists_179 : decode prog_13_method_20_code 179 = .ok (.ifCond .eq (37), 3) := by decide +kernel
theorem d_Mod_lists_182 : decode prog_13_method_20_code 182 = .ok (.iload_n 1, 1) := by decide +kernel
theorem d_Mod_lists_183 : decode prog_13_method_20_code 183 = .ok (.aload_n 0, 1) := by decide +kernel
theorem d_Mod_lists_184 : decode prog_13_method_20_code 184 = .ok (.getfield 95, 3) := by decide +kernel
theorem d_Mod_lists_187 : decode prog_13_method_20_code 187 = .ok (.if_icmp .ge (29), 3) := by decide +kernel
theorem d_Mod_lists_190 : decode prog_13_method_20_code 190 = .ok (.aload_n 0, 1) := by decide +kernel
theorem d_Mod_lists_191 : decode prog_13_method_20_code 191 = .ok (.getfield 16, 3) := by decide +kernel
theorem d_Mod_lists_194 : decode prog_13_method_20_code 194 = .ok (.iload_n 1, 1) := by decide +kernel
theorem d_Mod_lists_195 : decode prog_13_method_20_code 195 = .ok (.aload_n 0, 1) := by decide +kernel
theorem d_Mod_lists_196 : decode prog_13_method_20_code 196 = .ok (.iconst 2, 1) := by decide +kernel
theorem d_Mod_lists_197 : decode prog_13_method_20_code 197 = .ok (.iload_n 1, 1) := by decide +kernel
theorem d_Mod_lists_198 : decode prog_13_method_20_code 198 = .ok (.iconst 0, 1) := by decide +kernel
theorem d_Mod_lists_199 : decode prog_13_method_20_code 199 = .ok (.invokevirtual 141, 3) := by decide +kernel
theorem d_Mod_lists_202 : decode prog_13_method_20_code 202 = .ok (.iastore, 1) := by decide +kernel
theorem d_Mod_lists_203 : decode prog_13_method_20_code 203 = .ok (.aload_n 0, 1) := by decide +kernel
theorem d_Mod_lists_204 : decode prog_13_method_20_code 204 = .ok (.getfield 19, 3) := by decide +kernel
theorem d_Mod_lists_207 : decode prog_13_method_20_code 207 = .ok (.iload_n 1, 1) := by decide +kernel
theorem d_Mod_lists_208 : decode prog_13_method_20_code 208 = .ok (.aload_n 0, 1) := by decide +kernel
theorem d_Mod_lists_209 : decode prog_13_method_20_code 209 = .ok (.iconst 2, 1) := by decide +kernel
theorem d_Mod_lists_210 : decode prog_13_method_20_code 210 = .ok (.iload_n 1, 1) := by decide +kernel
theorem d_Mod_lists_211 : decode prog_13_method_20_code 211 = .ok (.iconst 1, 1) := by decide +kernel
theorem d_Mod_lists_212 : decode prog_13_method_20_code 212 = .ok (.invokevirtual 141, 3) := by decide +kernel
theorem d_Mod_lists_215 : decode prog_13_method_20_code 215 = .ok (.iastore, 1) := by decide +kernel
theorem d_Mod_lists_216 : decode prog_13_method_20_code 216 = .ok (.aload_n 0, 1) := by decide +kernel
theorem d_Mod_lists_217 : decode prog_13_method_20_code 217 = .ok (.getfield 54, 3) := by decide +kernel
theorem d_Mod_lists_220 : decode prog_13_method_20_code 220 = .ok (.iconst 3, 1) := by decide +kernel
theorem d_Mod_lists_221 : decode prog_13_method_20_code 221 = .ok (.baload, 1) := by decide +kernel
theorem d_Mod_lists_222 : decode prog_13_method_20_code 222 = .ok (.ifCond .eq (37), 3) := by decide +kernel
theorem d_Mod_lists_225 : decode prog_13_method_20_code 225 = .ok (.iload_n 1, 1) := by decide +kernel
theorem d_Mod_lists_226 : decode prog_13_method_20_code 226 = .ok (.aload_n 0, 1) := by decide +kernel
theorem d_Mod_lists_227 : decode prog_13_method_20_code 227 = .ok (.getfield 92, 3) := by decide +kernel
theorem d_Mod_lists_230 : decode prog_13_method_20_code 230 = .ok (.if_icmp .ge (29), 3) := by decide +kernel
theorem d_Mod_lists_233 : decode prog_13_method_20_code 233 = .ok (.aload_n 0, 1) := by decide +kernel
theorem d_Mod_lists_234 : decode prog_13_method_20_code 234 = .ok (.getfield 7, 3) := by decide +kernel
theorem d_Mod_lists_237 : decode prog_13_method_20_code 237 = .ok (.iload_n 1, 1) := by decide +kernel
theorem d_Mod_lists_238 : decode prog_13_method_20_code 238 = .ok (.aload_n 0, 1) := by decide +kernel
theorem d_Mod_lists_239 : decode prog_13_method_20_code 239 = .ok (.iconst 3, 1) := by decide +kernel
theorem d_Mod_lists_240 : decode prog_13_method_20_code 240 = .ok (.iload_n 1, 1) := by decide +kernel
theorem d_Mod_lists_241 : decode prog_13_method_20_code 241 = .ok (.iconst 0, 1) := by decide +kernel
theorem d_Mod_lists_242 : decode prog_13_method_20_code 242 = .ok (.invokevirtual 141, 3) := by decide +kernel
theorem d_Mod_lists_245 : decode prog_13_method_20_code 245 = .ok (.iastore, 1) := by decide +kernel
theorem d_Mod_lists_246 : decode prog_13_method_20_code 246 = .ok (.aload_n 0, 1) := by decide +kernel
theorem d_Mod_lists_247 : decode prog_13_method_20_code 247 = .ok (.getfield 13, 3) := by decide +kernel
theorem d_Mod_lists_250 : decode prog_13_method_20_code 250 = .ok (.iload_n 1, 1) := by decide +kernel
theorem d_Mod_lists_251 : decode prog_13_method_20_code 251 = .ok (.aload_n 0, 1) := by decide +kernel
theorem d_Mod_lists_252 : decode prog_13_method_20_code 252 = .ok (.iconst 3, 1) := by decide +kernel
theorem d_Mod_lists_253 : decode prog_13_method_20_code 253 = .ok (.iload_n 1, 1) := by decide +kernel
theorem d_Mod_lists_254 : decode prog_13_method_20_code 254 = .ok (.iconst 1, 1) := by decide +kernel
theorem d_Mod_lists_255 : decode prog_13_method_20_code 255 = .ok (.invokevirtual 141, 3) := by decide +kernel
theorem d_Mod_lists_258 : decode prog_13_method_20_code 258 = .ok (.iastore, 1) := by decide +kernel
theorem d_Mod_lists_259 : decode prog_13_method_20_code 259 = .ok (.iinc 1 (1), 3) := by decide +kernel
theorem d_Mod_lists_262 : decode prog_13_method_20_code 262 = .ok (.goto (-182), 3) := by decide +kernel
theorem d_Mod_lists_265 : decode prog_13_method_20_code 265 = .ok (.return_, 1) := by decide +kernel
theorem d_Mod_least_0 : decode prog_13_method_21_code 0 = .ok (.sipush (600), 3) := by decide +kernel
theorem d_Mod_least_3 : decode prog_13_method_21_code 3 = .ok (.istore_n 3, 1) := by decide +kernel
theorem d_Mod_least_4 : decode prog_13_method_21_code 4 = .ok (.iconst 0, 1) := by decide +kernel
theorem d_Mod_least_5 : decode prog_13_method_21_code 5 = .ok (.istore 4, 2) := by decide +kernel
theorem d_Mod_least_7 : decode prog_13_method_21_code 7 = .ok (.iload 4, 2) := by decide +kernel
theorem d_Mod_least_9 : decode prog_13_method_21_code 9 = .ok (.aload_n 0, 1) := by decide +kernel
theorem d_Mod_least_10 : decode prog_13_method_21_code 10 = .ok (.getfield 92, 3) := by decide +kernel
theorem d_Mod_least_13 : decode prog_13_method_21_code 13 = .ok (.if_icmp .ge (79), 3) := by decide +kernel
theorem d_Mod_least_16 : decode prog_13_method_21_code 16 = .ok (.aload_n 0, 1) := by decide +kernel
theorem d_Mod_least_17 : decode prog_13_method_21_code 17 = .ok (.getfield 7, 3) := by decide +kernel
theorem d_Mod_least_20 : decode prog_13_method_21_code 20 = .ok (.iload 4, 2) := by decide +kernel
theorem d_Mod_least_22 : decode prog_13_method_21_code 22 = .ok (.iaload, 1) := by decide +kernel
theorem d_Mod_least_23 : decode prog_13_method_21_code 23 = .ok (.iload_n 2, 1) := by decide +kernel
theorem d_Mod_least_24 : decode prog_13_method_21_code 24 = .ok (.if_icmp .gt (31), 3) := by decide +kernel
theorem d_Mod_least_27 : decode prog_13_method_21_code 27 = .ok (.iload 4, 2) := by decide +kernel
theorem d_Mod_least_29 : decode prog_13_method_21_code 29 = .ok (.iconst 1, 1) := by decide +kernel
theorem d_Mod_least_30 : decode prog_13_method_21_code 30 = .ok (.iadd, 1) := by decide +kernel
theorem d_Mod_least_31 : decode prog_13_method_21_code 31 = .ok (.aload_n 0, 1) := by decide +kernel
theorem d_Mod_least_32 : decode prog_13_method_21_code 32 = .ok (.getfield 92, 3) := by decide +kernel
theorem d_Mod_least_35 : decode prog_13_method_21_code 35 = .ok (.if_icmp .eq (16), 3) := by decide +kernel
theorem d_Mod_least_38 : decode prog_13_method_21_code 38 = .ok (.aload_n 0, 1) := by decide +kernel
theorem d_Mod_least_39 : decode prog_13_method_21_code 39 = .ok (.getfield 7, 3) := by decide +kernel
theorem d_Mod_least_42 : decode prog_13_method_21_code 42 = .ok (.iload 4, 2) := by decide +kernel
theorem d_Mod_least_44 : decode prog_13_method_21_code 44 = .ok (.iconst 1, 1) := by decide +kernel
theorem d_Mod_least_45 : decode prog_13_method_21_code 45 = .ok (.iadd, 1) := by decide +kernel
theorem d_Mod_least_46 : decode prog_13_method_21_code 46 = .ok (.iaload, 1) := by decide +kernel
theorem d_Mod_least_47 : decode prog_13_method_21_code 47 = .ok (.iload_n 1, 1) := by decide +kernel
theorem d_Mod_least_48 : decode prog_13_method_21_code 48 = .ok (.if_icmp .le (7), 3) := by decide +kernel
theorem d_Mod_least_51 : decode prog_13_method_21_code 51 = .ok (.iconst 1, 1) := by decide +kernel
theorem d_Mod_least_52 : decode prog_13_method_21_code 52 = .ok (.goto (4), 3) := by decide +kernel
theorem d_Mod_least_55 : decode prog_13_method_21_code 55 = .ok (.iconst 0, 1) := by decide +kernel
theorem d_Mod_least_56 : decode prog_13_method_21_code 56 = .ok (.istore 5, 2) := by decide +kernel
theorem d_Mod_least_58 : decode prog_13_method_21_code 58 = .ok (.iload 5, 2) := by decide +kernel
theorem d_Mod_least_60 : decode prog_13_method_21_code 60 = .ok (.ifCond .eq (24), 3) := by decide +kernel
theorem d_Mod_least_63 : decode prog_13_method_21_code 63 = .ok (.aload_n 0, 1) := by decide +kernel
theorem d_Mod_least_64 : decode prog_13_method_21_code 64 = .ok (.getfield 13, 3) := by decide +kernel
theorem d_Mod_least_67 : decode prog_13_method_21_code 67 = .ok (.iload 4, 2) := by decide +kernel
theorem d_Mod_least_69 : decode prog_13_method_21_code 69 = .ok (.iaload, 1) := by decide +kernel
theorem d_Mod_least_70 : decode prog_13_method_21_code 70 = .ok (.iload_n 3, 1) := by decide +kernel
theorem d_Mod_least_71 : decode prog_13_method_21_code 71 = .ok (.if_icmp .ge (13), 3) := by decide +kernel
theorem d_Mod_least_74 : decode prog_13_method_21_code 74 = .ok (.aload_n 0, 1) := by decide +kernel
theorem d_Mod_least_75 : decode prog_13_method_21_code 75 = .ok (.getfield 13, 3) := by decide +kernel
theorem d_Mod_least_78 : decode prog_13_method_21_code 78 = .ok (.iload 4, 2) := by decide +kernel
theorem d_Mod_least_80 : decode prog_13_method_21_code 80 = .ok (.iaload, 1) := by decide +kernel
theorem d_Mod_least_81 : decode prog_13_method_21_code 81 = .ok (.goto (4), 3) := by decide +kernel
theorem d_Mod_least_84 : decode prog_13_method_21_code 84 = .ok (.iload_n 3, 1) := by decide +kernel
theorem d_Mod_least_85 : decode prog_13_method_21_code 85 = .ok (.istore_n 3, 1) := by decide +kernel
theorem d_Mod_least_86 : decode prog_13_method_21_code 86 = .ok (.iinc 4 (1), 3) := by decide +kernel
theorem d_Mod_least_89 : decode prog_13_method_21_code 89 = .ok (.goto (-82), 3) := by decide +kernel
theorem d_Mod_least_92 : decode prog_13_method_21_code 92 = .ok (.iconst 0, 1) := by decide +kernel
theorem d_Mod_least_93 : decode prog_13_method_21_code 93 = .ok (.istore 4, 2) := by decide +kernel
theorem d_Mod_least_95 : decode prog_13_method_21_code 95 = .ok (.iload 4, 2) := by decide +kernel
theorem d_Mod_least_97 : decode prog_13_method_21_code 97 = .ok (.aload_n 0, 1) := by decide +kernel
theorem d_Mod_least_98 : decode prog_13_method_21_code 98 = .ok (.getfield 171, 3) := by decide +kernel
theorem d_Mod_least_101 : decode prog_13_method_21_code 101 = .ok (.if_icmp .ge (74), 3) := by decide +kernel
theorem d_Mod_least_104 : decode prog_13_method_21_code 104 = .ok (.aload_n 0, 1) := by decide +kernel
theorem d_Mod_least_105 : decode prog_13_method_21_code 105 = .ok (.getfield 38, 3) := by decide +kernel
theorem d_Mod_least_108 : decode prog_13_method_21_code 108 = .ok (.iload 4, 2) := by decide +kernel
theorem d_Mod_least_110 : decode prog_13_method_21_code 110 = .ok (.iaload, 1) := by decide +kernel
theorem d_Mod_least_111 : decode prog_13_method_21_code 111 = .ok (.iload_n 2, 1) := by decide +kernel
theorem d_Mod_least_112 : decode prog_13_method_21_code 112 = .ok (.if_icmp .gt (26), 3) := by decide +kernel
theorem d_Mod_least_115 : decode prog_13_method_21_code 115 = .ok (.aload_n 0, 1) := by decide +kernel
theorem d_Mod_least_116 : decode prog_13_method_21_code 116 = .ok (.getfield 38, 3) := by decide +kernel
theorem d_Mod_least_119 : decode prog_13_method_21_code 119 = .ok (.iload 4, 2) := by decide +kernel
theorem d_Mod_least_121 : decode prog_13_method_21_code 121 = .ok (.iaload, 1) := by decide +kernel
theorem d_Mod_least_122 : decode prog_13_method_21_code 122 = .ok (.aload_n 0, 1) := by decide +kernel
theorem d_Mod_least_123 : decode prog_13_method_21_code 123 = .ok (.getfield 41, 3) := by decide +kernel
theorem d_Mod_least_126 : decode prog_13_method_21_code 126 = .ok (.iload 4, 2) := by decide +kernel
theorem d_Mod_least_128 : decode prog_13_method_21_code 128 = .ok (.iaload, 1) := by decide +kernel
theorem d_Mod_least_129 : decode prog_13_method_21_code 129 = .ok (.iadd, 1) := by decide +kernel
theorem d_Mod_least_130 : decode prog_13_method_21_code 130 = .ok (.iload_n 1, 1) := by decide +kernel
theorem d_Mod_least_131 : decode prog_13_method_21_code 131 = .ok (.if_icmp .le (7), 3) := by decide +kernel
theorem d_Mod_least_134 : decode prog_13_method_21_code 134 = .ok (.iconst 1, 1) := by decide +kernel
theorem d_Mod_least_135 : decode prog_13_method_21_code 135 = .ok (.goto (4), 3) := by decide +kernel
theorem d_Mod_least_138 : decode prog_13_method_21_code 138 = .ok (.iconst 0, 1) := by decide +kernel
theorem d_Mod_least_139 : decode prog_13_method_21_code 139 = .ok (.istore 5, 2) := by decide +kernel
theorem d_Mod_least_141 : decode prog_13_method_21_code 141 = .ok (.iload 5, 2) := by decide +kernel
theorem d_Mod_least_143 : decode prog_13_method_21_code 143 = .ok (.ifCond .eq (24), 3) := by decide +kernel
theorem d_Mod_least_146 : decode prog_13_method_21_code 146 = .ok (.aload_n 0, 1) := by decide +kernel
theorem d_Mod_least_147 : decode prog_13_method_21_code 147 = .ok (.getfield 44, 3) := by decide +kernel
theorem d_Mod_least_150 : decode prog_13_method_21_code 150 = .ok (.iload 4, 2) := by decide +kernel
theorem d_Mod_least_152 : decode prog_13_method_21_code 152 = .ok (.iaload, 1) := by decide +kernel
theorem d_Mod_least_153 : decode prog_13_method_21_code 153 = .ok (.iload_n 3, 1) := by decide +kernel
theorem d_Mod_least_154 : decode prog_13_method_21_code 154 = .ok (.if_icmp .ge (13), 3) := by decide +kernel
theorem d_Mod_least_157 : decode prog_13_method_21_code 157 = .ok (.aload_n 0, 1) := by decide +kernel
theorem d_Mod_least_158 : decode prog_13_method_21_code 158 = .ok (.getfield 44, 3) := by decide +kernel
theorem d_Mod_least_161 : decode prog_13_method_21_code 161 = .ok (.iload 4, 2) := by decide +kernel
theorem d_Mod_least_163 : decode prog_13_method_21_code 163 = .ok (.iaload, 1) := by decide +kernel
theorem d_Mod_least_164 : decode prog_13_method_21_code 164 = .ok (.goto (4), 3) := by decide +kernel
theorem d_Mod_least_167 : decode prog_13_method_21_code 167 = .ok (.iload_n 3, 1) := by decide +kernel
theorem d_Mod_least_168 : decode prog_13_method_21_code 168 = .ok (.istore_n 3, 1) := by decide +kernel
theorem d_Mod_least_169 : decode prog_13_method_21_code 169 = .ok (.iinc 4 (1), 3) := by decide +kernel
theorem d_Mod_least_172 : decode prog_13_method_21_code 172 = .ok (.goto (-77), 3) := by decide +kernel
theorem d_Mod_least_175 : decode prog_13_method_21_code 175 = .ok (.iload_n 3, 1) := by decide +kernel
theorem d_Mod_least_176 : decode prog_13_method_21_code 176 = .ok (.ireturn, 1) := by decide +kernel
theorem d_Mod_limit_0 : decode prog_13_method_22_code 0 = .ok (.iload_n 1, 1) := by decide +kernel
theorem d_Mod_limit_1 : decode prog_13_method_22_code 1 = .ok (.ifCond .ge (9), 3) := by decide +kernel
theorem d_Mod_limit_4 : decode prog_13_method_22_code 4 = .ok (.sipush (600), 3) := by decide +kernel
theorem d_Mod_limit_7 : decode prog_13_method_22_code 7 = .ok (.goto (9), 3) := by decide +kernel
theorem d_Mod_limit_10 : decode prog_13_method_22_code 10 = .ok (.aload_n 0, 1) := by decide +kernel
theorem d_Mod_limit_11 : decode prog_13_method_22_code 11 = .ok (.iload_n 1, 1) := by decide +kernel
theorem d_Mod_limit_12 : decode prog_13_method_22_code 12 = .ok (.iload_n 1, 1) := by decide +kernel
theorem d_Mod_limit_13 : decode prog_13_method_22_code 13 = .ok (.invokevirtual 192, 3) := by decide +kernel
theorem d_Mod_limit_16 : decode prog_13_method_22_code 16 = .ok (.ireturn, 1) := by decide +kernel
theorem d_Mod_ceiling_0 : decode prog_13_method_23_code 0 = .ok (.aload_n 0, 1) := by decide +kernel
theorem d_Mod_ceiling_1 : decode prog_13_method_23_code 1 = .ok (.invokevirtual 154, 3) := by decide +kernel
theorem d_Mod_ceiling_4 : decode prog_13_method_23_code 4 = .ok (.ifCond .ne (18), 3) := by decide +kernel
theorem d_Mod_ceiling_7 : decode prog_13_method_23_code 7 = .ok (.aload_n 0, 1) := by decide +kernel
theorem d_Mod_ceiling_8 : decode prog_13_method_23_code 8 = .ok (.getfield 81, 3) := by decide +kernel
theorem d_Mod_ceiling_11 : decode prog_13_method_23_code 11 = .ok (.iconst 1, 1) := by decide +kernel
theorem d_Mod_ceiling_12 : decode prog_13_method_23_code 12 = .ok (.if_icmp .ne (8), 3) := by decide +kernel
theorem d_Mod_ceiling_15 : decode prog_13_method_23_code 15 = .ok (.bipush (80), 2) := by decide +kernel
theorem d_Mod_ceiling_17 : decode prog_13_method_23_code 17 = .ok (.goto (4), 3) := by decide +kernel
theorem d_Mod_ceiling_20 : decode prog_13_method_23_code 20 = .ok (.iconst 0, 1) := by decide +kernel
theorem d_Mod_ceiling_21 : decode prog_13_method_23_code 21 = .ok (.ireturn, 1) := by decide +kernel
theorem d_Mod_ceiling_22 : decode prog_13_method_23_code 22 = .ok (.aload_n 0, 1) := by decide +kernel
theorem d_Mod_ceiling_23 : decode prog_13_method_23_code 23 = .ok (.aload_n 0, 1) := by decide +kernel
theorem d_Mod_ceiling_24 : decode prog_13_method_23_code 24 = .ok (.getfield 189, 3) := by decide +kernel
theorem d_Mod_ceiling_27 : decode prog_13_method_23_code 27 = .ok (.aload_n 0, 1) := by decide +kernel
theorem d_Mod_ceiling_28 : decode prog_13_method_23_code 28 = .ok (.getfield 72, 3) := by decide +kernel
theorem d_Mod_ceiling_31 : decode prog_13_method_23_code 31 = .ok (.isub, 1) := by decide +kernel
theorem d_Mod_ceiling_32 : decode prog_13_method_23_code 32 = .ok (.aload_n 0, 1) := by decide +kernel
theorem d_Mod_ceiling_33 : decode prog_13_method_23_code 33 = .ok (.getfield 195, 3) := by decide +kernel
theorem d_Mod_ceiling_36 : decode prog_13_method_23_code 36 = .ok (.invokevirtual 192, 3) := by decide +kernel
theorem d_Mod_ceiling_39 : decode prog_13_method_23_code 39 = .ok (.istore_n 1, 1) := by decide +kernel
theorem d_Mod_ceiling_40 : decode prog_13_method_23_code 40 = .ok (.aload_n 0, 1) := by decide +kernel
theorem d_Mod_ceiling_41 : decode prog_13_method_23_code 41 = .ok (.getfield 81, 3) := by decide +kernel
theorem d_Mod_ceiling_44 : decode prog_13_method_23_code 44 = .ok (.iconst 3, 1) := by decide +kernel
theorem d_Mod_ceiling_45 : decode prog_13_method_23_code 45 = .ok (.if_icmp .ne (14), 3) := by decide +kernel
theorem d_Mod_ceiling_48 : decode prog_13_method_23_code 48 = .ok (.iload_n 1, 1) := by decide +kernel
theorem d_Mod_ceiling_49 : decode prog_13_method_23_code 49 = .ok (.bipush (60), 2) := by decide +kernel
theorem d_Mod_ceiling_51 : decode prog_13_method_23_code 51 = .ok (.if_icmp .le (8), 3) := by decide +kernel
theorem d_Mod_ceiling_54 : decode prog_13_method_23_code 54 = .ok (.bipush (60), 2) := by decide +kernel
theorem d_Mod_ceiling_56 : decode prog_13_method_23_code 56 = .ok (.goto (4), 3) := by decide +kernel
theorem d_Mod_ceiling_59 : decode prog_13_method_23_code 59 = .ok (.iload_n 1, 1) := by decide +kernel
theorem d_Mod_ceiling_60 : decode prog_13_method_23_code 60 = .ok (.ireturn, 1) := by decide +kernel
theorem d_Mod_fall_0 : decode prog_13_method_24_code 0 = .ok (.iconst 0, 1) := by decide +kernel
theorem d_Mod_fall_1 : decode prog_13_method_24_code 1 = .ok (.istore_n 2, 1) := by decide +kernel
theorem d_Mod_fall_2 : decode prog_13_method_24_code 2 = .ok (.iconst 0, 1) := by decide +kernel
theorem d_Mod_fall_3 : decode prog_13_method_24_code 3 = .ok (.istore_n 3, 1) := by decide +kernel
theorem d_Mod_fall_4 : decode prog_13_method_24_code 4 = .ok (.iload_n 3, 1) := by decide +kernel
theorem d_Mod_fall_5 : decode prog_13_method_24_code 5 = .ok (.aload_n 0, 1) := by decide +kernel
theorem d_Mod_fall_6 : decode prog_13_method_24_code 6 = .ok (.getfield 95, 3) := by decide +kernel
theorem d_Mod_fall_9 : decode prog_13_method_24_code 9 = .ok (.if_icmp .ge (82), 3) := by decide +kernel
theorem d_Mod_fall_12 : decode prog_13_method_24_code 12 = .ok (.aload_n 0, 1) := by decide +kernel
theorem d_Mod_fall_13 : decode prog_13_method_24_code 13 = .ok (.getfield 16, 3) := by decide +kernel
theorem d_Mod_fall_16 : decode prog_13_method_24_code 16 = .ok (.iload_n 3, 1) := by decide +kernel
theorem d_Mod_fall_17 : decode prog_13_method_24_code 17 = .ok (.iaload, 1) := by decide +kernel
theorem d_Mod_fall_18 : decode prog_13_method_24_code 18 = .ok (.iload_n 1, 1) := by decide +kernel
theorem d_Mod_fall_19 : decode prog_13_method_24_code 19 = .ok (.if_icmp .gt (37), 3) := by decide +kernel
theorem d_Mod_fall_22 : decode prog_13_method_24_code 22 = .ok (.iload_n 3, 1) := by decide +kernel
theorem d_Mod_fall_23 : decode prog_13_method_24_code 23 = .ok (.iconst 1, 1) := by decide +kernel
theorem d_Mod_fall_24 : decode prog_13_method_24_code 24 = .ok (.iadd, 1) := by decide +kernel
theorem d_Mod_fall_25 : decode prog_13_method_24_code 25 = .ok (.aload_n 0, 1) := by decide +kernel
theorem d_Mod_fall_26 : decode prog_13_method_24_code 26 = .ok (.getfield 95, 3) := by decide +kernel
theorem d_Mod_fall_29 : decode prog_13_method_24_code 29 = .ok (.if_icmp .eq (23), 3) := by decide +kernel
theorem d_Mod_fall_32 : decode prog_13_method_24_code 32 = .ok (.aload_n 0, 1) := by decide +kernel
theorem d_Mod_fall_33 : decode prog_13_method_24_code 33 = .ok (.getfield 16, 3) := by decide +kernel
theorem d_Mod_fall_36 : decode prog_13_method_24_code 36 = .ok (.iload_n 3, 1) := by decide +kernel
theorem d_Mod_fall_37 : decode prog_13_method_24_code 37 = .ok (.iconst 1, 1) := by decide +kernel
theorem d_Mod_fall_38 : decode prog_13_method_24_code 38 = .ok (.iadd, 1) := by decide +kernel
theorem d_Mod_fall_39 : decode prog_13_method_24_code 39 = .ok (.iaload, 1) := by decide +kernel
theorem d_Mod_fall_40 : decode prog_13_method_24_code 40 = .ok (.aload_n 0, 1) := by decide +kernel
theorem d_Mod_fall_41 : decode prog_13_method_24_code 41 = .ok (.getfield 189, 3) := by decide +kernel
theorem d_Mod_fall_44 : decode prog_13_method_24_code 44 = .ok (.aload_n 0, 1) := by decide +kernel
theorem d_Mod_fall_45 : decode prog_13_method_24_code 45 = .ok (.getfield 72, 3) := by decide +kernel
theorem d_Mod_fall_48 : decode prog_13_method_24_code 48 = .ok (.isub, 1) := by decide +kernel
theorem d_Mod_fall_49 : decode prog_13_method_24_code 49 = .ok (.if_icmp .le (7), 3) := by decide +kernel
theorem d_Mod_fall_52 : decode prog_13_method_24_code 52 = .ok (.iconst 1, 1) := by decide +kernel
theorem d_Mod_fall_53 : decode prog_13_method_24_code 53 = .ok (.goto (4), 3) := by decide +kernel
theorem d_Mod_fall_56 : decode prog_13_method_24_code 56 = .ok (.iconst 0, 1) := by decide +kernel
theorem d_Mod_fall_57 : decode prog_13_method_24_code 57 = .ok (.istore 4, 2) := by decide +kernel
theorem d_Mod_fall_59 : decode prog_13_method_24_code 59 = .ok (.iload 4, 2) := by decide +kernel
theorem d_Mod_fall_61 : decode prog_13_method_24_code 61 = .ok (.ifCond .eq (22), 3) := by decide +kernel
theorem d_Mod_fall_64 : decode prog_13_method_24_code 64 = .ok (.aload_n 0, 1) := by decide +kernel
theorem d_Mod_fall_65 : decode prog_13_method_24_code 65 = .ok (.getfield 19, 3) := by decide +kernel
theorem d_Mod_fall_68 : decode prog_13_method_24_code 68 = .ok (.iload_n 3, 1) := by decide +kernel
theorem d_Mod_fall_69 : decode prog_13_method_24_code 69 = .ok (.iaload, 1) := by decide +kernel
theorem d_Mod_fall_70 : decode prog_13_method_24_code 70 = .ok (.iload_n 2, 1) := by decide +kernel
theorem d_Mod_fall_71 : decode prog_13_method_24_code 71 = .ok (.if_icmp .le (12), 3) := by decide +kernel
theorem d_Mod_fall_74 : decode prog_13_method_24_code 74 = .ok (.aload_n 0, 1) := by decide +kernel
theorem d_Mod_fall_75 : decode prog_13_method_24_code 75 = .ok (.getfield 19, 3) := by decide +kernel
theorem d_Mod_fall_78 : decode prog_13_method_24_code 78 = .ok (.iload_n 3, 1) := by decide +kernel
theorem d_Mod_fall_79 : decode prog_13_method_24_code 79 = .ok (.iaload, 1) := by decide +kernel
theorem d_Mod_fall_80 : decode prog_13_method_24_code 80 = .ok (.goto (4), 3) := by decide +kernel
theorem d_Mod_fall_83 : decode prog_13_method_24_code 83 = .ok (.iload_n 2, 1) := by decide +kernel
theorem d_Mod_fall_84 : decode prog_13_method_24_code 84 = .ok (.istore_n 2, 1) := by decide +kernel
theorem d_Mod_fall_85 : decode prog_13_method_24_code 85 = .ok (.iinc 3 (1), 3) := by decide +kernel
theorem d_Mod_fall_88 : decode prog_13_method_24_code 88 = .ok (.goto (-84), 3) := by decide +kernel
theorem d_Mod_fall_91 : decode prog_13_method_24_code 91 = .ok (.iload_n 1, 1) := by decide +kernel
theorem d_Mod_fall_92 : decode prog_13_method_24_code 92 = .ok (.aload_n 0, 1) := by decide +kernel
theorem d_Mod_fall_93 : decode prog_13_method_24_code 93 = .ok (.getfield 189, 3) := by decide +kernel
theorem d_Mod_fall_96 : decode prog_13_method_24_code 96 = .ok (.aload_n 0, 1) := by decide +kernel
theorem d_Mod_fall_97 : decode prog_13_method_24_code 97 = .ok (.getfield 72, 3) := by decide +kernel
theorem d_Mod_fall_100 : decode prog_13_method_24_code 100 = .ok (.isub, 1) := by decide +kernel
theorem d_Mod_fall_101 : decode prog_13_method_24_code 101 = .ok (.if_icmp .ge (7), 3) := by decide +kernel
theorem d_Mod_fall_104 : decode prog_13_method_24_code 104 = .ok (.iconst 0, 1) := by decide +kernel
theorem d_Mod_fall_105 : decode prog_13_method_24_code 105 = .ok (.goto (4), 3) := by decide +kernel
theorem d_Mod_fall_108 : decode prog_13_method_24_code 108 = .ok (.iload_n 2, 1) := by decide +kernel
theorem d_Mod_fall_109 : decode prog_13_method_24_code 109 = .ok (.ireturn, 1) := by decide +kernel
theorem d_Mod_braking_0 : decode prog_13_method_25_code 0 = .ok (.iload_n 0, 1) := by decide +kernel
theorem d_Mod_braking_1 : decode prog_13_method_25_code 1 = .ok (.istore_n 3, 1) := by decide +kernel
theorem d_Mod_braking_2 : decode prog_13_method_25_code 2 = .ok (.iconst 0, 1) := by decide +kernel
theorem d_Mod_braking_3 : decode prog_13_method_25_code 3 = .ok (.istore 4, 2) := by decide +kernel
theorem d_Mod_braking_5 : decode prog_13_method_25_code 5 = .ok (.iconst 0, 1) := by decide +kernel
theorem d_Mod_braking_6 : decode prog_13_method_25_code 6 = .ok (.istore 5, 2) := by decide +kernel
theorem d_Mod_braking_8 : decode prog_13_method_25_code 8 = .ok (.iload 5, 2) := by decide +kernel
theorem d_Mod_braking_10 : decode prog_13_method_25_code 10 = .ok (.sipush (1000), 3) := by decide +kernel
theorem d_Mod_braking_13 : decode prog_13_method_25_code 13 = .ok (.if_icmp .ge (33), 3) := by decide +kernel
theorem d_Mod_braking_16 : decode prog_13_method_25_code 16 = .ok (.iload_n 3, 1) := by decide +kernel
theorem d_Mod_braking_17 : decode prog_13_method_25_code 17 = .ok (.iload_n 1, 1) := by decide +kernel
theorem d_Mod_braking_18 : decode prog_13_method_25_code 18 = .ok (.if_icmp .le (28), 3) := by decide +kernel
theorem d_Mod_braking_21 : decode prog_13_method_25_code 21 = .ok (.iload_n 3, 1) := by decide +kernel
theorem d_Mod_braking_22 : decode prog_13_method_25_code 22 = .ok (.iload_n 2, 1) := by decide +kernel
theorem d_Mod_braking_23 : decode prog_13_method_25_code 23 = .ok (.if_icmp .ge (7), 3) := by decide +kernel
theorem d_Mod_braking_26 : decode prog_13_method_25_code 26 = .ok (.iconst 0, 1) := by decide +kernel
theorem d_Mod_braking_27 : decode prog_13_method_25_code 27 = .ok (.goto (6), 3) := by decide +kernel
theorem d_Mod_braking_30 : decode prog_13_method_25_code 30 = .ok (.iload_n 3, 1) := by decide +kernel
theorem d_Mod_braking_31 : decode prog_13_method_25_code 31 = .ok (.iload_n 2, 1) := by decide +kernel
theorem d_Mod_braking_32 : decode prog_13_method_25_code 32 = .ok (.isub, 1) := by decide +kernel
theorem d_Mod_braking_33 : decode prog_13_method_25_code 33 = .ok (.istore_n 3, 1) := by decide +kernel
theorem d_Mod_braking_34 : decode prog_13_method_25_code 34 = .ok (.iload 4, 2) := by decide +kernel
theorem d_Mod_braking_36 : decode prog_13_method_25_code 36 = .ok (.iload_n 3, 1) := by decide +kernel
theorem d_Mod_braking_37 : decode prog_13_method_25_code 37 = .ok (.iadd, 1) := by decide +kernel
theorem d_Mod_braking_38 : decode prog_13_method_25_code 38 = .ok (.istore 4, 2) := by decide +kernel
theorem d_Mod_braking_40 : decode prog_13_method_25_code 40 = .ok (.iinc 5 (1), 3) := by decide +kernel
theorem d_Mod_braking_43 : decode prog_13_method_25_code 43 = .ok (.goto (-35), 3) := by decide +kernel
theorem d_Mod_braking_46 : decode prog_13_method_25_code 46 = .ok (.iload 4, 2) := by decide +kernel
theorem d_Mod_braking_48 : decode prog_13_method_25_code 48 = .ok (.ireturn, 1) := by decide +kernel
theorem d_Mod_way_0 : decode prog_13_method_26_code 0 = .ok (.iload_n 1, 1) := by decide +kernel
theorem d_Mod_way_1 : decode prog_13_method_26_code 1 = .ok (.ifCond .lt (32), 3) := by decide +kernel
theorem d_Mod_way_4 : decode prog_13_method_26_code 4 = .ok (.iload_n 1, 1) := by decide +kernel
theorem d_Mod_way_5 : decode prog_13_method_26_code 5 = .ok (.sipush (600), 3) := by decide +kernel
theorem d_Mod_way_8 : decode prog_13_method_26_code 8 = .ok (.if_icmp .gt (25), 3) := by decide +kernel
theorem d_Mod_way_11 : decode prog_13_method_26_code 11 = .ok (.iload_n 2, 1) := by decide +kernel
theorem d_Mod_way_12 : decode prog_13_method_26_code 12 = .ok (.ifCond .lt (21), 3) := by decide +kernel
theorem d_Mod_way_15 : decode prog_13_method_26_code 15 = .ok (.iload_n 2, 1) := by decide +kernel
theorem d_Mod_way_16 : decode prog_13_method_26_code 16 = .ok (.sipush (600), 3) := by decide +kernel
theorem d_Mod_way_19 : decode prog_13_method_26_code 19 = .ok (.if_icmp .gt (14), 3) := by decide +kernel
theorem d_Mod_way_22 : decode prog_13_method_26_code 22 = .ok (.iload_n 3, 1) := by decide +kernel
theorem d_Mod_way_23 : decode prog_13_method_26_code 23 = .ok (.iconst 1, 1) := by decide +kernel
theorem d_Mod_way_24 : decode prog_13_method_26_code 24 = .ok (.if_icmp .lt (9), 3) := by decide +kernel
theorem d_Mod_way_27 : decode prog_13_method_26_code 27 = .ok (.iload_n 3, 1) := by decide +kernel
theorem d_Mod_way_28 : decode prog_13_method_26_code 28 = .ok (.bipush (40), 2) := by decide +kernel
theorem d_Mod_way_30 : decode prog_13_method_26_code 30 = .ok (.if_icmp .le (7), 3) := by decide +kernel
theorem d_Mod_way_33 : decode prog_13_method_26_code 33 = .ok (.iconst (-1), 1) := by decide +kernel
theorem d_Mod_way_34 : decode prog_13_method_26_code 34 = .ok (.goto (9), 3) := by decide +kernel
theorem d_Mod_way_37 : decode prog_13_method_26_code 37 = .ok (.iload_n 1, 1) := by decide +kernel
theorem d_Mod_way_38 : decode prog_13_method_26_code 38 = .ok (.iload_n 2, 1) := by decide +kernel
theorem d_Mod_way_39 : decode prog_13_method_26_code 39 = .ok (.iload_n 3, 1) := by decide +kernel
theorem d_Mod_way_40 : decode prog_13_method_26_code 40 = .ok (.invokestatic 198, 3) := by decide +kernel
theorem d_Mod_way_43 : decode prog_13_method_26_code 43 = .ok (.ireturn, 1) := by decide +kernel
