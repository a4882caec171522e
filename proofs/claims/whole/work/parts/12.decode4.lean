theorem d_W_insert_0 : decode c_W_insert 0 = .ok (.aload 4, 2) := by decide +kernel
theorem d_W_insert_2 : decode c_W_insert 2 = .ok (.iconst 0, 1) := by decide +kernel
theorem d_W_insert_3 : decode c_W_insert 3 = .ok (.aload_n 0, 1) := by decide +kernel
theorem d_W_insert_4 : decode c_W_insert 4 = .ok (.iload_n 1, 1) := by decide +kernel
theorem d_W_insert_5 : decode c_W_insert 5 = .ok (.iload_n 2, 1) := by decide +kernel
theorem d_W_insert_6 : decode c_W_insert 6 = .ok (.iload_n 3, 1) := by decide +kernel
theorem d_W_insert_7 : decode c_W_insert 7 = .ok (.invokevirtual 7, 3) := by decide +kernel
theorem d_W_insert_10 : decode c_W_insert 10 = .ok (.i2l, 1) := by decide +kernel
theorem d_W_insert_11 : decode c_W_insert 11 = .ok (.lastore, 1) := by decide +kernel
theorem d_W_insert_12 : decode c_W_insert 12 = .ok (.goto 15, 3) := by decide +kernel
theorem d_W_insert_15 : decode c_W_insert 15 = .ok (.astore 5, 2) := by decide +kernel
theorem d_W_insert_17 : decode c_W_insert 17 = .ok (.iconst 1, 1) := by decide +kernel
theorem d_W_insert_18 : decode c_W_insert 18 = .ok (.ireturn, 1) := by decide +kernel
theorem d_W_insert_19 : decode c_W_insert 19 = .ok (.astore 5, 2) := by decide +kernel
theorem d_W_insert_21 : decode c_W_insert 21 = .ok (.iconst 2, 1) := by decide +kernel
theorem d_W_insert_22 : decode c_W_insert 22 = .ok (.ireturn, 1) := by decide +kernel
theorem d_W_insert_23 : decode c_W_insert 23 = .ok (.astore 5, 2) := by decide +kernel
theorem d_W_insert_25 : decode c_W_insert 25 = .ok (.iconst 3, 1) := by decide +kernel
theorem d_W_insert_26 : decode c_W_insert 26 = .ok (.ireturn, 1) := by decide +kernel
theorem d_W_insert_27 : decode c_W_insert 27 = .ok (.iconst 0, 1) := by decide +kernel
theorem d_W_insert_28 : decode c_W_insert 28 = .ok (.ireturn, 1) := by decide +kernel
theorem d_W_erase_0 : decode c_W_erase 0 = .ok (.aload_n 3, 1) := by decide +kernel
theorem d_W_erase_1 : decode c_W_erase 1 = .ok (.iconst 0, 1) := by decide +kernel
theorem d_W_erase_2 : decode c_W_erase 2 = .ok (.aload_n 0, 1) := by decide +kernel
theorem d_W_erase_3 : decode c_W_erase 3 = .ok (.iload_n 1, 1) := by decide +kernel
theorem d_W_erase_4 : decode c_W_erase 4 = .ok (.iload_n 2, 1) := by decide +kernel
theorem d_W_erase_5 : decode c_W_erase 5 = .ok (.invokevirtual 19, 3) := by decide +kernel
theorem d_W_erase_8 : decode c_W_erase 8 = .ok (.i2l, 1) := by decide +kernel
theorem d_W_erase_9 : decode c_W_erase 9 = .ok (.lastore, 1) := by decide +kernel
theorem d_W_erase_10 : decode c_W_erase 10 = .ok (.goto 15, 3) := by decide +kernel
theorem d_W_erase_13 : decode c_W_erase 13 = .ok (.astore 4, 2) := by decide +kernel
theorem d_W_erase_15 : decode c_W_erase 15 = .ok (.iconst 1, 1) := by decide +kernel
theorem d_W_erase_16 : decode c_W_erase 16 = .ok (.ireturn, 1) := by decide +kernel
theorem d_W_erase_17 : decode c_W_erase 17 = .ok (.astore 4, 2) := by decide +kernel
theorem d_W_erase_19 : decode c_W_erase 19 = .ok (.iconst 2, 1) := by decide +kernel
theorem d_W_erase_20 : decode c_W_erase 20 = .ok (.ireturn, 1) := by decide +kernel
theorem d_W_erase_21 : decode c_W_erase 21 = .ok (.astore 4, 2) := by decide +kernel
theorem d_W_erase_23 : decode c_W_erase 23 = .ok (.iconst 3, 1) := by decide +kernel
theorem d_W_erase_24 : decode c_W_erase 24 = .ok (.ireturn, 1) := by decide +kernel
theorem d_W_erase_25 : decode c_W_erase 25 = .ok (.iconst 0, 1) := by decide +kernel
theorem d_W_erase_26 : decode c_W_erase 26 = .ok (.ireturn, 1) := by decide +kernel
theorem d_W_undo_0 : decode c_W_undo 0 = .ok (.aload_n 2, 1) := by decide +kernel
theorem d_W_undo_1 : decode c_W_undo 1 = .ok (.iconst 0, 1) := by decide +kernel
theorem d_W_undo_2 : decode c_W_undo 2 = .ok (.aload_n 0, 1) := by decide +kernel
theorem d_W_undo_3 : decode c_W_undo 3 = .ok (.iload_n 1, 1) := by decide +kernel
theorem d_W_undo_4 : decode c_W_undo 4 = .ok (.invokevirtual 23, 3) := by decide +kernel
theorem d_W_undo_7 : decode c_W_undo 7 = .ok (.i2l, 1) := by decide +kernel
theorem d_W_undo_8 : decode c_W_undo 8 = .ok (.lastore, 1) := by decide +kernel
theorem d_W_undo_9 : decode c_W_undo 9 = .ok (.goto 12, 3) := by decide +kernel
theorem d_W_undo_12 : decode c_W_undo 12 = .ok (.astore_n 3, 1) := by decide +kernel
theorem d_W_undo_13 : decode c_W_undo 13 = .ok (.iconst 1, 1) := by decide +kernel
theorem d_W_undo_14 : decode c_W_undo 14 = .ok (.ireturn, 1) := by decide +kernel
theorem d_W_undo_15 : decode c_W_undo 15 = .ok (.astore_n 3, 1) := by decide +kernel
theorem d_W_undo_16 : decode c_W_undo 16 = .ok (.iconst 2, 1) := by decide +kernel
theorem d_W_undo_17 : decode c_W_undo 17 = .ok (.ireturn, 1) := by decide +kernel
theorem d_W_undo_18 : decode c_W_undo 18 = .ok (.astore_n 3, 1) := by decide +kernel
theorem d_W_undo_19 : decode c_W_undo 19 = .ok (.iconst 3, 1) := by decide +kernel
theorem d_W_undo_20 : decode c_W_undo 20 = .ok (.ireturn, 1) := by decide +kernel
theorem d_W_undo_21 : decode c_W_undo 21 = .ok (.iconst 0, 1) := by decide +kernel
theorem d_W_undo_22 : decode c_W_undo 22 = .ok (.ireturn, 1) := by decide +kernel
theorem d_W_character_0 : decode c_W_character 0 = .ok (.aload_n 3, 1) := by decide +kernel
theorem d_W_character_1 : decode c_W_character 1 = .ok (.iconst 0, 1) := by decide +kernel
theorem d_W_character_2 : decode c_W_character 2 = .ok (.aload_n 0, 1) := by decide +kernel
theorem d_W_character_3 : decode c_W_character 3 = .ok (.iload_n 1, 1) := by decide +kernel
theorem d_W_character_4 : decode c_W_character 4 = .ok (.iload_n 2, 1) := by decide +kernel
theorem d_W_character_5 : decode c_W_character 5 = .ok (.invokevirtual 29, 3) := by decide +kernel
theorem d_W_character_8 : decode c_W_character 8 = .ok (.i2l, 1) := by decide +kernel
theorem d_W_character_9 : decode c_W_character 9 = .ok (.lastore, 1) := by decide +kernel
theorem d_W_character_10 : decode c_W_character 10 = .ok (.goto 15, 3) := by decide +kernel
theorem d_W_character_13 : decode c_W_character 13 = .ok (.astore 4, 2) := by decide +kernel
theorem d_W_character_15 : decode c_W_character 15 = .ok (.iconst 1, 1) := by decide +kernel
theorem d_W_character_16 : decode c_W_character 16 = .ok (.ireturn, 1) := by decide +kernel
theorem d_W_character_17 : decode c_W_character 17 = .ok (.astore 4, 2) := by decide +kernel
theorem d_W_character_19 : decode c_W_character 19 = .ok (.iconst 2, 1) := by decide +kernel
theorem d_W_character_20 : decode c_W_character 20 = .ok (.ireturn, 1) := by decide +kernel
theorem d_W_character_21 : decode c_W_character 21 = .ok (.astore 4, 2) := by decide +kernel
theorem d_W_character_23 : decode c_W_character 23 = .ok (.iconst 3, 1) := by decide +kernel
theorem d_W_character_24 : decode c_W_character 24 = .ok (.ireturn, 1) := by decide +kernel
theorem d_W_character_25 : decode c_W_character 25 = .ok (.iconst 0, 1) := by decide +kernel
theorem d_W_character_26 : decode c_W_character 26 = .ok (.ireturn, 1) := by decide +kernel
theorem d_W_law_0 : decode code 0 = .ok (.new 8, 3) := by decide +kernel
theorem d_W_law_3 : decode code 3 = .ok (.dup, 1) := by decide +kernel
theorem d_W_law_4 : decode code 4 = .ok (.invokespecial 32, 3) := by decide +kernel
theorem d_W_law_7 : decode code 7 = .ok (.astore_n 1, 1) := by decide +kernel
theorem d_W_law_8 : decode code 8 = .ok (.new 33, 3) := by decide +kernel
theorem d_W_law_11 : decode code 11 = .ok (.dup, 1) := by decide +kernel
theorem d_W_law_12 : decode code 12 = .ok (.invokespecial 35, 3) := by decide +kernel
theorem d_W_law_15 : decode code 15 = .ok (.astore_n 2, 1) := by decide +kernel
theorem d_W_law_16 : decode code 16 = .ok (.iconst 1, 1) := by decide +kernel
theorem d_W_law_17 : decode code 17 = .ok (.newarray .long, 2) := by decide +kernel
theorem d_W_law_19 : decode code 19 = .ok (.astore_n 3, 1) := by decide +kernel
theorem d_W_law_20 : decode code 20 = .ok (.iconst 0, 1) := by decide +kernel
theorem d_W_law_21 : decode code 21 = .ok (.istore 4, 2) := by decide +kernel
theorem d_W_law_23 : decode code 23 = .ok (.iload 4, 2) := by decide +kernel
theorem d_W_law_25 : decode code 25 = .ok (.aload_n 0, 1) := by decide +kernel
theorem d_W_law_26 : decode code 26 = .ok (.arraylength, 1) := by decide +kernel
theorem d_W_law_27 : decode code 27 = .ok (.iconst 4, 1) := by decide +kernel
theorem d_W_law_28 : decode code 28 = .ok (.isub, 1) := by decide +kernel
theorem d_W_law_29 : decode code 29 = .ok (.if_icmp .gt 766, 3) := by decide +kernel
theorem d_W_law_32 : decode code 32 = .ok (.aload_n 0, 1) := by decide +kernel
theorem d_W_law_33 : decode code 33 = .ok (.iload 4, 2) := by decide +kernel
theorem d_W_law_35 : decode code 35 = .ok (.iaload, 1) := by decide +kernel
theorem d_W_law_36 : decode code 36 = .ok (.bipush 31, 2) := by decide +kernel
theorem d_W_law_38 : decode code 38 = .ok (.iand, 1) := by decide +kernel
theorem d_W_law_39 : decode code 39 = .ok (.tableswitch 750 0 18 #[89, 169, 237, 293, 318, 386, 411, 436, 473, 486, 523, 548, 573, 598, 635, 646, 699, 724, 737], 89) := by decide +kernel
theorem d_W_law_128 : decode code 128 = .ok (.aload_n 1, 1) := by decide +kernel
theorem d_W_law_129 : decode code 129 = .ok (.aload_n 0, 1) := by decide +kernel
theorem d_W_law_130 : decode code 130 = .ok (.iload 4, 2) := by decide +kernel
theorem d_W_law_132 : decode code 132 = .ok (.iconst 1, 1) := by decide +kernel
theorem d_W_law_133 : decode code 133 = .ok (.iadd, 1) := by decide +kernel
theorem d_W_law_134 : decode code 134 = .ok (.iaload, 1) := by decide +kernel
theorem d_W_law_135 : decode code 135 = .ok (.aload_n 0, 1) := by decide +kernel
theorem d_W_law_136 : decode code 136 = .ok (.iload 4, 2) := by decide +kernel
theorem d_W_law_138 : decode code 138 = .ok (.iconst 2, 1) := by decide +kernel
theorem d_W_law_139 : decode code 139 = .ok (.iadd, 1) := by decide +kernel
theorem d_W_law_140 : decode code 140 = .ok (.iaload, 1) := by decide +kernel
theorem d_W_law_141 : decode code 141 = .ok (.aload_n 0, 1) := by decide +kernel
theorem d_W_law_142 : decode code 142 = .ok (.iload 4, 2) := by decide +kernel
theorem d_W_law_144 : decode code 144 = .ok (.iconst 3, 1) := by decide +kernel
theorem d_W_law_145 : decode code 145 = .ok (.iadd, 1) := by decide +kernel
theorem d_W_law_146 : decode code 146 = .ok (.iaload, 1) := by decide +kernel
theorem d_W_law_147 : decode code 147 = .ok (.aload_n 3, 1) := by decide +kernel
theorem d_W_law_148 : decode code 148 = .ok (.invokestatic 36, 3) := by decide +kernel
theorem d_W_law_151 : decode code 151 = .ok (.istore 5, 2) := by decide +kernel
theorem d_W_law_153 : decode code 153 = .ok (.aload_n 2, 1) := by decide +kernel
theorem d_W_law_154 : decode code 154 = .ok (.aload_n 0, 1) := by decide +kernel
theorem d_W_law_155 : decode code 155 = .ok (.iload 4, 2) := by decide +kernel
theorem d_W_law_157 : decode code 157 = .ok (.iconst 1, 1) := by decide +kernel
theorem d_W_law_158 : decode code 158 = .ok (.iadd, 1) := by decide +kernel
theorem d_W_law_159 : decode code 159 = .ok (.iaload, 1) := by decide +kernel
theorem d_W_law_160 : decode code 160 = .ok (.aload_n 0, 1) := by decide +kernel
theorem d_W_law_161 : decode code 161 = .ok (.iload 4, 2) := by decide +kernel
theorem d_W_law_163 : decode code 163 = .ok (.iconst 2, 1) := by decide +kernel
theorem d_W_law_164 : decode code 164 = .ok (.iadd, 1) := by decide +kernel
theorem d_W_law_165 : decode code 165 = .ok (.iaload, 1) := by decide +kernel
theorem d_W_law_166 : decode code 166 = .ok (.aload_n 0, 1) := by decide +kernel
theorem d_W_law_167 : decode code 167 = .ok (.iload 4, 2) := by decide +kernel
theorem d_W_law_169 : decode code 169 = .ok (.iconst 3, 1) := by decide +kernel
theorem d_W_law_170 : decode code 170 = .ok (.iadd, 1) := by decide +kernel
theorem d_W_law_171 : decode code 171 = .ok (.iaload, 1) := by decide +kernel
theorem d_W_law_172 : decode code 172 = .ok (.invokevirtual 41, 3) := by decide +kernel
theorem d_W_law_175 : decode code 175 = .ok (.istore 6, 2) := by decide +kernel
theorem d_W_law_177 : decode code 177 = .ok (.aload_n 2, 1) := by decide +kernel
theorem d_W_law_178 : decode code 178 = .ok (.invokevirtual 42, 3) := by decide +kernel
theorem d_W_law_181 : decode code 181 = .ok (.iload 5, 2) := by decide +kernel
theorem d_W_law_183 : decode code 183 = .ok (.if_icmp .eq 5, 3) := by decide +kernel
theorem d_W_law_186 : decode code 186 = .ok (.iconst 0, 1) := by decide +kernel
theorem d_W_law_187 : decode code 187 = .ok (.ireturn, 1) := by decide +kernel
theorem d_W_law_188 : decode code 188 = .ok (.iload 5, 2) := by decide +kernel
theorem d_W_law_190 : decode code 190 = .ok (.ifCond .ne 15, 3) := by decide +kernel
theorem d_W_law_193 : decode code 193 = .ok (.aload_n 3, 1) := by decide +kernel
theorem d_W_law_194 : decode code 194 = .ok (.iconst 0, 1) := by decide +kernel
theorem d_W_law_195 : decode code 195 = .ok (.laload, 1) := by decide +kernel
theorem d_W_law_196 : decode code 196 = .ok (.iload 6, 2) := by decide +kernel
theorem d_W_law_198 : decode code 198 = .ok (.i2l, 1) := by decide +kernel
theorem d_W_law_199 : decode code 199 = .ok (.lcmp, 1) := by decide +kernel
theorem d_W_law_200 : decode code 200 = .ok (.ifCond .eq 5, 3) := by decide +kernel
theorem d_W_law_203 : decode code 203 = .ok (.iconst 0, 1) := by decide +kernel
theorem d_W_law_204 : decode code 204 = .ok (.ireturn, 1) := by decide +kernel
theorem d_W_law_205 : decode code 205 = .ok (.goto 584, 3) := by decide +kernel
theorem d_W_law_208 : decode code 208 = .ok (.aload_n 1, 1) := by decide +kernel
theorem d_W_law_209 : decode code 209 = .ok (.aload_n 0, 1) := by decide +kernel
theorem d_W_law_210 : decode code 210 = .ok (.iload 4, 2) := by decide +kernel
theorem d_W_law_212 : decode code 212 = .ok (.iconst 1, 1) := by decide +kernel
theorem d_W_law_213 : decode code 213 = .ok (.iadd, 1) := by decide +kernel
theorem d_W_law_214 : decode code 214 = .ok (.iaload, 1) := by decide +kernel
theorem d_W_law_215 : decode code 215 = .ok (.aload_n 0, 1) := by decide +kernel
theorem d_W_law_216 : decode code 216 = .ok (.iload 4, 2) := by decide +kernel
theorem d_W_law_218 : decode code 218 = .ok (.iconst 2, 1) := by decide +kernel
theorem d_W_law_219 : decode code 219 = .ok (.iadd, 1) := by decide +kernel
theorem d_W_law_220 : decode code 220 = .ok (.iaload, 1) := by decide +kernel
theorem d_W_law_221 : decode code 221 = .ok (.aload_n 3, 1) := by decide +kernel
theorem d_W_law_222 : decode code 222 = .ok (.invokestatic 46, 3) := by decide +kernel
theorem d_W_law_225 : decode code 225 = .ok (.istore 5, 2) := by decide +kernel
theorem d_W_law_227 : decode code 227 = .ok (.aload_n 2, 1) := by decide +kernel
theorem d_W_law_228 : decode code 228 = .ok (.aload_n 0, 1) := by decide +kernel
theorem d_W_law_229 : decode code 229 = .ok (.iload 4, 2) := by decide +kernel
theorem d_W_law_231 : decode code 231 = .ok (.iconst 1, 1) := by decide +kernel
theorem d_W_law_232 : decode code 232 = .ok (.iadd, 1) := by decide +kernel
theorem d_W_law_233 : decode code 233 = .ok (.iaload, 1) := by decide +kernel
theorem d_W_law_234 : decode code 234 = .ok (.aload_n 0, 1) := by decide +kernel
theorem d_W_law_235 : decode code 235 = .ok (.iload 4, 2) := by decide +kernel
theorem d_W_law_237 : decode code 237 = .ok (.iconst 2, 1) := by decide +kernel
theorem d_W_law_238 : decode code 238 = .ok (.iadd, 1) := by decide +kernel
theorem d_W_law_239 : decode code 239 = .ok (.iaload, 1) := by decide +kernel
theorem d_W_law_240 : decode code 240 = .ok (.invokevirtual 49, 3) := by decide +kernel
theorem d_W_law_243 : decode code 243 = .ok (.istore 6, 2) := by decide +kernel
theorem d_W_law_245 : decode code 245 = .ok (.aload_n 2, 1) := by decide +kernel
theorem d_W_law_246 : decode code 246 = .ok (.invokevirtual 42, 3) := by decide +kernel
theorem d_W_law_249 : decode code 249 = .ok (.iload 5, 2) := by decide +kernel
theorem d_W_law_251 : decode code 251 = .ok (.if_icmp .eq 5, 3) := by decide +kernel
theorem d_W_law_254 : decode code 254 = .ok (.iconst 0, 1) := by decide +kernel
theorem d_W_law_255 : decode code 255 = .ok (.ireturn, 1) := by decide +kernel
theorem d_W_law_256 : decode code 256 = .ok (.iload 5, 2) := by decide +kernel
theorem d_W_law_258 : decode code 258 = .ok (.ifCond .ne 15, 3) := by decide +kernel
theorem d_W_law_261 : decode code 261 = .ok (.aload_n 3, 1) := by decide +kernel
theorem d_W_law_262 : decode code 262 = .ok (.iconst 0, 1) := by decide +kernel
theorem d_W_law_263 : decode code 263 = .ok (.laload, 1) := by decide +kernel
theorem d_W_law_264 : decode code 264 = .ok (.iload 6, 2) := by decide +kernel
theorem d_W_law_266 : decode code 266 = .ok (.i2l, 1) := by decide +kernel
theorem d_W_law_267 : decode code 267 = .ok (.lcmp, 1) := by decide +kernel
theorem d_W_law_268 : decode code 268 = .ok (.ifCond .eq 5, 3) := by decide +kernel
theorem d_W_law_271 : decode code 271 = .ok (.iconst 0, 1) := by decide +kernel
theorem d_W_law_272 : decode code 272 = .ok (.ireturn, 1) := by decide +kernel
theorem d_W_law_273 : decode code 273 = .ok (.goto 516, 3) := by decide +kernel
theorem d_W_law_276 : decode code 276 = .ok (.aload_n 1, 1) := by decide +kernel
theorem d_W_law_277 : decode code 277 = .ok (.aload_n 0, 1) := by decide +kernel
theorem d_W_law_278 : decode code 278 = .ok (.iload 4, 2) := by decide +kernel
theorem d_W_law_280 : decode code 280 = .ok (.iconst 1, 1) := by decide +kernel
theorem d_W_law_281 : decode code 281 = .ok (.iadd, 1) := by decide +kernel
theorem d_W_law_282 : decode code 282 = .ok (.iaload, 1) := by decide +kernel
theorem d_W_law_283 : decode code 283 = .ok (.aload_n 3, 1) := by decide +kernel
theorem d_W_law_284 : decode code 284 = .ok (.invokestatic 50, 3) := by decide +kernel
theorem d_W_law_287 : decode code 287 = .ok (.istore 5, 2) := by decide +kernel
theorem d_W_law_289 : decode code 289 = .ok (.aload_n 2, 1) := by decide +kernel
theorem d_W_law_290 : decode code 290 = .ok (.aload_n 0, 1) := by decide +kernel
theorem d_W_law_291 : decode code 291 = .ok (.iload 4, 2) := by decide +kernel
theorem d_W_law_293 : decode code 293 = .ok (.iconst 1, 1) := by decide +kernel
theorem d_W_law_294 : decode code 294 = .ok (.iadd, 1) := by decide +kernel
theorem d_W_law_295 : decode code 295 = .ok (.iaload, 1) := by decide +kernel
theorem d_W_law_296 : decode code 296 = .ok (.invokevirtual 53, 3) := by decide +kernel
theorem d_W_law_299 : decode code 299 = .ok (.istore 6, 2) := by decide +kernel
theorem d_W_law_301 : decode code 301 = .ok (.aload_n 2, 1) := by decide +kernel
theorem d_W_law_302 : decode code 302 = .ok (.invokevirtual 42, 3) := by decide +kernel
theorem d_W_law_305 : decode code 305 = .ok (.iload 5, 2) := by decide +kernel
theorem d_W_law_307 : decode code 307 = .ok (.if_icmp .eq 5, 3) := by decide +kernel
theorem d_W_law_310 : decode code 310 = .ok (.iconst 0, 1) := by decide +kernel
theorem d_W_law_311 : decode code 311 = .ok (.ireturn, 1) := by decide +kernel
theorem d_W_law_312 : decode code 312 = .ok (.iload 5, 2) := by decide +kernel
theorem d_W_law_314 : decode code 314 = .ok (.ifCond .ne 15, 3) := by decide +kernel
theorem d_W_law_317 : decode code 317 = .ok (.aload_n 3, 1) := by decide +kernel
theorem d_W_law_318 : decode code 318 = .ok (.iconst 0, 1) := by decide +kernel
theorem d_W_law_319 : decode code 319 = .ok (.laload, 1) := by decide +kernel
theorem d_W_law_320 : decode code 320 = .ok (.iload 6, 2) := by decide +kernel
theorem d_W_law_322 : decode code 322 = .ok (.i2l, 1) := by decide +kernel
theorem d_W_law_323 : decode code 323 = .ok (.lcmp, 1) := by decide +kernel
theorem d_W_law_324 : decode code 324 = .ok (.ifCond .eq 5, 3) := by decide +kernel
theorem d_W_law_327 : decode code 327 = .ok (.iconst 0, 1) := by decide +kernel
theorem d_W_law_328 : decode code 328 = .ok (.ireturn, 1) := by decide +kernel
theorem d_W_law_329 : decode code 329 = .ok (.goto 460, 3) := by decide +kernel
theorem d_W_law_332 : decode code 332 = .ok (.aload_n 1, 1) := by decide +kernel
theorem d_W_law_333 : decode code 333 = .ok (.aload_n 0, 1) := by decide +kernel
theorem d_W_law_334 : decode code 334 = .ok (.iload 4, 2) := by decide +kernel
theorem d_W_law_336 : decode code 336 = .ok (.iconst 1, 1) := by decide +kernel
theorem d_W_law_337 : decode code 337 = .ok (.iadd, 1) := by decide +kernel
theorem d_W_law_338 : decode code 338 = .ok (.iaload, 1) := by decide +kernel
theorem d_W_law_339 : decode code 339 = .ok (.invokevirtual 54, 3) := by decide +kernel
theorem d_W_law_342 : decode code 342 = .ok (.aload_n 2, 1) := by decide +kernel
theorem d_W_law_343 : decode code 343 = .ok (.aload_n 0, 1) := by decide +kernel
theorem d_W_law_344 : decode code 344 = .ok (.iload 4, 2) := by decide +kernel
theorem d_W_law_346 : decode code 346 = .ok (.iconst 1, 1) := by decide +kernel
theorem d_W_law_347 : decode code 347 = .ok (.iadd, 1) := by decide +kernel
theorem d_W_law_348 : decode code 348 = .ok (.iaload, 1) := by decide +kernel
theorem d_W_law_349 : decode code 349 = .ok (.invokevirtual 57, 3) := by decide +kernel
theorem d_W_law_352 : decode code 352 = .ok (.if_icmp .eq 437, 3) := by decide +kernel
theorem d_W_law_355 : decode code 355 = .ok (.iconst 0, 1) := by decide +kernel
theorem d_W_law_356 : decode code 356 = .ok (.ireturn, 1) := by decide +kernel
theorem d_W_law_357 : decode code 357 = .ok (.aload_n 1, 1) := by decide +kernel
theorem d_W_law_358 : decode code 358 = .ok (.aload_n 0, 1) := by decide +kernel
theorem d_W_law_359 : decode code 359 = .ok (.iload 4, 2) := by decide +kernel
theorem d_W_law_361 : decode code 361 = .ok (.iconst 1, 1) := by decide +kernel
theorem d_W_law_362 : decode code 362 = .ok (.iadd, 1) := by decide +kernel
theorem d_W_law_363 : decode code 363 = .ok (.iaload, 1) := by decide +kernel
theorem d_W_law_364 : decode code 364 = .ok (.aload_n 0, 1) := by decide +kernel
theorem d_W_law_365 : decode code 365 = .ok (.iload 4, 2) := by decide +kernel
theorem d_W_law_367 : decode code 367 = .ok (.iconst 2, 1) := by decide +kernel
theorem d_W_law_368 : decode code 368 = .ok (.iadd, 1) := by decide +kernel
theorem d_W_law_369 : decode code 369 = .ok (.iaload, 1) := by decide +kernel
theorem d_W_law_370 : decode code 370 = .ok (.aload_n 3, 1) := by decide +kernel
theorem d_W_law_371 : decode code 371 = .ok (.invokestatic 58, 3) := by decide +kernel
theorem d_W_law_374 : decode code 374 = .ok (.istore 5, 2) := by decide +kernel
theorem d_W_law_376 : decode code 376 = .ok (.aload_n 2, 1) := by decide +kernel
theorem d_W_law_377 : decode code 377 = .ok (.aload_n 0, 1) := by decide +kernel
theorem d_W_law_378 : decode code 378 = .ok (.iload 4, 2) := by decide +kernel
theorem d_W_law_380 : decode code 380 = .ok (.iconst 1, 1) := by decide +kernel
theorem d_W_law_381 : decode code 381 = .ok (.iadd, 1) := by decide +kernel
theorem d_W_law_382 : decode code 382 = .ok (.iaload, 1) := by decide +kernel
theorem d_W_law_383 : decode code 383 = .ok (.aload_n 0, 1) := by decide +kernel
theorem d_W_law_384 : decode code 384 = .ok (.iload 4, 2) := by decide +kernel
theorem d_W_law_386 : decode code 386 = .ok (.iconst 2, 1) := by decide +kernel
theorem d_W_law_387 : decode code 387 = .ok (.iadd, 1) := by decide +kernel
theorem d_W_law_388 : decode code 388 = .ok (.iaload, 1) := by decide +kernel
theorem d_W_law_389 : decode code 389 = .ok (.invokevirtual 60, 3) := by decide +kernel
theorem d_W_law_392 : decode code 392 = .ok (.istore 6, 2) := by decide +kernel
theorem d_W_law_394 : decode code 394 = .ok (.aload_n 2, 1) := by decide +kernel
theorem d_W_law_395 : decode code 395 = .ok (.invokevirtual 42, 3) := by decide +kernel
theorem d_W_law_398 : decode code 398 = .ok (.iload 5, 2) := by decide +kernel
theorem d_W_law_400 : decode code 400 = .ok (.if_icmp .eq 5, 3) := by decide +kernel
theorem d_W_law_403 : decode code 403 = .ok (.iconst 0, 1) := by decide +kernel
theorem d_W_law_404 : decode code 404 = .ok (.ireturn, 1) := by decide +kernel
theorem d_W_law_405 : decode code 405 = .ok (.iload 5, 2) := by decide +kernel
theorem d_W_law_407 : decode code 407 = .ok (.ifCond .ne 15, 3) := by decide +kernel
theorem d_W_law_410 : decode code 410 = .ok (.aload_n 3, 1) := by decide +kernel
theorem d_W_law_411 : decode code 411 = .ok (.iconst 0, 1) := by decide +kernel
theorem d_W_law_412 : decode code 412 = .ok (.laload, 1) := by decide +kernel
theorem d_W_law_413 : decode code 413 = .ok (.iload 6, 2) := by decide +kernel
theorem d_W_law_415 : decode code 415 = .ok (.i2l, 1) := by decide +kernel
theorem d_W_law_416 : decode code 416 = .ok (.lcmp, 1) := by decide +kernel
theorem d_W_law_417 : decode code 417 = .ok (.ifCond .eq 5, 3) := by decide +kernel
theorem d_W_law_420 : decode code 420 = .ok (.iconst 0, 1) := by decide +kernel
theorem d_W_law_421 : decode code 421 = .ok (.ireturn, 1) := by decide +kernel
theorem d_W_law_422 : decode code 422 = .ok (.goto 367, 3) := by decide +kernel
theorem d_W_law_425 : decode code 425 = .ok (.aload_n 1, 1) := by decide +kernel
theorem d_W_law_426 : decode code 426 = .ok (.aload_n 0, 1) := by decide +kernel
theorem d_W_law_427 : decode code 427 = .ok (.iload 4, 2) := by decide +kernel
theorem d_W_law_429 : decode code 429 = .ok (.iconst 1, 1) := by decide +kernel
theorem d_W_law_430 : decode code 430 = .ok (.iadd, 1) := by decide +kernel
theorem d_W_law_431 : decode code 431 = .ok (.iaload, 1) := by decide +kernel
theorem d_W_law_432 : decode code 432 = .ok (.invokevirtual 61, 3) := by decide +kernel
theorem d_W_law_435 : decode code 435 = .ok (.aload_n 2, 1) := by decide +kernel
theorem d_W_law_436 : decode code 436 = .ok (.aload_n 0, 1) := by decide +kernel
theorem d_W_law_437 : decode code 437 = .ok (.iload 4, 2) := by decide +kernel
theorem d_W_law_439 : decode code 439 = .ok (.iconst 1, 1) := by decide +kernel
theorem d_W_law_440 : decode code 440 = .ok (.iadd, 1) := by decide +kernel
theorem d_W_law_441 : decode code 441 = .ok (.iaload, 1) := by decide +kernel
theorem d_W_law_442 : decode code 442 = .ok (.invokevirtual 64, 3) := by decide +kernel
theorem d_W_law_445 : decode code 445 = .ok (.if_icmp .eq 344, 3) := by decide +kernel
theorem d_W_law_448 : decode code 448 = .ok (.iconst 0, 1) := by decide +kernel
theorem d_W_law_449 : decode code 449 = .ok (.ireturn, 1) := by decide +kernel
theorem d_W_law_450 : decode code 450 = .ok (.aload_n 1, 1) := by decide +kernel
theorem d_W_law_451 : decode code 451 = .ok (.aload_n 0, 1) := by decide +kernel
theorem d_W_law_452 : decode code 452 = .ok (.iload 4, 2) := by decide +kernel
theorem d_W_law_454 : decode code 454 = .ok (.iconst 1, 1) := by decide +kernel
theorem d_W_law_455 : decode code 455 = .ok (.iadd, 1) := by decide +kernel
theorem d_W_law_456 : decode code 456 = .ok (.iaload, 1) := by decide +kernel
theorem d_W_law_457 : decode code 457 = .ok (.invokevirtual 65, 3) := by decide +kernel
theorem d_W_law_460 : decode code 460 = .ok (.aload_n 2, 1) := by decide +kernel
theorem d_W_law_461 : decode code 461 = .ok (.aload_n 0, 1) := by decide +kernel
theorem d_W_law_462 : decode code 462 = .ok (.iload 4, 2) := by decide +kernel
theorem d_W_law_464 : decode code 464 = .ok (.iconst 1, 1) := by decide +kernel
theorem d_W_law_465 : decode code 465 = .ok (.iadd, 1) := by decide +kernel
theorem d_W_law_466 : decode code 466 = .ok (.iaload, 1) := by decide +kernel
theorem d_W_law_467 : decode code 467 = .ok (.invokevirtual 68, 3) := by decide +kernel
theorem d_W_law_470 : decode code 470 = .ok (.if_icmp .eq 319, 3) := by decide +kernel
theorem d_W_law_473 : decode code 473 = .ok (.iconst 0, 1) := by decide +kernel
theorem d_W_law_474 : decode code 474 = .ok (.ireturn, 1) := by decide +kernel
theorem d_W_law_475 : decode code 475 = .ok (.aload_n 1, 1) := by decide +kernel
theorem d_W_law_476 : decode code 476 = .ok (.aload_n 0, 1) := by decide +kernel
theorem d_W_law_477 : decode code 477 = .ok (.iload 4, 2) := by decide +kernel
theorem d_W_law_479 : decode code 479 = .ok (.iconst 1, 1) := by decide +kernel
theorem d_W_law_480 : decode code 480 = .ok (.iadd, 1) := by decide +kernel
theorem d_W_law_481 : decode code 481 = .ok (.iaload, 1) := by decide +kernel
theorem d_W_law_482 : decode code 482 = .ok (.aload_n 0, 1) := by decide +kernel
theorem d_W_law_483 : decode code 483 = .ok (.iload 4, 2) := by decide +kernel
theorem d_W_law_485 : decode code 485 = .ok (.iconst 2, 1) := by decide +kernel
theorem d_W_law_486 : decode code 486 = .ok (.iadd, 1) := by decide +kernel
theorem d_W_law_487 : decode code 487 = .ok (.iaload, 1) := by decide +kernel
theorem d_W_law_488 : decode code 488 = .ok (.invokevirtual 69, 3) := by decide +kernel
theorem d_W_law_491 : decode code 491 = .ok (.aload_n 2, 1) := by decide +kernel
theorem d_W_law_492 : decode code 492 = .ok (.aload_n 0, 1) := by decide +kernel
theorem d_W_law_493 : decode code 493 = .ok (.iload 4, 2) := by decide +kernel
theorem d_W_law_495 : decode code 495 = .ok (.iconst 1, 1) := by decide +kernel
theorem d_W_law_496 : decode code 496 = .ok (.iadd, 1) := by decide +kernel
theorem d_W_law_497 : decode code 497 = .ok (.iaload, 1) := by decide +kernel
theorem d_W_law_498 : decode code 498 = .ok (.aload_n 0, 1) := by decide +kernel
theorem d_W_law_499 : decode code 499 = .ok (.iload 4, 2) := by decide +kernel
theorem d_W_law_501 : decode code 501 = .ok (.iconst 2, 1) := by decide +kernel
theorem d_W_law_502 : decode code 502 = .ok (.iadd, 1) := by decide +kernel
theorem d_W_law_503 : decode code 503 = .ok (.iaload, 1) := by decide +kernel
theorem d_W_law_504 : decode code 504 = .ok (.invokevirtual 72, 3) := by decide +kernel
theorem d_W_law_507 : decode code 507 = .ok (.if_icmp .eq 282, 3) := by decide +kernel
theorem d_W_law_510 : decode code 510 = .ok (.iconst 0, 1) := by decide +kernel
theorem d_W_law_511 : decode code 511 = .ok (.ireturn, 1) := by decide +kernel
theorem d_W_law_512 : decode code 512 = .ok (.aload_n 1, 1) := by decide +kernel
theorem d_W_law_513 : decode code 513 = .ok (.invokevirtual 73, 3) := by decide +kernel
theorem d_W_law_516 : decode code 516 = .ok (.aload_n 2, 1) := by decide +kernel
theorem d_W_law_517 : decode code 517 = .ok (.invokevirtual 76, 3) := by decide +kernel
theorem d_W_law_520 : decode code 520 = .ok (.if_icmp .eq 269, 3) := by decide +kernel
theorem d_W_law_523 : decode code 523 = .ok (.iconst 0, 1) := by decide +kernel
theorem d_W_law_524 : decode code 524 = .ok (.ireturn, 1) := by decide +kernel
theorem d_W_law_525 : decode code 525 = .ok (.aload_n 1, 1) := by decide +kernel
theorem d_W_law_526 : decode code 526 = .ok (.aload_n 0, 1) := by decide +kernel
theorem d_W_law_527 : decode code 527 = .ok (.iload 4, 2) := by decide +kernel
theorem d_W_law_529 : decode code 529 = .ok (.iconst 1, 1) := by decide +kernel
theorem d_W_law_530 : decode code 530 = .ok (.iadd, 1) := by decide +kernel
theorem d_W_law_531 : decode code 531 = .ok (.iaload, 1) := by decide +kernel
theorem d_W_law_532 : decode code 532 = .ok (.aload_n 0, 1) := by decide +kernel
theorem d_W_law_533 : decode code 533 = .ok (.iload 4, 2) := by decide +kernel
theorem d_W_law_535 : decode code 535 = .ok (.iconst 2, 1) := by decide +kernel
theorem d_W_law_536 : decode code 536 = .ok (.iadd, 1) := by decide +kernel
theorem d_W_law_537 : decode code 537 = .ok (.iaload, 1) := by decide +kernel
theorem d_W_law_538 : decode code 538 = .ok (.invokevirtual 77, 3) := by decide +kernel
theorem d_W_law_541 : decode code 541 = .ok (.aload_n 2, 1) := by decide +kernel
theorem d_W_law_542 : decode code 542 = .ok (.aload_n 0, 1) := by decide +kernel
theorem d_W_law_543 : decode code 543 = .ok (.iload 4, 2) := by decide +kernel
theorem d_W_law_545 : decode code 545 = .ok (.iconst 1, 1) := by decide +kernel
theorem d_W_law_546 : decode code 546 = .ok (.iadd, 1) := by decide +kernel
theorem d_W_law_547 : decode code 547 = .ok (.iaload, 1) := by decide +kernel
theorem d_W_law_548 : decode code 548 = .ok (.aload_n 0, 1) := by decide +kernel
theorem d_W_law_549 : decode code 549 = .ok (.iload 4, 2) := by decide +kernel
theorem d_W_law_551 : decode code 551 = .ok (.iconst 2, 1) := by decide +kernel
theorem d_W_law_552 : decode code 552 = .ok (.iadd, 1) := by decide +kernel
theorem d_W_law_553 : decode code 553 = .ok (.iaload, 1) := by decide +kernel
theorem d_W_law_554 : decode code 554 = .ok (.invokevirtual 80, 3) := by decide +kernel
theorem d_W_law_557 : decode code 557 = .ok (.if_icmp .eq 232, 3) := by decide +kernel
theorem d_W_law_560 : decode code 560 = .ok (.iconst 0, 1) := by decide +kernel
theorem d_W_law_561 : decode code 561 = .ok (.ireturn, 1) := by decide +kernel
theorem d_W_law_562 : decode code 562 = .ok (.aload_n 1, 1) := by decide +kernel
theorem d_W_law_563 : decode code 563 = .ok (.aload_n 0, 1) := by decide +kernel
theorem d_W_law_564 : decode code 564 = .ok (.iload 4, 2) := by decide +kernel
theorem d_W_law_566 : decode code 566 = .ok (.iconst 1, 1) := by decide +kernel
theorem d_W_law_567 : decode code 567 = .ok (.iadd, 1) := by decide +kernel
theorem d_W_law_568 : decode code 568 = .ok (.iaload, 1) := by decide +kernel
theorem d_W_law_569 : decode code 569 = .ok (.invokevirtual 81, 3) := by decide +kernel
theorem d_W_law_572 : decode code 572 = .ok (.aload_n 2, 1) := by decide +kernel
theorem d_W_law_573 : decode code 573 = .ok (.aload_n 0, 1) := by decide +kernel
theorem d_W_law_574 : decode code 574 = .ok (.iload 4, 2) := by decide +kernel
theorem d_W_law_576 : decode code 576 = .ok (.iconst 1, 1) := by decide +kernel
theorem d_W_law_577 : decode code 577 = .ok (.iadd, 1) := by decide +kernel
theorem d_W_law_578 : decode code 578 = .ok (.iaload, 1) := by decide +kernel
theorem d_W_law_579 : decode code 579 = .ok (.invokevirtual 84, 3) := by decide +kernel
theorem d_W_law_582 : decode code 582 = .ok (.if_icmp .eq 207, 3) := by decide +kernel
theorem d_W_law_585 : decode code 585 = .ok (.iconst 0, 1) := by decide +kernel
theorem d_W_law_586 : decode code 586 = .ok (.ireturn, 1) := by decide +kernel
theorem d_W_law_587 : decode code 587 = .ok (.aload_n 1, 1) := by decide +kernel
theorem d_W_law_588 : decode code 588 = .ok (.aload_n 0, 1) := by decide +kernel
theorem d_W_law_589 : decode code 589 = .ok (.iload 4, 2) := by decide +kernel
theorem d_W_law_591 : decode code 591 = .ok (.iconst 1, 1) := by decide +kernel
theorem d_W_law_592 : decode code 592 = .ok (.iadd, 1) := by decide +kernel
theorem d_W_law_593 : decode code 593 = .ok (.iaload, 1) := by decide +kernel
theorem d_W_law_594 : decode code 594 = .ok (.invokevirtual 85, 3) := by decide +kernel
theorem d_W_law_597 : decode code 597 = .ok (.aload_n 2, 1) := by decide +kernel
theorem d_W_law_598 : decode code 598 = .ok (.aload_n 0, 1) := by decide +kernel
theorem d_W_law_599 : decode code 599 = .ok (.iload 4, 2) := by decide +kernel
theorem d_W_law_601 : decode code 601 = .ok (.iconst 1, 1) := by decide +kernel
theorem d_W_law_602 : decode code 602 = .ok (.iadd, 1) := by decide +kernel
theorem d_W_law_603 : decode code 603 = .ok (.iaload, 1) := by decide +kernel
theorem d_W_law_604 : decode code 604 = .ok (.invokevirtual 89, 3) := by decide +kernel
theorem d_W_law_607 : decode code 607 = .ok (.if_icmp .eq 182, 3) := by decide +kernel
theorem d_W_law_610 : decode code 610 = .ok (.iconst 0, 1) := by decide +kernel
theorem d_W_law_611 : decode code 611 = .ok (.ireturn, 1) := by decide +kernel
theorem d_W_law_612 : decode code 612 = .ok (.aload_n 1, 1) := by decide +kernel
theorem d_W_law_613 : decode code 613 = .ok (.aload_n 0, 1) := by decide +kernel
theorem d_W_law_614 : decode code 614 = .ok (.iload 4, 2) := by decide +kernel
theorem d_W_law_616 : decode code 616 = .ok (.iconst 1, 1) := by decide +kernel
theorem d_W_law_617 : decode code 617 = .ok (.iadd, 1) := by decide +kernel
theorem d_W_law_618 : decode code 618 = .ok (.iaload, 1) := by decide +kernel
theorem d_W_law_619 : decode code 619 = .ok (.invokevirtual 90, 3) := by decide +kernel
theorem d_W_law_622 : decode code 622 = .ok (.aload_n 2, 1) := by decide +kernel
theorem d_W_law_623 : decode code 623 = .ok (.aload_n 0, 1) := by decide +kernel
theorem d_W_law_624 : decode code 624 = .ok (.iload 4, 2) := by decide +kernel
theorem d_W_law_626 : decode code 626 = .ok (.iconst 1, 1) := by decide +kernel
theorem d_W_law_627 : decode code 627 = .ok (.iadd, 1) := by decide +kernel
theorem d_W_law_628 : decode code 628 = .ok (.iaload, 1) := by decide +kernel
theorem d_W_law_629 : decode code 629 = .ok (.invokevirtual 93, 3) := by decide +kernel
theorem d_W_law_632 : decode code 632 = .ok (.if_icmp .eq 157, 3) := by decide +kernel
theorem d_W_law_635 : decode code 635 = .ok (.iconst 0, 1) := by decide +kernel
theorem d_W_law_636 : decode code 636 = .ok (.ireturn, 1) := by decide +kernel
theorem d_W_law_637 : decode code 637 = .ok (.aload_n 1, 1) := by decide +kernel
theorem d_W_law_638 : decode code 638 = .ok (.aload_n 0, 1) := by decide +kernel
theorem d_W_law_639 : decode code 639 = .ok (.iload 4, 2) := by decide +kernel
theorem d_W_law_641 : decode code 641 = .ok (.iconst 1, 1) := by decide +kernel
theorem d_W_law_642 : decode code 642 = .ok (.iadd, 1) := by decide +kernel
theorem d_W_law_643 : decode code 643 = .ok (.iaload, 1) := by decide +kernel
theorem d_W_law_644 : decode code 644 = .ok (.aload_n 0, 1) := by decide +kernel
theorem d_W_law_645 : decode code 645 = .ok (.iload 4, 2) := by decide +kernel
theorem d_W_law_647 : decode code 647 = .ok (.iconst 2, 1) := by decide +kernel
theorem d_W_law_648 : decode code 648 = .ok (.iadd, 1) := by decide +kernel
theorem d_W_law_649 : decode code 649 = .ok (.iaload, 1) := by decide +kernel
theorem d_W_law_650 : decode code 650 = .ok (.invokevirtual 94, 3) := by decide +kernel
theorem d_W_law_653 : decode code 653 = .ok (.aload_n 2, 1) := by decide +kernel
theorem d_W_law_654 : decode code 654 = .ok (.aload_n 0, 1) := by decide +kernel
theorem d_W_law_655 : decode code 655 = .ok (.iload 4, 2) := by decide +kernel
theorem d_W_law_657 : decode code 657 = .ok (.iconst 1, 1) := by decide +kernel
theorem d_W_law_658 : decode code 658 = .ok (.iadd, 1) := by decide +kernel
theorem d_W_law_659 : decode code 659 = .ok (.iaload, 1) := by decide +kernel
theorem d_W_law_660 : decode code 660 = .ok (.aload_n 0, 1) := by decide +kernel
theorem d_W_law_661 : decode code 661 = .ok (.iload 4, 2) := by decide +kernel
theorem d_W_law_663 : decode code 663 = .ok (.iconst 2, 1) := by decide +kernel
theorem d_W_law_664 : decode code 664 = .ok (.iadd, 1) := by decide +kernel
theorem d_W_law_665 : decode code 665 = .ok (.iaload, 1) := by decide +kernel
theorem d_W_law_666 : decode code 666 = .ok (.invokevirtual 98, 3) := by decide +kernel
theorem d_W_law_669 : decode code 669 = .ok (.if_icmp .eq 120, 3) := by decide +kernel
theorem d_W_law_672 : decode code 672 = .ok (.iconst 0, 1) := by decide +kernel
theorem d_W_law_673 : decode code 673 = .ok (.ireturn, 1) := by decide +kernel
theorem d_W_law_674 : decode code 674 = .ok (.aload_n 1, 1) := by decide +kernel
theorem d_W_law_675 : decode code 675 = .ok (.invokevirtual 99, 3) := by decide +kernel
theorem d_W_law_678 : decode code 678 = .ok (.aload_n 2, 1) := by decide +kernel
theorem d_W_law_679 : decode code 679 = .ok (.invokevirtual 102, 3) := by decide +kernel
theorem d_W_law_682 : decode code 682 = .ok (.goto 107, 3) := by decide +kernel
theorem d_W_law_685 : decode code 685 = .ok (.aload_n 1, 1) := by decide +kernel
theorem d_W_law_686 : decode code 686 = .ok (.aload_n 0, 1) := by decide +kernel
theorem d_W_law_687 : decode code 687 = .ok (.iload 4, 2) := by decide +kernel
theorem d_W_law_689 : decode code 689 = .ok (.iconst 1, 1) := by decide +kernel
theorem d_W_law_690 : decode code 690 = .ok (.iadd, 1) := by decide +kernel
theorem d_W_law_691 : decode code 691 = .ok (.iaload, 1) := by decide +kernel
theorem d_W_law_692 : decode code 692 = .ok (.aload_n 0, 1) := by decide +kernel
theorem d_W_law_693 : decode code 693 = .ok (.iload 4, 2) := by decide +kernel
theorem d_W_law_695 : decode code 695 = .ok (.iconst 2, 1) := by decide +kernel
theorem d_W_law_696 : decode code 696 = .ok (.iadd, 1) := by decide +kernel
theorem d_W_law_697 : decode code 697 = .ok (.iaload, 1) := by decide +kernel
theorem d_W_law_698 : decode code 698 = .ok (.ifCond .eq 7, 3) := by decide +kernel
theorem d_W_law_701 : decode code 701 = .ok (.iconst 1, 1) := by decide +kernel
theorem d_W_law_702 : decode code 702 = .ok (.goto 4, 3) := by decide +kernel
theorem d_W_law_705 : decode code 705 = .ok (.iconst 0, 1) := by decide +kernel
theorem d_W_law_706 : decode code 706 = .ok (.invokevirtual 103, 3) := by decide +kernel
theorem d_W_law_709 : decode code 709 = .ok (.aload_n 2, 1) := by decide +kernel
theorem d_W_law_710 : decode code 710 = .ok (.aload_n 0, 1) := by decide +kernel
theorem d_W_law_711 : decode code 711 = .ok (.iload 4, 2) := by decide +kernel
theorem d_W_law_713 : decode code 713 = .ok (.iconst 1, 1) := by decide +kernel
theorem d_W_law_714 : decode code 714 = .ok (.iadd, 1) := by decide +kernel
theorem d_W_law_715 : decode code 715 = .ok (.iaload, 1) := by decide +kernel
theorem d_W_law_716 : decode code 716 = .ok (.aload_n 0, 1) := by decide +kernel
theorem d_W_law_717 : decode code 717 = .ok (.iload 4, 2) := by decide +kernel
theorem d_W_law_719 : decode code 719 = .ok (.iconst 2, 1) := by decide +kernel
theorem d_W_law_720 : decode code 720 = .ok (.iadd, 1) := by decide +kernel
theorem d_W_law_721 : decode code 721 = .ok (.iaload, 1) := by decide +kernel
theorem d_W_law_722 : decode code 722 = .ok (.ifCond .eq 7, 3) := by decide +kernel
theorem d_W_law_725 : decode code 725 = .ok (.iconst 1, 1) := by decide +kernel
theorem d_W_law_726 : decode code 726 = .ok (.goto 4, 3) := by decide +kernel
theorem d_W_law_729 : decode code 729 = .ok (.iconst 0, 1) := by decide +kernel
theorem d_W_law_730 : decode code 730 = .ok (.invokevirtual 107, 3) := by decide +kernel
theorem d_W_law_733 : decode code 733 = .ok (.if_icmp .eq 56, 3) := by decide +kernel
theorem d_W_law_736 : decode code 736 = .ok (.iconst 0, 1) := by decide +kernel
theorem d_W_law_737 : decode code 737 = .ok (.ireturn, 1) := by decide +kernel
theorem d_W_law_738 : decode code 738 = .ok (.aload_n 1, 1) := by decide +kernel
theorem d_W_law_739 : decode code 739 = .ok (.aload_n 0, 1) := by decide +kernel
theorem d_W_law_740 : decode code 740 = .ok (.iload 4, 2) := by decide +kernel
theorem d_W_law_742 : decode code 742 = .ok (.iconst 1, 1) := by decide +kernel
theorem d_W_law_743 : decode code 743 = .ok (.iadd, 1) := by decide +kernel
theorem d_W_law_744 : decode code 744 = .ok (.iaload, 1) := by decide +kernel
theorem d_W_law_745 : decode code 745 = .ok (.invokevirtual 108, 3) := by decide +kernel
theorem d_W_law_748 : decode code 748 = .ok (.aload_n 2, 1) := by decide +kernel
theorem d_W_law_749 : decode code 749 = .ok (.aload_n 0, 1) := by decide +kernel
theorem d_W_law_750 : decode code 750 = .ok (.iload 4, 2) := by decide +kernel
theorem d_W_law_752 : decode code 752 = .ok (.iconst 1, 1) := by decide +kernel
theorem d_W_law_753 : decode code 753 = .ok (.iadd, 1) := by decide +kernel
theorem d_W_law_754 : decode code 754 = .ok (.iaload, 1) := by decide +kernel
theorem d_W_law_755 : decode code 755 = .ok (.invokevirtual 111, 3) := by decide +kernel
theorem d_W_law_758 : decode code 758 = .ok (.if_icmp .eq 31, 3) := by decide +kernel
theorem d_W_law_761 : decode code 761 = .ok (.iconst 0, 1) := by decide +kernel
theorem d_W_law_762 : decode code 762 = .ok (.ireturn, 1) := by decide +kernel
theorem d_W_law_763 : decode code 763 = .ok (.aload_n 1, 1) := by decide +kernel
theorem d_W_law_764 : decode code 764 = .ok (.invokevirtual 112, 3) := by decide +kernel
theorem d_W_law_767 : decode code 767 = .ok (.aload_n 2, 1) := by decide +kernel
theorem d_W_law_768 : decode code 768 = .ok (.invokevirtual 116, 3) := by decide +kernel
theorem d_W_law_771 : decode code 771 = .ok (.if_icmp .eq 18, 3) := by decide +kernel
theorem d_W_law_774 : decode code 774 = .ok (.iconst 0, 1) := by decide +kernel
theorem d_W_law_775 : decode code 775 = .ok (.ireturn, 1) := by decide +kernel
theorem d_W_law_776 : decode code 776 = .ok (.aload_n 1, 1) := by decide +kernel
theorem d_W_law_777 : decode code 777 = .ok (.invokevirtual 117, 3) := by decide +kernel
theorem d_W_law_780 : decode code 780 = .ok (.aload_n 2, 1) := by decide +kernel
theorem d_W_law_781 : decode code 781 = .ok (.invokevirtual 120, 3) := by decide +kernel
theorem d_W_law_784 : decode code 784 = .ok (.if_icmp .eq 5, 3) := by decide +kernel
theorem d_W_law_787 : decode code 787 = .ok (.iconst 0, 1) := by decide +kernel
theorem d_W_law_788 : decode code 788 = .ok (.ireturn, 1) := by decide +kernel
theorem d_W_law_789 : decode code 789 = .ok (.iinc 4 4, 3) := by decide +kernel
theorem d_W_law_792 : decode code 792 = .ok (.goto (-769), 3) := by decide +kernel
theorem d_W_law_795 : decode code 795 = .ok (.iconst 1, 1) := by decide +kernel
theorem d_W_law_796 : decode code 796 = .ok (.ireturn, 1) := by decide +kernel
