/-! decode rows of the law's body -/
theorem d_Law_law_0 : decode code 0 = .ok (.new 8, 3) := by decide +kernel
theorem d_Law_law_3 : decode code 3 = .ok (.dup, 1) := by decide +kernel
theorem d_Law_law_4 : decode code 4 = .ok (.aload_n 0, 1) := by decide +kernel
theorem d_Law_law_5 : decode code 5 = .ok (.iconst 0, 1) := by decide +kernel
theorem d_Law_law_6 : decode code 6 = .ok (.invokestatic 53, 3) := by decide +kernel
theorem d_Law_law_9 : decode code 9 = .ok (.aload_n 0, 1) := by decide +kernel
theorem d_Law_law_10 : decode code 10 = .ok (.iconst 1, 1) := by decide +kernel
theorem d_Law_law_11 : decode code 11 = .ok (.invokestatic 53, 3) := by decide +kernel
theorem d_Law_law_14 : decode code 14 = .ok (.invokespecial 59, 3) := by decide +kernel
theorem d_Law_law_17 : decode code 17 = .ok (.astore_n 1, 1) := by decide +kernel
theorem d_Law_law_18 : decode code 18 = .ok (.new 62, 3) := by decide +kernel
theorem d_Law_law_21 : decode code 21 = .ok (.dup, 1) := by decide +kernel
theorem d_Law_law_22 : decode code 22 = .ok (.aload_n 0, 1) := by decide +kernel
theorem d_Law_law_23 : decode code 23 = .ok (.iconst 0, 1) := by decide +kernel
theorem d_Law_law_24 : decode code 24 = .ok (.invokestatic 53, 3) := by decide +kernel
theorem d_Law_law_27 : decode code 27 = .ok (.aload_n 0, 1) := by decide +kernel
theorem d_Law_law_28 : decode code 28 = .ok (.iconst 1, 1) := by decide +kernel
theorem d_Law_law_29 : decode code 29 = .ok (.invokestatic 53, 3) := by decide +kernel
theorem d_Law_law_32 : decode code 32 = .ok (.invokespecial 64, 3) := by decide +kernel
theorem d_Law_law_35 : decode code 35 = .ok (.astore_n 2, 1) := by decide +kernel
theorem d_Law_law_36 : decode code 36 = .ok (.iconst 1, 1) := by decide +kernel
theorem d_Law_law_37 : decode code 37 = .ok (.newarray .long, 2) := by decide +kernel
theorem d_Law_law_39 : decode code 39 = .ok (.astore_n 3, 1) := by decide +kernel
theorem d_Law_law_40 : decode code 40 = .ok (.iconst 2, 1) := by decide +kernel
theorem d_Law_law_41 : decode code 41 = .ok (.istore 4, 2) := by decide +kernel
theorem d_Law_law_43 : decode code 43 = .ok (.iload 4, 2) := by decide +kernel
theorem d_Law_law_45 : decode code 45 = .ok (.aload_n 0, 1) := by decide +kernel
theorem d_Law_law_46 : decode code 46 = .ok (.arraylength, 1) := by decide +kernel
theorem d_Law_law_47 : decode code 47 = .ok (.bipush 6, 2) := by decide +kernel
theorem d_Law_law_49 : decode code 49 = .ok (.isub, 1) := by decide +kernel
theorem d_Law_law_50 : decode code 50 = .ok (.if_icmp .gt 1138, 3) := by decide +kernel
theorem d_Law_law_53 : decode code 53 = .ok (.aload_n 0, 1) := by decide +kernel
theorem d_Law_law_54 : decode code 54 = .ok (.iload 4, 2) := by decide +kernel
theorem d_Law_law_56 : decode code 56 = .ok (.iaload, 1) := by decide +kernel
theorem d_Law_law_57 : decode code 57 = .ok (.bipush 15, 2) := by decide +kernel
theorem d_Law_law_59 : decode code 59 = .ok (.iand, 1) := by decide +kernel
theorem d_Law_law_60 : decode code 60 = .ok (.tableswitch 1122 0 13 #[72, 204, 343, 470, 597, 653, 753, 809, 893, 906, 973, 1040, 1096, 1109], 72) := by decide +kernel
theorem d_Law_law_132 : decode code 132 = .ok (.aload_n 1, 1) := by decide +kernel
theorem d_Law_law_133 : decode code 133 = .ok (.aload_n 0, 1) := by decide +kernel
theorem d_Law_law_134 : decode code 134 = .ok (.iload 4, 2) := by decide +kernel
theorem d_Law_law_136 : decode code 136 = .ok (.iconst 1, 1) := by decide +kernel
theorem d_Law_law_137 : decode code 137 = .ok (.iadd, 1) := by decide +kernel
theorem d_Law_law_138 : decode code 138 = .ok (.iaload, 1) := by decide +kernel
theorem d_Law_law_139 : decode code 139 = .ok (.i2l, 1) := by decide +kernel
theorem d_Law_law_140 : decode code 140 = .ok (.bipush 32, 2) := by decide +kernel
theorem d_Law_law_142 : decode code 142 = .ok (.lshl, 1) := by decide +kernel
theorem d_Law_law_143 : decode code 143 = .ok (.aload_n 0, 1) := by decide +kernel
theorem d_Law_law_144 : decode code 144 = .ok (.iload 4, 2) := by decide +kernel
theorem d_Law_law_146 : decode code 146 = .ok (.iconst 2, 1) := by decide +kernel
theorem d_Law_law_147 : decode code 147 = .ok (.iadd, 1) := by decide +kernel
theorem d_Law_law_148 : decode code 148 = .ok (.iaload, 1) := by decide +kernel
theorem d_Law_law_149 : decode code 149 = .ok (.i2l, 1) := by decide +kernel
theorem d_Law_law_150 : decode code 150 = .ok (.ldc2_w 65, 3) := by decide +kernel
theorem d_Law_law_153 : decode code 153 = .ok (.land, 1) := by decide +kernel
theorem d_Law_law_154 : decode code 154 = .ok (.lor, 1) := by decide +kernel
theorem d_Law_law_155 : decode code 155 = .ok (.aload_n 0, 1) := by decide +kernel
theorem d_Law_law_156 : decode code 156 = .ok (.iload 4, 2) := by decide +kernel
theorem d_Law_law_158 : decode code 158 = .ok (.iconst 3, 1) := by decide +kernel
theorem d_Law_law_159 : decode code 159 = .ok (.iadd, 1) := by decide +kernel
theorem d_Law_law_160 : decode code 160 = .ok (.iaload, 1) := by decide +kernel
theorem d_Law_law_161 : decode code 161 = .ok (.i2l, 1) := by decide +kernel
theorem d_Law_law_162 : decode code 162 = .ok (.bipush 32, 2) := by decide +kernel
theorem d_Law_law_164 : decode code 164 = .ok (.lshl, 1) := by decide +kernel
theorem d_Law_law_165 : decode code 165 = .ok (.aload_n 0, 1) := by decide +kernel
theorem d_Law_law_166 : decode code 166 = .ok (.iload 4, 2) := by decide +kernel
theorem d_Law_law_168 : decode code 168 = .ok (.iconst 4, 1) := by decide +kernel
theorem d_Law_law_169 : decode code 169 = .ok (.iadd, 1) := by decide +kernel
theorem d_Law_law_170 : decode code 170 = .ok (.iaload, 1) := by decide +kernel
theorem d_Law_law_171 : decode code 171 = .ok (.i2l, 1) := by decide +kernel
theorem d_Law_law_172 : decode code 172 = .ok (.ldc2_w 65, 3) := by decide +kernel
theorem d_Law_law_175 : decode code 175 = .ok (.land, 1) := by decide +kernel
theorem d_Law_law_176 : decode code 176 = .ok (.lor, 1) := by decide +kernel
theorem d_Law_law_177 : decode code 177 = .ok (.aload_n 3, 1) := by decide +kernel
theorem d_Law_law_178 : decode code 178 = .ok (.invokestatic 67, 3) := by decide +kernel
theorem d_Law_law_181 : decode code 181 = .ok (.istore 5, 2) := by decide +kernel
theorem d_Law_law_183 : decode code 183 = .ok (.aload_n 2, 1) := by decide +kernel
theorem d_Law_law_184 : decode code 184 = .ok (.aload_n 0, 1) := by decide +kernel
theorem d_Law_law_185 : decode code 185 = .ok (.iload 4, 2) := by decide +kernel
theorem d_Law_law_187 : decode code 187 = .ok (.iconst 1, 1) := by decide +kernel
theorem d_Law_law_188 : decode code 188 = .ok (.iadd, 1) := by decide +kernel
theorem d_Law_law_189 : decode code 189 = .ok (.iaload, 1) := by decide +kernel
theorem d_Law_law_190 : decode code 190 = .ok (.i2l, 1) := by decide +kernel
theorem d_Law_law_191 : decode code 191 = .ok (.bipush 32, 2) := by decide +kernel
theorem d_Law_law_193 : decode code 193 = .ok (.lshl, 1) := by decide +kernel
theorem d_Law_law_194 : decode code 194 = .ok (.aload_n 0, 1) := by decide +kernel
theorem d_Law_law_195 : decode code 195 = .ok (.iload 4, 2) := by decide +kernel
theorem d_Law_law_197 : decode code 197 = .ok (.iconst 2, 1) := by decide +kernel
theorem d_Law_law_198 : decode code 198 = .ok (.iadd, 1) := by decide +kernel
theorem d_Law_law_199 : decode code 199 = .ok (.iaload, 1) := by decide +kernel
theorem d_Law_law_200 : decode code 200 = .ok (.i2l, 1) := by decide +kernel
theorem d_Law_law_201 : decode code 201 = .ok (.ldc2_w 65, 3) := by decide +kernel
theorem d_Law_law_204 : decode code 204 = .ok (.land, 1) := by decide +kernel
theorem d_Law_law_205 : decode code 205 = .ok (.lor, 1) := by decide +kernel
theorem d_Law_law_206 : decode code 206 = .ok (.aload_n 0, 1) := by decide +kernel
theorem d_Law_law_207 : decode code 207 = .ok (.iload 4, 2) := by decide +kernel
theorem d_Law_law_209 : decode code 209 = .ok (.iconst 3, 1) := by decide +kernel
theorem d_Law_law_210 : decode code 210 = .ok (.iadd, 1) := by decide +kernel
theorem d_Law_law_211 : decode code 211 = .ok (.iaload, 1) := by decide +kernel
theorem d_Law_law_212 : decode code 212 = .ok (.i2l, 1) := by decide +kernel
theorem d_Law_law_213 : decode code 213 = .ok (.bipush 32, 2) := by decide +kernel
theorem d_Law_law_215 : decode code 215 = .ok (.lshl, 1) := by decide +kernel
theorem d_Law_law_216 : decode code 216 = .ok (.aload_n 0, 1) := by decide +kernel
theorem d_Law_law_217 : decode code 217 = .ok (.iload 4, 2) := by decide +kernel
theorem d_Law_law_219 : decode code 219 = .ok (.iconst 4, 1) := by decide +kernel
theorem d_Law_law_220 : decode code 220 = .ok (.iadd, 1) := by decide +kernel
theorem d_Law_law_221 : decode code 221 = .ok (.iaload, 1) := by decide +kernel
theorem d_Law_law_222 : decode code 222 = .ok (.i2l, 1) := by decide +kernel
theorem d_Law_law_223 : decode code 223 = .ok (.ldc2_w 65, 3) := by decide +kernel
theorem d_Law_law_226 : decode code 226 = .ok (.land, 1) := by decide +kernel
theorem d_Law_law_227 : decode code 227 = .ok (.lor, 1) := by decide +kernel
theorem d_Law_law_228 : decode code 228 = .ok (.invokevirtual 70, 3) := by decide +kernel
theorem d_Law_law_231 : decode code 231 = .ok (.istore 6, 2) := by decide +kernel
theorem d_Law_law_233 : decode code 233 = .ok (.aload_n 2, 1) := by decide +kernel
theorem d_Law_law_234 : decode code 234 = .ok (.invokevirtual 71, 3) := by decide +kernel
theorem d_Law_law_237 : decode code 237 = .ok (.iload 5, 2) := by decide +kernel
theorem d_Law_law_239 : decode code 239 = .ok (.if_icmp .eq 5, 3) := by decide +kernel
theorem d_Law_law_242 : decode code 242 = .ok (.iconst 0, 1) := by decide +kernel
theorem d_Law_law_243 : decode code 243 = .ok (.ireturn, 1) := by decide +kernel
theorem d_Law_law_244 : decode code 244 = .ok (.iload 5, 2) := by decide +kernel
theorem d_Law_law_246 : decode code 246 = .ok (.ifCond .ne 15, 3) := by decide +kernel
theorem d_Law_law_249 : decode code 249 = .ok (.aload_n 3, 1) := by decide +kernel
theorem d_Law_law_250 : decode code 250 = .ok (.iconst 0, 1) := by decide +kernel
theorem d_Law_law_251 : decode code 251 = .ok (.laload, 1) := by decide +kernel
theorem d_Law_law_252 : decode code 252 = .ok (.iload 6, 2) := by decide +kernel
theorem d_Law_law_254 : decode code 254 = .ok (.i2l, 1) := by decide +kernel
theorem d_Law_law_255 : decode code 255 = .ok (.lcmp, 1) := by decide +kernel
theorem d_Law_law_256 : decode code 256 = .ok (.ifCond .eq 5, 3) := by decide +kernel
theorem d_Law_law_259 : decode code 259 = .ok (.iconst 0, 1) := by decide +kernel
theorem d_Law_law_260 : decode code 260 = .ok (.ireturn, 1) := by decide +kernel
theorem d_Law_law_261 : decode code 261 = .ok (.goto 921, 3) := by decide +kernel
theorem d_Law_law_264 : decode code 264 = .ok (.aload_n 1, 1) := by decide +kernel
theorem d_Law_law_265 : decode code 265 = .ok (.aload_n 0, 1) := by decide +kernel
theorem d_Law_law_266 : decode code 266 = .ok (.iload 4, 2) := by decide +kernel
theorem d_Law_law_268 : decode code 268 = .ok (.iconst 1, 1) := by decide +kernel
theorem d_Law_law_269 : decode code 269 = .ok (.iadd, 1) := by decide +kernel
theorem d_Law_law_270 : decode code 270 = .ok (.iaload, 1) := by decide +kernel
theorem d_Law_law_271 : decode code 271 = .ok (.aload_n 0, 1) := by decide +kernel
theorem d_Law_law_272 : decode code 272 = .ok (.iload 4, 2) := by decide +kernel
theorem d_Law_law_274 : decode code 274 = .ok (.iconst 2, 1) := by decide +kernel
theorem d_Law_law_275 : decode code 275 = .ok (.iadd, 1) := by decide +kernel
theorem d_Law_law_276 : decode code 276 = .ok (.iaload, 1) := by decide +kernel
theorem d_Law_law_277 : decode code 277 = .ok (.aload_n 0, 1) := by decide +kernel
theorem d_Law_law_278 : decode code 278 = .ok (.iload 4, 2) := by decide +kernel
theorem d_Law_law_280 : decode code 280 = .ok (.iconst 3, 1) := by decide +kernel
theorem d_Law_law_281 : decode code 281 = .ok (.iadd, 1) := by decide +kernel
theorem d_Law_law_282 : decode code 282 = .ok (.iaload, 1) := by decide +kernel
theorem d_Law_law_283 : decode code 283 = .ok (.i2l, 1) := by decide +kernel
theorem d_Law_law_284 : decode code 284 = .ok (.bipush 32, 2) := by decide +kernel
theorem d_Law_law_286 : decode code 286 = .ok (.lshl, 1) := by decide +kernel
theorem d_Law_law_287 : decode code 287 = .ok (.aload_n 0, 1) := by decide +kernel
