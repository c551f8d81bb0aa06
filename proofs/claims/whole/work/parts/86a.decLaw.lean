abbrev bL_law : ByteArray := code
theorem dL_law_0 : decode bL_law 0 = .ok (.new 8, 3) := by decide +kernel
theorem dL_law_3 : decode bL_law 3 = .ok (.dup, 1) := by decide +kernel
theorem dL_law_4 : decode bL_law 4 = .ok (.invokespecial 45, 3) := by decide +kernel
theorem dL_law_7 : decode bL_law 7 = .ok (.astore_n 1, 1) := by decide +kernel
theorem dL_law_8 : decode bL_law 8 = .ok (.new 46, 3) := by decide +kernel
theorem dL_law_11 : decode bL_law 11 = .ok (.dup, 1) := by decide +kernel
theorem dL_law_12 : decode bL_law 12 = .ok (.invokespecial 48, 3) := by decide +kernel
theorem dL_law_15 : decode bL_law 15 = .ok (.astore_n 2, 1) := by decide +kernel
theorem dL_law_16 : decode bL_law 16 = .ok (.iconst 1, 1) := by decide +kernel
theorem dL_law_17 : decode bL_law 17 = .ok (.newarray .long, 2) := by decide +kernel
theorem dL_law_19 : decode bL_law 19 = .ok (.astore_n 3, 1) := by decide +kernel
theorem dL_law_20 : decode bL_law 20 = .ok (.iconst 0, 1) := by decide +kernel
theorem dL_law_21 : decode bL_law 21 = .ok (.istore 4, 2) := by decide +kernel
theorem dL_law_23 : decode bL_law 23 = .ok (.iload 4, 2) := by decide +kernel
theorem dL_law_25 : decode bL_law 25 = .ok (.aload_n 0, 1) := by decide +kernel
theorem dL_law_26 : decode bL_law 26 = .ok (.arraylength, 1) := by decide +kernel
theorem dL_law_27 : decode bL_law 27 = .ok (.bipush 7, 2) := by decide +kernel
theorem dL_law_29 : decode bL_law 29 = .ok (.isub, 1) := by decide +kernel
theorem dL_law_30 : decode bL_law 30 = .ok (.if_icmp .gt 880, 3) := by decide +kernel
theorem dL_law_33 : decode bL_law 33 = .ok (.aload_n 0, 1) := by decide +kernel
theorem dL_law_34 : decode bL_law 34 = .ok (.iload 4, 2) := by decide +kernel
theorem dL_law_36 : decode bL_law 36 = .ok (.iaload, 1) := by decide +kernel
theorem dL_law_37 : decode bL_law 37 = .ok (.bipush 31, 2) := by decide +kernel
theorem dL_law_39 : decode bL_law 39 = .ok (.iand, 1) := by decide +kernel
theorem dL_law_40 : decode bL_law 40 = .ok (.tableswitch 864 0 16 #[84, 218, 244, 269, 294, 319, 391, 452, 524, 572, 640, 667, 678, 714, 770, 826, 851], 84) := by decide +kernel
theorem dL_law_124 : decode bL_law 124 = .ok (.aload_n 1, 1) := by decide +kernel
theorem dL_law_125 : decode bL_law 125 = .ok (.aload_n 0, 1) := by decide +kernel
theorem dL_law_126 : decode bL_law 126 = .ok (.iload 4, 2) := by decide +kernel
theorem dL_law_128 : decode bL_law 128 = .ok (.iconst 1, 1) := by decide +kernel
theorem dL_law_129 : decode bL_law 129 = .ok (.iadd, 1) := by decide +kernel
theorem dL_law_130 : decode bL_law 130 = .ok (.iaload, 1) := by decide +kernel
theorem dL_law_131 : decode bL_law 131 = .ok (.aload_n 0, 1) := by decide +kernel
theorem dL_law_132 : decode bL_law 132 = .ok (.iload 4, 2) := by decide +kernel
theorem dL_law_134 : decode bL_law 134 = .ok (.iconst 2, 1) := by decide +kernel
theorem dL_law_135 : decode bL_law 135 = .ok (.iadd, 1) := by decide +kernel
theorem dL_law_136 : decode bL_law 136 = .ok (.iaload, 1) := by decide +kernel
theorem dL_law_137 : decode bL_law 137 = .ok (.i2l, 1) := by decide +kernel
theorem dL_law_138 : decode bL_law 138 = .ok (.bipush 32, 2) := by decide +kernel
theorem dL_law_140 : decode bL_law 140 = .ok (.lshl, 1) := by decide +kernel
theorem dL_law_141 : decode bL_law 141 = .ok (.aload_n 0, 1) := by decide +kernel
theorem dL_law_142 : decode bL_law 142 = .ok (.iload 4, 2) := by decide +kernel
theorem dL_law_144 : decode bL_law 144 = .ok (.iconst 3, 1) := by decide +kernel
theorem dL_law_145 : decode bL_law 145 = .ok (.iadd, 1) := by decide +kernel
theorem dL_law_146 : decode bL_law 146 = .ok (.iaload, 1) := by decide +kernel
theorem dL_law_147 : decode bL_law 147 = .ok (.i2l, 1) := by decide +kernel
theorem dL_law_148 : decode bL_law 148 = .ok (.ldc2_w 49, 3) := by decide +kernel
theorem dL_law_151 : decode bL_law 151 = .ok (.land, 1) := by decide +kernel
theorem dL_law_152 : decode bL_law 152 = .ok (.lor, 1) := by decide +kernel
theorem dL_law_153 : decode bL_law 153 = .ok (.aload_n 0, 1) := by decide +kernel
theorem dL_law_154 : decode bL_law 154 = .ok (.iload 4, 2) := by decide +kernel
theorem dL_law_156 : decode bL_law 156 = .ok (.iconst 4, 1) := by decide +kernel
theorem dL_law_157 : decode bL_law 157 = .ok (.iadd, 1) := by decide +kernel
theorem dL_law_158 : decode bL_law 158 = .ok (.iaload, 1) := by decide +kernel
theorem dL_law_159 : decode bL_law 159 = .ok (.aload_n 0, 1) := by decide +kernel
theorem dL_law_160 : decode bL_law 160 = .ok (.iload 4, 2) := by decide +kernel
theorem dL_law_162 : decode bL_law 162 = .ok (.iconst 5, 1) := by decide +kernel
theorem dL_law_163 : decode bL_law 163 = .ok (.iadd, 1) := by decide +kernel
theorem dL_law_164 : decode bL_law 164 = .ok (.iaload, 1) := by decide +kernel
theorem dL_law_165 : decode bL_law 165 = .ok (.aload_n 0, 1) := by decide +kernel
theorem dL_law_166 : decode bL_law 166 = .ok (.iload 4, 2) := by decide +kernel
theorem dL_law_168 : decode bL_law 168 = .ok (.bipush 6, 2) := by decide +kernel
theorem dL_law_170 : decode bL_law 170 = .ok (.iadd, 1) := by decide +kernel
theorem dL_law_171 : decode bL_law 171 = .ok (.iaload, 1) := by decide +kernel
theorem dL_law_172 : decode bL_law 172 = .ok (.ifCond .eq 7, 3) := by decide +kernel
theorem dL_law_175 : decode bL_law 175 = .ok (.iconst 1, 1) := by decide +kernel
theorem dL_law_176 : decode bL_law 176 = .ok (.goto 4, 3) := by decide +kernel
theorem dL_law_179 : decode bL_law 179 = .ok (.iconst 0, 1) := by decide +kernel
theorem dL_law_180 : decode bL_law 180 = .ok (.invokestatic 51, 3) := by decide +kernel
theorem dL_law_183 : decode bL_law 183 = .ok (.istore 5, 2) := by decide +kernel
theorem dL_law_185 : decode bL_law 185 = .ok (.aload_n 2, 1) := by decide +kernel
theorem dL_law_186 : decode bL_law 186 = .ok (.aload_n 0, 1) := by decide +kernel
theorem dL_law_187 : decode bL_law 187 = .ok (.iload 4, 2) := by decide +kernel
theorem dL_law_189 : decode bL_law 189 = .ok (.iconst 1, 1) := by decide +kernel
theorem dL_law_190 : decode bL_law 190 = .ok (.iadd, 1) := by decide +kernel
theorem dL_law_191 : decode bL_law 191 = .ok (.iaload, 1) := by decide +kernel
theorem dL_law_192 : decode bL_law 192 = .ok (.aload_n 0, 1) := by decide +kernel
theorem dL_law_193 : decode bL_law 193 = .ok (.iload 4, 2) := by decide +kernel
theorem dL_law_195 : decode bL_law 195 = .ok (.iconst 2, 1) := by decide +kernel
theorem dL_law_196 : decode bL_law 196 = .ok (.iadd, 1) := by decide +kernel
theorem dL_law_197 : decode bL_law 197 = .ok (.iaload, 1) := by decide +kernel
theorem dL_law_198 : decode bL_law 198 = .ok (.i2l, 1) := by decide +kernel
theorem dL_law_199 : decode bL_law 199 = .ok (.bipush 32, 2) := by decide +kernel
theorem dL_law_201 : decode bL_law 201 = .ok (.lshl, 1) := by decide +kernel
theorem dL_law_202 : decode bL_law 202 = .ok (.aload_n 0, 1) := by decide +kernel
theorem dL_law_203 : decode bL_law 203 = .ok (.iload 4, 2) := by decide +kernel
theorem dL_law_205 : decode bL_law 205 = .ok (.iconst 3, 1) := by decide +kernel
theorem dL_law_206 : decode bL_law 206 = .ok (.iadd, 1) := by decide +kernel
theorem dL_law_207 : decode bL_law 207 = .ok (.iaload, 1) := by decide +kernel
theorem dL_law_208 : decode bL_law 208 = .ok (.i2l, 1) := by decide +kernel
theorem dL_law_209 : decode bL_law 209 = .ok (.ldc2_w 49, 3) := by decide +kernel
theorem dL_law_212 : decode bL_law 212 = .ok (.land, 1) := by decide +kernel
theorem dL_law_213 : decode bL_law 213 = .ok (.lor, 1) := by decide +kernel
theorem dL_law_214 : decode bL_law 214 = .ok (.aload_n 0, 1) := by decide +kernel
theorem dL_law_215 : decode bL_law 215 = .ok (.iload 4, 2) := by decide +kernel
theorem dL_law_217 : decode bL_law 217 = .ok (.iconst 4, 1) := by decide +kernel
theorem dL_law_218 : decode bL_law 218 = .ok (.iadd, 1) := by decide +kernel
theorem dL_law_219 : decode bL_law 219 = .ok (.iaload, 1) := by decide +kernel
theorem dL_law_220 : decode bL_law 220 = .ok (.aload_n 0, 1) := by decide +kernel
theorem dL_law_221 : decode bL_law 221 = .ok (.iload 4, 2) := by decide +kernel
theorem dL_law_223 : decode bL_law 223 = .ok (.iconst 5, 1) := by decide +kernel
theorem dL_law_224 : decode bL_law 224 = .ok (.iadd, 1) := by decide +kernel
theorem dL_law_225 : decode bL_law 225 = .ok (.iaload, 1) := by decide +kernel
theorem dL_law_226 : decode bL_law 226 = .ok (.aload_n 0, 1) := by decide +kernel
theorem dL_law_227 : decode bL_law 227 = .ok (.iload 4, 2) := by decide +kernel
theorem dL_law_229 : decode bL_law 229 = .ok (.bipush 6, 2) := by decide +kernel
theorem dL_law_231 : decode bL_law 231 = .ok (.iadd, 1) := by decide +kernel
theorem dL_law_232 : decode bL_law 232 = .ok (.iaload, 1) := by decide +kernel
theorem dL_law_233 : decode bL_law 233 = .ok (.ifCond .eq 7, 3) := by decide +kernel
theorem dL_law_236 : decode bL_law 236 = .ok (.iconst 1, 1) := by decide +kernel
theorem dL_law_237 : decode bL_law 237 = .ok (.goto 4, 3) := by decide +kernel
theorem dL_law_240 : decode bL_law 240 = .ok (.iconst 0, 1) := by decide +kernel
theorem dL_law_241 : decode bL_law 241 = .ok (.invokevirtual 56, 3) := by decide +kernel
theorem dL_law_244 : decode bL_law 244 = .ok (.aload_n 2, 1) := by decide +kernel
theorem dL_law_245 : decode bL_law 245 = .ok (.invokevirtual 57, 3) := by decide +kernel
theorem dL_law_248 : decode bL_law 248 = .ok (.iload 5, 2) := by decide +kernel
theorem dL_law_250 : decode bL_law 250 = .ok (.if_icmp .eq 5, 3) := by decide +kernel
theorem dL_law_253 : decode bL_law 253 = .ok (.iconst 0, 1) := by decide +kernel
theorem dL_law_254 : decode bL_law 254 = .ok (.ireturn, 1) := by decide +kernel
theorem dL_law_255 : decode bL_law 255 = .ok (.goto 649, 3) := by decide +kernel
theorem dL_law_258 : decode bL_law 258 = .ok (.aload_n 1, 1) := by decide +kernel
theorem dL_law_259 : decode bL_law 259 = .ok (.aload_n 0, 1) := by decide +kernel
theorem dL_law_260 : decode bL_law 260 = .ok (.iload 4, 2) := by decide +kernel
theorem dL_law_262 : decode bL_law 262 = .ok (.iconst 1, 1) := by decide +kernel
theorem dL_law_263 : decode bL_law 263 = .ok (.iadd, 1) := by decide +kernel
theorem dL_law_264 : decode bL_law 264 = .ok (.iaload, 1) := by decide +kernel
theorem dL_law_265 : decode bL_law 265 = .ok (.invokevirtual 61, 3) := by decide +kernel
theorem dL_law_268 : decode bL_law 268 = .ok (.aload_n 2, 1) := by decide +kernel
theorem dL_law_269 : decode bL_law 269 = .ok (.aload_n 0, 1) := by decide +kernel
theorem dL_law_270 : decode bL_law 270 = .ok (.iload 4, 2) := by decide +kernel
theorem dL_law_272 : decode bL_law 272 = .ok (.iconst 1, 1) := by decide +kernel
theorem dL_law_273 : decode bL_law 273 = .ok (.iadd, 1) := by decide +kernel
theorem dL_law_274 : decode bL_law 274 = .ok (.iaload, 1) := by decide +kernel
theorem dL_law_275 : decode bL_law 275 = .ok (.invokevirtual 65, 3) := by decide +kernel
theorem dL_law_278 : decode bL_law 278 = .ok (.lcmp, 1) := by decide +kernel
theorem dL_law_279 : decode bL_law 279 = .ok (.ifCond .eq 625, 3) := by decide +kernel
theorem dL_law_282 : decode bL_law 282 = .ok (.iconst 0, 1) := by decide +kernel
theorem dL_law_283 : decode bL_law 283 = .ok (.ireturn, 1) := by decide +kernel
theorem dL_law_284 : decode bL_law 284 = .ok (.aload_n 1, 1) := by decide +kernel
theorem dL_law_285 : decode bL_law 285 = .ok (.aload_n 0, 1) := by decide +kernel
theorem dL_law_286 : decode bL_law 286 = .ok (.iload 4, 2) := by decide +kernel
