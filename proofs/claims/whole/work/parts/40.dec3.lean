theorem d_Law_core_0 : decode M_Law_core.2.1 0 = .ok (.aload_n 2, 1) := by decide +kernel
theorem d_Law_core_1 : decode M_Law_core.2.1 1 = .ok (.iconst 0, 1) := by decide +kernel
theorem d_Law_core_2 : decode M_Law_core.2.1 2 = .ok (.aload_n 0, 1) := by decide +kernel
theorem d_Law_core_3 : decode M_Law_core.2.1 3 = .ok (.iload_n 1, 1) := by decide +kernel
theorem d_Law_core_4 : decode M_Law_core.2.1 4 = .ok (.invokevirtual 38, 3) := by decide +kernel
theorem d_Law_core_7 : decode M_Law_core.2.1 7 = .ok (.ifCond .eq 7, 3) := by decide +kernel
theorem d_Law_core_10 : decode M_Law_core.2.1 10 = .ok (.lconst 1, 1) := by decide +kernel
theorem d_Law_core_11 : decode M_Law_core.2.1 11 = .ok (.goto 4, 3) := by decide +kernel
theorem d_Law_core_14 : decode M_Law_core.2.1 14 = .ok (.lconst 0, 1) := by decide +kernel
theorem d_Law_core_15 : decode M_Law_core.2.1 15 = .ok (.lastore, 1) := by decide +kernel
theorem d_Law_core_16 : decode M_Law_core.2.1 16 = .ok (.goto 9, 3) := by decide +kernel
theorem d_Law_core_19 : decode M_Law_core.2.1 19 = .ok (.astore_n 3, 1) := by decide +kernel
theorem d_Law_core_20 : decode M_Law_core.2.1 20 = .ok (.iconst 1, 1) := by decide +kernel
theorem d_Law_core_21 : decode M_Law_core.2.1 21 = .ok (.ireturn, 1) := by decide +kernel
theorem d_Law_core_22 : decode M_Law_core.2.1 22 = .ok (.astore_n 3, 1) := by decide +kernel
theorem d_Law_core_23 : decode M_Law_core.2.1 23 = .ok (.iconst 2, 1) := by decide +kernel
theorem d_Law_core_24 : decode M_Law_core.2.1 24 = .ok (.ireturn, 1) := by decide +kernel
theorem d_Law_core_25 : decode M_Law_core.2.1 25 = .ok (.iconst 0, 1) := by decide +kernel
theorem d_Law_core_26 : decode M_Law_core.2.1 26 = .ok (.ireturn, 1) := by decide +kernel
theorem d_Law_forced_0 : decode M_Law_forced.2.1 0 = .ok (.aload_n 2, 1) := by decide +kernel
theorem d_Law_forced_1 : decode M_Law_forced.2.1 1 = .ok (.iconst 0, 1) := by decide +kernel
theorem d_Law_forced_2 : decode M_Law_forced.2.1 2 = .ok (.aload_n 0, 1) := by decide +kernel
theorem d_Law_forced_3 : decode M_Law_forced.2.1 3 = .ok (.iload_n 1, 1) := by decide +kernel
theorem d_Law_forced_4 : decode M_Law_forced.2.1 4 = .ok (.invokevirtual 28, 3) := by decide +kernel
theorem d_Law_forced_7 : decode M_Law_forced.2.1 7 = .ok (.i2l, 1) := by decide +kernel
theorem d_Law_forced_8 : decode M_Law_forced.2.1 8 = .ok (.lastore, 1) := by decide +kernel
theorem d_Law_forced_9 : decode M_Law_forced.2.1 9 = .ok (.goto 12, 3) := by decide +kernel
theorem d_Law_forced_12 : decode M_Law_forced.2.1 12 = .ok (.astore_n 3, 1) := by decide +kernel
theorem d_Law_forced_13 : decode M_Law_forced.2.1 13 = .ok (.iconst 1, 1) := by decide +kernel
theorem d_Law_forced_14 : decode M_Law_forced.2.1 14 = .ok (.ireturn, 1) := by decide +kernel
theorem d_Law_forced_15 : decode M_Law_forced.2.1 15 = .ok (.astore_n 3, 1) := by decide +kernel
theorem d_Law_forced_16 : decode M_Law_forced.2.1 16 = .ok (.iconst 2, 1) := by decide +kernel
theorem d_Law_forced_17 : decode M_Law_forced.2.1 17 = .ok (.ireturn, 1) := by decide +kernel
theorem d_Law_forced_18 : decode M_Law_forced.2.1 18 = .ok (.astore_n 3, 1) := by decide +kernel
theorem d_Law_forced_19 : decode M_Law_forced.2.1 19 = .ok (.iconst 3, 1) := by decide +kernel
theorem d_Law_forced_20 : decode M_Law_forced.2.1 20 = .ok (.ireturn, 1) := by decide +kernel
theorem d_Law_forced_21 : decode M_Law_forced.2.1 21 = .ok (.iconst 0, 1) := by decide +kernel
theorem d_Law_forced_22 : decode M_Law_forced.2.1 22 = .ok (.ireturn, 1) := by decide +kernel
theorem d_Law_greatest_0 : decode M_Law_greatest.2.1 0 = .ok (.aload_n 1, 1) := by decide +kernel
theorem d_Law_greatest_1 : decode M_Law_greatest.2.1 1 = .ok (.iconst 0, 1) := by decide +kernel
theorem d_Law_greatest_2 : decode M_Law_greatest.2.1 2 = .ok (.aload_n 0, 1) := by decide +kernel
theorem d_Law_greatest_3 : decode M_Law_greatest.2.1 3 = .ok (.invokevirtual 25, 3) := by decide +kernel
theorem d_Law_greatest_6 : decode M_Law_greatest.2.1 6 = .ok (.i2l, 1) := by decide +kernel
theorem d_Law_greatest_7 : decode M_Law_greatest.2.1 7 = .ok (.lastore, 1) := by decide +kernel
theorem d_Law_greatest_8 : decode M_Law_greatest.2.1 8 = .ok (.goto 9, 3) := by decide +kernel
theorem d_Law_greatest_11 : decode M_Law_greatest.2.1 11 = .ok (.astore_n 2, 1) := by decide +kernel
theorem d_Law_greatest_12 : decode M_Law_greatest.2.1 12 = .ok (.iconst 1, 1) := by decide +kernel
theorem d_Law_greatest_13 : decode M_Law_greatest.2.1 13 = .ok (.ireturn, 1) := by decide +kernel
theorem d_Law_greatest_14 : decode M_Law_greatest.2.1 14 = .ok (.astore_n 2, 1) := by decide +kernel
theorem d_Law_greatest_15 : decode M_Law_greatest.2.1 15 = .ok (.iconst 2, 1) := by decide +kernel
theorem d_Law_greatest_16 : decode M_Law_greatest.2.1 16 = .ok (.ireturn, 1) := by decide +kernel
theorem d_Law_greatest_17 : decode M_Law_greatest.2.1 17 = .ok (.iconst 0, 1) := by decide +kernel
theorem d_Law_greatest_18 : decode M_Law_greatest.2.1 18 = .ok (.ireturn, 1) := by decide +kernel
theorem d_Law_law_0 : decode M_Law_law.2.1 0 = .ok (.new 8, 3) := by decide +kernel
theorem d_Law_law_3 : decode M_Law_law.2.1 3 = .ok (.dup, 1) := by decide +kernel
theorem d_Law_law_4 : decode M_Law_law.2.1 4 = .ok (.invokespecial 41, 3) := by decide +kernel
theorem d_Law_law_7 : decode M_Law_law.2.1 7 = .ok (.astore_n 1, 1) := by decide +kernel
theorem d_Law_law_8 : decode M_Law_law.2.1 8 = .ok (.new 42, 3) := by decide +kernel
theorem d_Law_law_11 : decode M_Law_law.2.1 11 = .ok (.dup, 1) := by decide +kernel
theorem d_Law_law_12 : decode M_Law_law.2.1 12 = .ok (.invokespecial 44, 3) := by decide +kernel
theorem d_Law_law_15 : decode M_Law_law.2.1 15 = .ok (.astore_n 2, 1) := by decide +kernel
theorem d_Law_law_16 : decode M_Law_law.2.1 16 = .ok (.iconst 1, 1) := by decide +kernel
theorem d_Law_law_17 : decode M_Law_law.2.1 17 = .ok (.newarray .long, 2) := by decide +kernel
theorem d_Law_law_19 : decode M_Law_law.2.1 19 = .ok (.astore_n 3, 1) := by decide +kernel
theorem d_Law_law_20 : decode M_Law_law.2.1 20 = .ok (.iconst 0, 1) := by decide +kernel
theorem d_Law_law_21 : decode M_Law_law.2.1 21 = .ok (.istore 4, 2) := by decide +kernel
theorem d_Law_law_23 : decode M_Law_law.2.1 23 = .ok (.iload 4, 2) := by decide +kernel
theorem d_Law_law_25 : decode M_Law_law.2.1 25 = .ok (.aload_n 0, 1) := by decide +kernel
theorem d_Law_law_26 : decode M_Law_law.2.1 26 = .ok (.arraylength, 1) := by decide +kernel
theorem d_Law_law_27 : decode M_Law_law.2.1 27 = .ok (.iconst 4, 1) := by decide +kernel
theorem d_Law_law_28 : decode M_Law_law.2.1 28 = .ok (.isub, 1) := by decide +kernel
theorem d_Law_law_29 : decode M_Law_law.2.1 29 = .ok (.if_icmp .gt 660, 3) := by decide +kernel
theorem d_Law_law_32 : decode M_Law_law.2.1 32 = .ok (.aload_n 0, 1) := by decide +kernel
theorem d_Law_law_33 : decode M_Law_law.2.1 33 = .ok (.iload 4, 2) := by decide +kernel
theorem d_Law_law_35 : decode M_Law_law.2.1 35 = .ok (.iaload, 1) := by decide +kernel
theorem d_Law_law_36 : decode M_Law_law.2.1 36 = .ok (.bipush 15, 2) := by decide +kernel
theorem d_Law_law_38 : decode M_Law_law.2.1 38 = .ok (.iand, 1) := by decide +kernel
theorem d_Law_law_39 : decode M_Law_law.2.1 39 = .ok (.tableswitch 644 0 15 #[77, 134, 147, 191, 204, 217, 230, 279, 292, 317, 330, 374, 418, 462, 518, 581], 77) := by decide +kernel
theorem d_Law_law_116 : decode M_Law_law.2.1 116 = .ok (.aload_n 1, 1) := by decide +kernel
theorem d_Law_law_117 : decode M_Law_law.2.1 117 = .ok (.aload_n 0, 1) := by decide +kernel
theorem d_Law_law_118 : decode M_Law_law.2.1 118 = .ok (.iload 4, 2) := by decide +kernel
theorem d_Law_law_120 : decode M_Law_law.2.1 120 = .ok (.iconst 1, 1) := by decide +kernel
theorem d_Law_law_121 : decode M_Law_law.2.1 121 = .ok (.iadd, 1) := by decide +kernel
theorem d_Law_law_122 : decode M_Law_law.2.1 122 = .ok (.iaload, 1) := by decide +kernel
theorem d_Law_law_123 : decode M_Law_law.2.1 123 = .ok (.i2l, 1) := by decide +kernel
theorem d_Law_law_124 : decode M_Law_law.2.1 124 = .ok (.bipush 32, 2) := by decide +kernel
theorem d_Law_law_126 : decode M_Law_law.2.1 126 = .ok (.lshl, 1) := by decide +kernel
theorem d_Law_law_127 : decode M_Law_law.2.1 127 = .ok (.aload_n 0, 1) := by decide +kernel
theorem d_Law_law_128 : decode M_Law_law.2.1 128 = .ok (.iload 4, 2) := by decide +kernel
theorem d_Law_law_130 : decode M_Law_law.2.1 130 = .ok (.iconst 2, 1) := by decide +kernel
theorem d_Law_law_131 : decode M_Law_law.2.1 131 = .ok (.iadd, 1) := by decide +kernel
theorem d_Law_law_132 : decode M_Law_law.2.1 132 = .ok (.iaload, 1) := by decide +kernel
theorem d_Law_law_133 : decode M_Law_law.2.1 133 = .ok (.i2l, 1) := by decide +kernel
theorem d_Law_law_134 : decode M_Law_law.2.1 134 = .ok (.ldc2_w 45, 3) := by decide +kernel
theorem d_Law_law_137 : decode M_Law_law.2.1 137 = .ok (.land, 1) := by decide +kernel
theorem d_Law_law_138 : decode M_Law_law.2.1 138 = .ok (.lor, 1) := by decide +kernel
theorem d_Law_law_139 : decode M_Law_law.2.1 139 = .ok (.invokevirtual 47, 3) := by decide +kernel
theorem d_Law_law_142 : decode M_Law_law.2.1 142 = .ok (.aload_n 2, 1) := by decide +kernel
theorem d_Law_law_143 : decode M_Law_law.2.1 143 = .ok (.aload_n 0, 1) := by decide +kernel
theorem d_Law_law_144 : decode M_Law_law.2.1 144 = .ok (.iload 4, 2) := by decide +kernel
theorem d_Law_law_146 : decode M_Law_law.2.1 146 = .ok (.iconst 1, 1) := by decide +kernel
theorem d_Law_law_147 : decode M_Law_law.2.1 147 = .ok (.iadd, 1) := by decide +kernel
theorem d_Law_law_148 : decode M_Law_law.2.1 148 = .ok (.iaload, 1) := by decide +kernel
theorem d_Law_law_149 : decode M_Law_law.2.1 149 = .ok (.i2l, 1) := by decide +kernel
theorem d_Law_law_150 : decode M_Law_law.2.1 150 = .ok (.bipush 32, 2) := by decide +kernel
theorem d_Law_law_152 : decode M_Law_law.2.1 152 = .ok (.lshl, 1) := by decide +kernel
theorem d_Law_law_153 : decode M_Law_law.2.1 153 = .ok (.aload_n 0, 1) := by decide +kernel
theorem d_Law_law_154 : decode M_Law_law.2.1 154 = .ok (.iload 4, 2) := by decide +kernel
theorem d_Law_law_156 : decode M_Law_law.2.1 156 = .ok (.iconst 2, 1) := by decide +kernel
theorem d_Law_law_157 : decode M_Law_law.2.1 157 = .ok (.iadd, 1) := by decide +kernel
theorem d_Law_law_158 : decode M_Law_law.2.1 158 = .ok (.iaload, 1) := by decide +kernel
theorem d_Law_law_159 : decode M_Law_law.2.1 159 = .ok (.i2l, 1) := by decide +kernel
theorem d_Law_law_160 : decode M_Law_law.2.1 160 = .ok (.ldc2_w 45, 3) := by decide +kernel
theorem d_Law_law_163 : decode M_Law_law.2.1 163 = .ok (.land, 1) := by decide +kernel
theorem d_Law_law_164 : decode M_Law_law.2.1 164 = .ok (.lor, 1) := by decide +kernel
theorem d_Law_law_165 : decode M_Law_law.2.1 165 = .ok (.invokevirtual 51, 3) := by decide +kernel
theorem d_Law_law_168 : decode M_Law_law.2.1 168 = .ok (.if_icmp .eq 515, 3) := by decide +kernel
theorem d_Law_law_171 : decode M_Law_law.2.1 171 = .ok (.iconst 0, 1) := by decide +kernel
theorem d_Law_law_172 : decode M_Law_law.2.1 172 = .ok (.ireturn, 1) := by decide +kernel
theorem d_Law_law_173 : decode M_Law_law.2.1 173 = .ok (.aload_n 1, 1) := by decide +kernel
theorem d_Law_law_174 : decode M_Law_law.2.1 174 = .ok (.invokevirtual 52, 3) := by decide +kernel
theorem d_Law_law_177 : decode M_Law_law.2.1 177 = .ok (.aload_n 2, 1) := by decide +kernel
theorem d_Law_law_178 : decode M_Law_law.2.1 178 = .ok (.invokevirtual 55, 3) := by decide +kernel
theorem d_Law_law_181 : decode M_Law_law.2.1 181 = .ok (.if_icmp .eq 502, 3) := by decide +kernel
theorem d_Law_law_184 : decode M_Law_law.2.1 184 = .ok (.iconst 0, 1) := by decide +kernel
theorem d_Law_law_185 : decode M_Law_law.2.1 185 = .ok (.ireturn, 1) := by decide +kernel
theorem d_Law_law_186 : decode M_Law_law.2.1 186 = .ok (.aload_n 1, 1) := by decide +kernel
theorem d_Law_law_187 : decode M_Law_law.2.1 187 = .ok (.aload_n 3, 1) := by decide +kernel
theorem d_Law_law_188 : decode M_Law_law.2.1 188 = .ok (.invokestatic 56, 3) := by decide +kernel
theorem d_Law_law_191 : decode M_Law_law.2.1 191 = .ok (.istore 5, 2) := by decide +kernel
theorem d_Law_law_193 : decode M_Law_law.2.1 193 = .ok (.aload_n 2, 1) := by decide +kernel
theorem d_Law_law_194 : decode M_Law_law.2.1 194 = .ok (.invokevirtual 61, 3) := by decide +kernel
theorem d_Law_law_197 : decode M_Law_law.2.1 197 = .ok (.istore 6, 2) := by decide +kernel
theorem d_Law_law_199 : decode M_Law_law.2.1 199 = .ok (.aload_n 2, 1) := by decide +kernel
theorem d_Law_law_200 : decode M_Law_law.2.1 200 = .ok (.invokevirtual 62, 3) := by decide +kernel
theorem d_Law_law_203 : decode M_Law_law.2.1 203 = .ok (.iload 5, 2) := by decide +kernel
theorem d_Law_law_205 : decode M_Law_law.2.1 205 = .ok (.if_icmp .eq 5, 3) := by decide +kernel
theorem d_Law_law_208 : decode M_Law_law.2.1 208 = .ok (.iconst 0, 1) := by decide +kernel
theorem d_Law_law_209 : decode M_Law_law.2.1 209 = .ok (.ireturn, 1) := by decide +kernel
theorem d_Law_law_210 : decode M_Law_law.2.1 210 = .ok (.iload 5, 2) := by decide +kernel
theorem d_Law_law_212 : decode M_Law_law.2.1 212 = .ok (.ifCond .ne 15, 3) := by decide +kernel
theorem d_Law_law_215 : decode M_Law_law.2.1 215 = .ok (.aload_n 3, 1) := by decide +kernel
theorem d_Law_law_216 : decode M_Law_law.2.1 216 = .ok (.iconst 0, 1) := by decide +kernel
theorem d_Law_law_217 : decode M_Law_law.2.1 217 = .ok (.laload, 1) := by decide +kernel
theorem d_Law_law_218 : decode M_Law_law.2.1 218 = .ok (.iload 6, 2) := by decide +kernel
theorem d_Law_law_220 : decode M_Law_law.2.1 220 = .ok (.i2l, 1) := by decide +kernel
theorem d_Law_law_221 : decode M_Law_law.2.1 221 = .ok (.lcmp, 1) := by decide +kernel
theorem d_Law_law_222 : decode M_Law_law.2.1 222 = .ok (.ifCond .eq 5, 3) := by decide +kernel
theorem d_Law_law_225 : decode M_Law_law.2.1 225 = .ok (.iconst 0, 1) := by decide +kernel
theorem d_Law_law_226 : decode M_Law_law.2.1 226 = .ok (.ireturn, 1) := by decide +kernel
theorem d_Law_law_227 : decode M_Law_law.2.1 227 = .ok (.goto 456, 3) := by decide +kernel
theorem d_Law_law_230 : decode M_Law_law.2.1 230 = .ok (.aload_n 1, 1) := by decide +kernel
theorem d_Law_law_231 : decode M_Law_law.2.1 231 = .ok (.invokevirtual 65, 3) := by decide +kernel
theorem d_Law_law_234 : decode M_Law_law.2.1 234 = .ok (.aload_n 2, 1) := by decide +kernel
theorem d_Law_law_235 : decode M_Law_law.2.1 235 = .ok (.invokevirtual 68, 3) := by decide +kernel
theorem d_Law_law_238 : decode M_Law_law.2.1 238 = .ok (.if_icmp .eq 445, 3) := by decide +kernel
theorem d_Law_law_241 : decode M_Law_law.2.1 241 = .ok (.iconst 0, 1) := by decide +kernel
theorem d_Law_law_242 : decode M_Law_law.2.1 242 = .ok (.ireturn, 1) := by decide +kernel
theorem d_Law_law_243 : decode M_Law_law.2.1 243 = .ok (.aload_n 1, 1) := by decide +kernel
theorem d_Law_law_244 : decode M_Law_law.2.1 244 = .ok (.invokevirtual 69, 3) := by decide +kernel
theorem d_Law_law_247 : decode M_Law_law.2.1 247 = .ok (.aload_n 2, 1) := by decide +kernel
theorem d_Law_law_248 : decode M_Law_law.2.1 248 = .ok (.invokevirtual 72, 3) := by decide +kernel
theorem d_Law_law_251 : decode M_Law_law.2.1 251 = .ok (.if_icmp .eq 432, 3) := by decide +kernel
theorem d_Law_law_254 : decode M_Law_law.2.1 254 = .ok (.iconst 0, 1) := by decide +kernel
theorem d_Law_law_255 : decode M_Law_law.2.1 255 = .ok (.ireturn, 1) := by decide +kernel
theorem d_Law_law_256 : decode M_Law_law.2.1 256 = .ok (.aload_n 1, 1) := by decide +kernel
theorem d_Law_law_257 : decode M_Law_law.2.1 257 = .ok (.invokevirtual 73, 3) := by decide +kernel
theorem d_Law_law_260 : decode M_Law_law.2.1 260 = .ok (.aload_n 2, 1) := by decide +kernel
theorem d_Law_law_261 : decode M_Law_law.2.1 261 = .ok (.invokevirtual 76, 3) := by decide +kernel
theorem d_Law_law_264 : decode M_Law_law.2.1 264 = .ok (.if_icmp .eq 419, 3) := by decide +kernel
theorem d_Law_law_267 : decode M_Law_law.2.1 267 = .ok (.iconst 0, 1) := by decide +kernel
theorem d_Law_law_268 : decode M_Law_law.2.1 268 = .ok (.ireturn, 1) := by decide +kernel
theorem d_Law_law_269 : decode M_Law_law.2.1 269 = .ok (.aload_n 1, 1) := by decide +kernel
theorem d_Law_law_270 : decode M_Law_law.2.1 270 = .ok (.aload_n 0, 1) := by decide +kernel
theorem d_Law_law_271 : decode M_Law_law.2.1 271 = .ok (.iload 4, 2) := by decide +kernel
theorem d_Law_law_273 : decode M_Law_law.2.1 273 = .ok (.iconst 1, 1) := by decide +kernel
theorem d_Law_law_274 : decode M_Law_law.2.1 274 = .ok (.iadd, 1) := by decide +kernel
theorem d_Law_law_275 : decode M_Law_law.2.1 275 = .ok (.iaload, 1) := by decide +kernel
theorem d_Law_law_276 : decode M_Law_law.2.1 276 = .ok (.aload_n 0, 1) := by decide +kernel
theorem d_Law_law_277 : decode M_Law_law.2.1 277 = .ok (.iload 4, 2) := by decide +kernel
theorem d_Law_law_279 : decode M_Law_law.2.1 279 = .ok (.iconst 2, 1) := by decide +kernel
theorem d_Law_law_280 : decode M_Law_law.2.1 280 = .ok (.iadd, 1) := by decide +kernel
theorem d_Law_law_281 : decode M_Law_law.2.1 281 = .ok (.iaload, 1) := by decide +kernel
theorem d_Law_law_282 : decode M_Law_law.2.1 282 = .ok (.aload_n 0, 1) := by decide +kernel
theorem d_Law_law_283 : decode M_Law_law.2.1 283 = .ok (.iload 4, 2) := by decide +kernel
theorem d_Law_law_285 : decode M_Law_law.2.1 285 = .ok (.iconst 3, 1) := by decide +kernel
theorem d_Law_law_286 : decode M_Law_law.2.1 286 = .ok (.iadd, 1) := by decide +kernel
theorem d_Law_law_287 : decode M_Law_law.2.1 287 = .ok (.iaload, 1) := by decide +kernel
theorem d_Law_law_288 : decode M_Law_law.2.1 288 = .ok (.invokevirtual 77, 3) := by decide +kernel
theorem d_Law_law_291 : decode M_Law_law.2.1 291 = .ok (.aload_n 2, 1) := by decide +kernel
theorem d_Law_law_292 : decode M_Law_law.2.1 292 = .ok (.aload_n 0, 1) := by decide +kernel
theorem d_Law_law_293 : decode M_Law_law.2.1 293 = .ok (.iload 4, 2) := by decide +kernel
theorem d_Law_law_295 : decode M_Law_law.2.1 295 = .ok (.iconst 1, 1) := by decide +kernel
theorem d_Law_law_296 : decode M_Law_law.2.1 296 = .ok (.iadd, 1) := by decide +kernel
theorem d_Law_law_297 : decode M_Law_law.2.1 297 = .ok (.iaload, 1) := by decide +kernel
theorem d_Law_law_298 : decode M_Law_law.2.1 298 = .ok (.aload_n 0, 1) := by decide +kernel
theorem d_Law_law_299 : decode M_Law_law.2.1 299 = .ok (.iload 4, 2) := by decide +kernel
theorem d_Law_law_301 : decode M_Law_law.2.1 301 = .ok (.iconst 2, 1) := by decide +kernel
theorem d_Law_law_302 : decode M_Law_law.2.1 302 = .ok (.iadd, 1) := by decide +kernel
theorem d_Law_law_303 : decode M_Law_law.2.1 303 = .ok (.iaload, 1) := by decide +kernel
theorem d_Law_law_304 : decode M_Law_law.2.1 304 = .ok (.aload_n 0, 1) := by decide +kernel
theorem d_Law_law_305 : decode M_Law_law.2.1 305 = .ok (.iload 4, 2) := by decide +kernel
theorem d_Law_law_307 : decode M_Law_law.2.1 307 = .ok (.iconst 3, 1) := by decide +kernel
theorem d_Law_law_308 : decode M_Law_law.2.1 308 = .ok (.iadd, 1) := by decide +kernel
theorem d_Law_law_309 : decode M_Law_law.2.1 309 = .ok (.iaload, 1) := by decide +kernel
theorem d_Law_law_310 : decode M_Law_law.2.1 310 = .ok (.invokevirtual 81, 3) := by decide +kernel
theorem d_Law_law_313 : decode M_Law_law.2.1 313 = .ok (.if_icmp .eq 370, 3) := by decide +kernel
theorem d_Law_law_316 : decode M_Law_law.2.1 316 = .ok (.iconst 0, 1) := by decide +kernel
theorem d_Law_law_317 : decode M_Law_law.2.1 317 = .ok (.ireturn, 1) := by decide +kernel
theorem d_Law_law_318 : decode M_Law_law.2.1 318 = .ok (.aload_n 1, 1) := by decide +kernel
theorem d_Law_law_319 : decode M_Law_law.2.1 319 = .ok (.invokevirtual 82, 3) := by decide +kernel
theorem d_Law_law_322 : decode M_Law_law.2.1 322 = .ok (.aload_n 2, 1) := by decide +kernel
theorem d_Law_law_323 : decode M_Law_law.2.1 323 = .ok (.invokevirtual 85, 3) := by decide +kernel
theorem d_Law_law_326 : decode M_Law_law.2.1 326 = .ok (.if_icmp .eq 357, 3) := by decide +kernel
theorem d_Law_law_329 : decode M_Law_law.2.1 329 = .ok (.iconst 0, 1) := by decide +kernel
theorem d_Law_law_330 : decode M_Law_law.2.1 330 = .ok (.ireturn, 1) := by decide +kernel
theorem d_Law_law_331 : decode M_Law_law.2.1 331 = .ok (.aload_n 1, 1) := by decide +kernel
theorem d_Law_law_332 : decode M_Law_law.2.1 332 = .ok (.aload_n 0, 1) := by decide +kernel
theorem d_Law_law_333 : decode M_Law_law.2.1 333 = .ok (.iload 4, 2) := by decide +kernel
theorem d_Law_law_335 : decode M_Law_law.2.1 335 = .ok (.iconst 1, 1) := by decide +kernel
theorem d_Law_law_336 : decode M_Law_law.2.1 336 = .ok (.iadd, 1) := by decide +kernel
theorem d_Law_law_337 : decode M_Law_law.2.1 337 = .ok (.iaload, 1) := by decide +kernel
theorem d_Law_law_338 : decode M_Law_law.2.1 338 = .ok (.invokevirtual 86, 3) := by decide +kernel
theorem d_Law_law_341 : decode M_Law_law.2.1 341 = .ok (.aload_n 2, 1) := by decide +kernel
theorem d_Law_law_342 : decode M_Law_law.2.1 342 = .ok (.aload_n 0, 1) := by decide +kernel
theorem d_Law_law_343 : decode M_Law_law.2.1 343 = .ok (.iload 4, 2) := by decide +kernel
theorem d_Law_law_345 : decode M_Law_law.2.1 345 = .ok (.iconst 1, 1) := by decide +kernel
theorem d_Law_law_346 : decode M_Law_law.2.1 346 = .ok (.iadd, 1) := by decide +kernel
theorem d_Law_law_347 : decode M_Law_law.2.1 347 = .ok (.iaload, 1) := by decide +kernel
theorem d_Law_law_348 : decode M_Law_law.2.1 348 = .ok (.invokevirtual 89, 3) := by decide +kernel
theorem d_Law_law_351 : decode M_Law_law.2.1 351 = .ok (.if_icmp .eq 332, 3) := by decide +kernel
theorem d_Law_law_354 : decode M_Law_law.2.1 354 = .ok (.iconst 0, 1) := by decide +kernel
theorem d_Law_law_355 : decode M_Law_law.2.1 355 = .ok (.ireturn, 1) := by decide +kernel
theorem d_Law_law_356 : decode M_Law_law.2.1 356 = .ok (.aload_n 1, 1) := by decide +kernel
theorem d_Law_law_357 : decode M_Law_law.2.1 357 = .ok (.invokevirtual 90, 3) := by decide +kernel
theorem d_Law_law_360 : decode M_Law_law.2.1 360 = .ok (.aload_n 2, 1) := by decide +kernel
theorem d_Law_law_361 : decode M_Law_law.2.1 361 = .ok (.invokevirtual 94, 3) := by decide +kernel
theorem d_Law_law_364 : decode M_Law_law.2.1 364 = .ok (.if_icmp .eq 319, 3) := by decide +kernel
theorem d_Law_law_367 : decode M_Law_law.2.1 367 = .ok (.iconst 0, 1) := by decide +kernel
theorem d_Law_law_368 : decode M_Law_law.2.1 368 = .ok (.ireturn, 1) := by decide +kernel
theorem d_Law_law_369 : decode M_Law_law.2.1 369 = .ok (.aload_n 1, 1) := by decide +kernel
theorem d_Law_law_370 : decode M_Law_law.2.1 370 = .ok (.aload_n 3, 1) := by decide +kernel
theorem d_Law_law_371 : decode M_Law_law.2.1 371 = .ok (.invokestatic 95, 3) := by decide +kernel
theorem d_Law_law_374 : decode M_Law_law.2.1 374 = .ok (.istore 5, 2) := by decide +kernel
theorem d_Law_law_376 : decode M_Law_law.2.1 376 = .ok (.aload_n 2, 1) := by decide +kernel
theorem d_Law_law_377 : decode M_Law_law.2.1 377 = .ok (.invokevirtual 97, 3) := by decide +kernel
theorem d_Law_law_380 : decode M_Law_law.2.1 380 = .ok (.istore 6, 2) := by decide +kernel
theorem d_Law_law_382 : decode M_Law_law.2.1 382 = .ok (.aload_n 2, 1) := by decide +kernel
theorem d_Law_law_383 : decode M_Law_law.2.1 383 = .ok (.invokevirtual 62, 3) := by decide +kernel
theorem d_Law_law_386 : decode M_Law_law.2.1 386 = .ok (.iload 5, 2) := by decide +kernel
theorem d_Law_law_388 : decode M_Law_law.2.1 388 = .ok (.if_icmp .eq 5, 3) := by decide +kernel
theorem d_Law_law_391 : decode M_Law_law.2.1 391 = .ok (.iconst 0, 1) := by decide +kernel
theorem d_Law_law_392 : decode M_Law_law.2.1 392 = .ok (.ireturn, 1) := by decide +kernel
theorem d_Law_law_393 : decode M_Law_law.2.1 393 = .ok (.iload 5, 2) := by decide +kernel
theorem d_Law_law_395 : decode M_Law_law.2.1 395 = .ok (.ifCond .ne 15, 3) := by decide +kernel
theorem d_Law_law_398 : decode M_Law_law.2.1 398 = .ok (.aload_n 3, 1) := by decide +kernel
theorem d_Law_law_399 : decode M_Law_law.2.1 399 = .ok (.iconst 0, 1) := by decide +kernel
theorem d_Law_law_400 : decode M_Law_law.2.1 400 = .ok (.laload, 1) := by decide +kernel
theorem d_Law_law_401 : decode M_Law_law.2.1 401 = .ok (.iload 6, 2) := by decide +kernel
theorem d_Law_law_403 : decode M_Law_law.2.1 403 = .ok (.i2l, 1) := by decide +kernel
theorem d_Law_law_404 : decode M_Law_law.2.1 404 = .ok (.lcmp, 1) := by decide +kernel
theorem d_Law_law_405 : decode M_Law_law.2.1 405 = .ok (.ifCond .eq 5, 3) := by decide +kernel
theorem d_Law_law_408 : decode M_Law_law.2.1 408 = .ok (.iconst 0, 1) := by decide +kernel
theorem d_Law_law_409 : decode M_Law_law.2.1 409 = .ok (.ireturn, 1) := by decide +kernel
theorem d_Law_law_410 : decode M_Law_law.2.1 410 = .ok (.goto 273, 3) := by decide +kernel
theorem d_Law_law_413 : decode M_Law_law.2.1 413 = .ok (.aload_n 1, 1) := by decide +kernel
theorem d_Law_law_414 : decode M_Law_law.2.1 414 = .ok (.aload_n 3, 1) := by decide +kernel
theorem d_Law_law_415 : decode M_Law_law.2.1 415 = .ok (.invokestatic 98, 3) := by decide +kernel
theorem d_Law_law_418 : decode M_Law_law.2.1 418 = .ok (.istore 5, 2) := by decide +kernel
theorem d_Law_law_420 : decode M_Law_law.2.1 420 = .ok (.aload_n 2, 1) := by decide +kernel
theorem d_Law_law_421 : decode M_Law_law.2.1 421 = .ok (.invokevirtual 100, 3) := by decide +kernel
theorem d_Law_law_424 : decode M_Law_law.2.1 424 = .ok (.istore 6, 2) := by decide +kernel
theorem d_Law_law_426 : decode M_Law_law.2.1 426 = .ok (.aload_n 2, 1) := by decide +kernel
theorem d_Law_law_427 : decode M_Law_law.2.1 427 = .ok (.invokevirtual 62, 3) := by decide +kernel
theorem d_Law_law_430 : decode M_Law_law.2.1 430 = .ok (.iload 5, 2) := by decide +kernel
theorem d_Law_law_432 : decode M_Law_law.2.1 432 = .ok (.if_icmp .eq 5, 3) := by decide +kernel
theorem d_Law_law_435 : decode M_Law_law.2.1 435 = .ok (.iconst 0, 1) := by decide +kernel
theorem d_Law_law_436 : decode M_Law_law.2.1 436 = .ok (.ireturn, 1) := by decide +kernel
theorem d_Law_law_437 : decode M_Law_law.2.1 437 = .ok (.iload 5, 2) := by decide +kernel
theorem d_Law_law_439 : decode M_Law_law.2.1 439 = .ok (.ifCond .ne 15, 3) := by decide +kernel
theorem d_Law_law_442 : decode M_Law_law.2.1 442 = .ok (.aload_n 3, 1) := by decide +kernel
theorem d_Law_law_443 : decode M_Law_law.2.1 443 = .ok (.iconst 0, 1) := by decide +kernel
theorem d_Law_law_444 : decode M_Law_law.2.1 444 = .ok (.laload, 1) := by decide +kernel
theorem d_Law_law_445 : decode M_Law_law.2.1 445 = .ok (.iload 6, 2) := by decide +kernel
theorem d_Law_law_447 : decode M_Law_law.2.1 447 = .ok (.i2l, 1) := by decide +kernel
theorem d_Law_law_448 : decode M_Law_law.2.1 448 = .ok (.lcmp, 1) := by decide +kernel
theorem d_Law_law_449 : decode M_Law_law.2.1 449 = .ok (.ifCond .eq 5, 3) := by decide +kernel
theorem d_Law_law_452 : decode M_Law_law.2.1 452 = .ok (.iconst 0, 1) := by decide +kernel
theorem d_Law_law_453 : decode M_Law_law.2.1 453 = .ok (.ireturn, 1) := by decide +kernel
theorem d_Law_law_454 : decode M_Law_law.2.1 454 = .ok (.goto 229, 3) := by decide +kernel
theorem d_Law_law_457 : decode M_Law_law.2.1 457 = .ok (.aload_n 1, 1) := by decide +kernel
theorem d_Law_law_458 : decode M_Law_law.2.1 458 = .ok (.aload_n 3, 1) := by decide +kernel
theorem d_Law_law_459 : decode M_Law_law.2.1 459 = .ok (.invokestatic 101, 3) := by decide +kernel
theorem d_Law_law_462 : decode M_Law_law.2.1 462 = .ok (.istore 5, 2) := by decide +kernel
theorem d_Law_law_464 : decode M_Law_law.2.1 464 = .ok (.aload_n 2, 1) := by decide +kernel
theorem d_Law_law_465 : decode M_Law_law.2.1 465 = .ok (.invokevirtual 103, 3) := by decide +kernel
theorem d_Law_law_468 : decode M_Law_law.2.1 468 = .ok (.istore 6, 2) := by decide +kernel
theorem d_Law_law_470 : decode M_Law_law.2.1 470 = .ok (.aload_n 2, 1) := by decide +kernel
theorem d_Law_law_471 : decode M_Law_law.2.1 471 = .ok (.invokevirtual 62, 3) := by decide +kernel
theorem d_Law_law_474 : decode M_Law_law.2.1 474 = .ok (.iload 5, 2) := by decide +kernel
theorem d_Law_law_476 : decode M_Law_law.2.1 476 = .ok (.if_icmp .eq 5, 3) := by decide +kernel
theorem d_Law_law_479 : decode M_Law_law.2.1 479 = .ok (.iconst 0, 1) := by decide +kernel
theorem d_Law_law_480 : decode M_Law_law.2.1 480 = .ok (.ireturn, 1) := by decide +kernel
theorem d_Law_law_481 : decode M_Law_law.2.1 481 = .ok (.iload 5, 2) := by decide +kernel
theorem d_Law_law_483 : decode M_Law_law.2.1 483 = .ok (.ifCond .ne 15, 3) := by decide +kernel
theorem d_Law_law_486 : decode M_Law_law.2.1 486 = .ok (.aload_n 3, 1) := by decide +kernel
theorem d_Law_law_487 : decode M_Law_law.2.1 487 = .ok (.iconst 0, 1) := by decide +kernel
theorem d_Law_law_488 : decode M_Law_law.2.1 488 = .ok (.laload, 1) := by decide +kernel
theorem d_Law_law_489 : decode M_Law_law.2.1 489 = .ok (.iload 6, 2) := by decide +kernel
theorem d_Law_law_491 : decode M_Law_law.2.1 491 = .ok (.i2l, 1) := by decide +kernel
theorem d_Law_law_492 : decode M_Law_law.2.1 492 = .ok (.lcmp, 1) := by decide +kernel
theorem d_Law_law_493 : decode M_Law_law.2.1 493 = .ok (.ifCond .eq 5, 3) := by decide +kernel
theorem d_Law_law_496 : decode M_Law_law.2.1 496 = .ok (.iconst 0, 1) := by decide +kernel
theorem d_Law_law_497 : decode M_Law_law.2.1 497 = .ok (.ireturn, 1) := by decide +kernel
theorem d_Law_law_498 : decode M_Law_law.2.1 498 = .ok (.goto 185, 3) := by decide +kernel
theorem d_Law_law_501 : decode M_Law_law.2.1 501 = .ok (.aload_n 1, 1) := by decide +kernel
theorem d_Law_law_502 : decode M_Law_law.2.1 502 = .ok (.aload_n 0, 1) := by decide +kernel
theorem d_Law_law_503 : decode M_Law_law.2.1 503 = .ok (.iload 4, 2) := by decide +kernel
theorem d_Law_law_505 : decode M_Law_law.2.1 505 = .ok (.iconst 1, 1) := by decide +kernel
theorem d_Law_law_506 : decode M_Law_law.2.1 506 = .ok (.iadd, 1) := by decide +kernel
theorem d_Law_law_507 : decode M_Law_law.2.1 507 = .ok (.iaload, 1) := by decide +kernel
theorem d_Law_law_508 : decode M_Law_law.2.1 508 = .ok (.aload_n 3, 1) := by decide +kernel
theorem d_Law_law_509 : decode M_Law_law.2.1 509 = .ok (.invokestatic 104, 3) := by decide +kernel
theorem d_Law_law_512 : decode M_Law_law.2.1 512 = .ok (.istore 5, 2) := by decide +kernel
theorem d_Law_law_514 : decode M_Law_law.2.1 514 = .ok (.aload_n 2, 1) := by decide +kernel
theorem d_Law_law_515 : decode M_Law_law.2.1 515 = .ok (.aload_n 0, 1) := by decide +kernel
theorem d_Law_law_516 : decode M_Law_law.2.1 516 = .ok (.iload 4, 2) := by decide +kernel
theorem d_Law_law_518 : decode M_Law_law.2.1 518 = .ok (.iconst 1, 1) := by decide +kernel
theorem d_Law_law_519 : decode M_Law_law.2.1 519 = .ok (.iadd, 1) := by decide +kernel
theorem d_Law_law_520 : decode M_Law_law.2.1 520 = .ok (.iaload, 1) := by decide +kernel
theorem d_Law_law_521 : decode M_Law_law.2.1 521 = .ok (.invokevirtual 107, 3) := by decide +kernel
theorem d_Law_law_524 : decode M_Law_law.2.1 524 = .ok (.istore 6, 2) := by decide +kernel
theorem d_Law_law_526 : decode M_Law_law.2.1 526 = .ok (.aload_n 2, 1) := by decide +kernel
theorem d_Law_law_527 : decode M_Law_law.2.1 527 = .ok (.invokevirtual 62, 3) := by decide +kernel
theorem d_Law_law_530 : decode M_Law_law.2.1 530 = .ok (.iload 5, 2) := by decide +kernel
theorem d_Law_law_532 : decode M_Law_law.2.1 532 = .ok (.if_icmp .eq 5, 3) := by decide +kernel
theorem d_Law_law_535 : decode M_Law_law.2.1 535 = .ok (.iconst 0, 1) := by decide +kernel
theorem d_Law_law_536 : decode M_Law_law.2.1 536 = .ok (.ireturn, 1) := by decide +kernel
theorem d_Law_law_537 : decode M_Law_law.2.1 537 = .ok (.iload 5, 2) := by decide +kernel
theorem d_Law_law_539 : decode M_Law_law.2.1 539 = .ok (.ifCond .ne 15, 3) := by decide +kernel
theorem d_Law_law_542 : decode M_Law_law.2.1 542 = .ok (.aload_n 3, 1) := by decide +kernel
theorem d_Law_law_543 : decode M_Law_law.2.1 543 = .ok (.iconst 0, 1) := by decide +kernel
theorem d_Law_law_544 : decode M_Law_law.2.1 544 = .ok (.laload, 1) := by decide +kernel
theorem d_Law_law_545 : decode M_Law_law.2.1 545 = .ok (.iload 6, 2) := by decide +kernel
theorem d_Law_law_547 : decode M_Law_law.2.1 547 = .ok (.i2l, 1) := by decide +kernel
theorem d_Law_law_548 : decode M_Law_law.2.1 548 = .ok (.lcmp, 1) := by decide +kernel
theorem d_Law_law_549 : decode M_Law_law.2.1 549 = .ok (.ifCond .eq 5, 3) := by decide +kernel
theorem d_Law_law_552 : decode M_Law_law.2.1 552 = .ok (.iconst 0, 1) := by decide +kernel
theorem d_Law_law_553 : decode M_Law_law.2.1 553 = .ok (.ireturn, 1) := by decide +kernel
theorem d_Law_law_554 : decode M_Law_law.2.1 554 = .ok (.goto 129, 3) := by decide +kernel
theorem d_Law_law_557 : decode M_Law_law.2.1 557 = .ok (.aload_n 1, 1) := by decide +kernel
theorem d_Law_law_558 : decode M_Law_law.2.1 558 = .ok (.aload_n 0, 1) := by decide +kernel
theorem d_Law_law_559 : decode M_Law_law.2.1 559 = .ok (.iload 4, 2) := by decide +kernel
theorem d_Law_law_561 : decode M_Law_law.2.1 561 = .ok (.iconst 1, 1) := by decide +kernel
theorem d_Law_law_562 : decode M_Law_law.2.1 562 = .ok (.iadd, 1) := by decide +kernel
theorem d_Law_law_563 : decode M_Law_law.2.1 563 = .ok (.iaload, 1) := by decide +kernel
theorem d_Law_law_564 : decode M_Law_law.2.1 564 = .ok (.aload_n 3, 1) := by decide +kernel
theorem d_Law_law_565 : decode M_Law_law.2.1 565 = .ok (.invokestatic 108, 3) := by decide +kernel
theorem d_Law_law_568 : decode M_Law_law.2.1 568 = .ok (.istore 5, 2) := by decide +kernel
theorem d_Law_law_570 : decode M_Law_law.2.1 570 = .ok (.aload_n 2, 1) := by decide +kernel
theorem d_Law_law_571 : decode M_Law_law.2.1 571 = .ok (.aload_n 0, 1) := by decide +kernel
theorem d_Law_law_572 : decode M_Law_law.2.1 572 = .ok (.iload 4, 2) := by decide +kernel
theorem d_Law_law_574 : decode M_Law_law.2.1 574 = .ok (.iconst 1, 1) := by decide +kernel
theorem d_Law_law_575 : decode M_Law_law.2.1 575 = .ok (.iadd, 1) := by decide +kernel
theorem d_Law_law_576 : decode M_Law_law.2.1 576 = .ok (.iaload, 1) := by decide +kernel
theorem d_Law_law_577 : decode M_Law_law.2.1 577 = .ok (.invokevirtual 110, 3) := by decide +kernel
theorem d_Law_law_580 : decode M_Law_law.2.1 580 = .ok (.istore 6, 2) := by decide +kernel
theorem d_Law_law_582 : decode M_Law_law.2.1 582 = .ok (.aload_n 2, 1) := by decide +kernel
theorem d_Law_law_583 : decode M_Law_law.2.1 583 = .ok (.invokevirtual 62, 3) := by decide +kernel
theorem d_Law_law_586 : decode M_Law_law.2.1 586 = .ok (.iload 5, 2) := by decide +kernel
theorem d_Law_law_588 : decode M_Law_law.2.1 588 = .ok (.if_icmp .eq 5, 3) := by decide +kernel
theorem d_Law_law_591 : decode M_Law_law.2.1 591 = .ok (.iconst 0, 1) := by decide +kernel
theorem d_Law_law_592 : decode M_Law_law.2.1 592 = .ok (.ireturn, 1) := by decide +kernel
theorem d_Law_law_593 : decode M_Law_law.2.1 593 = .ok (.iload 5, 2) := by decide +kernel
theorem d_Law_law_595 : decode M_Law_law.2.1 595 = .ok (.ifCond .ne 22, 3) := by decide +kernel
theorem d_Law_law_598 : decode M_Law_law.2.1 598 = .ok (.aload_n 3, 1) := by decide +kernel
theorem d_Law_law_599 : decode M_Law_law.2.1 599 = .ok (.iconst 0, 1) := by decide +kernel
theorem d_Law_law_600 : decode M_Law_law.2.1 600 = .ok (.laload, 1) := by decide +kernel
theorem d_Law_law_601 : decode M_Law_law.2.1 601 = .ok (.iload 6, 2) := by decide +kernel
theorem d_Law_law_603 : decode M_Law_law.2.1 603 = .ok (.ifCond .eq 7, 3) := by decide +kernel
theorem d_Law_law_606 : decode M_Law_law.2.1 606 = .ok (.lconst 1, 1) := by decide +kernel
theorem d_Law_law_607 : decode M_Law_law.2.1 607 = .ok (.goto 4, 3) := by decide +kernel
theorem d_Law_law_610 : decode M_Law_law.2.1 610 = .ok (.lconst 0, 1) := by decide +kernel
theorem d_Law_law_611 : decode M_Law_law.2.1 611 = .ok (.lcmp, 1) := by decide +kernel
theorem d_Law_law_612 : decode M_Law_law.2.1 612 = .ok (.ifCond .eq 5, 3) := by decide +kernel
theorem d_Law_law_615 : decode M_Law_law.2.1 615 = .ok (.iconst 0, 1) := by decide +kernel
theorem d_Law_law_616 : decode M_Law_law.2.1 616 = .ok (.ireturn, 1) := by decide +kernel
theorem d_Law_law_617 : decode M_Law_law.2.1 617 = .ok (.goto 66, 3) := by decide +kernel
theorem d_Law_law_620 : decode M_Law_law.2.1 620 = .ok (.aload_n 1, 1) := by decide +kernel
theorem d_Law_law_621 : decode M_Law_law.2.1 621 = .ok (.aload_n 0, 1) := by decide +kernel
theorem d_Law_law_622 : decode M_Law_law.2.1 622 = .ok (.iload 4, 2) := by decide +kernel
theorem d_Law_law_624 : decode M_Law_law.2.1 624 = .ok (.iconst 1, 1) := by decide +kernel
theorem d_Law_law_625 : decode M_Law_law.2.1 625 = .ok (.iadd, 1) := by decide +kernel
theorem d_Law_law_626 : decode M_Law_law.2.1 626 = .ok (.iaload, 1) := by decide +kernel
theorem d_Law_law_627 : decode M_Law_law.2.1 627 = .ok (.aload_n 3, 1) := by decide +kernel
theorem d_Law_law_628 : decode M_Law_law.2.1 628 = .ok (.invokestatic 111, 3) := by decide +kernel
theorem d_Law_law_631 : decode M_Law_law.2.1 631 = .ok (.istore 5, 2) := by decide +kernel
theorem d_Law_law_633 : decode M_Law_law.2.1 633 = .ok (.aload_n 2, 1) := by decide +kernel
theorem d_Law_law_634 : decode M_Law_law.2.1 634 = .ok (.aload_n 0, 1) := by decide +kernel
theorem d_Law_law_635 : decode M_Law_law.2.1 635 = .ok (.iload 4, 2) := by decide +kernel
theorem d_Law_law_637 : decode M_Law_law.2.1 637 = .ok (.iconst 1, 1) := by decide +kernel
theorem d_Law_law_638 : decode M_Law_law.2.1 638 = .ok (.iadd, 1) := by decide +kernel
theorem d_Law_law_639 : decode M_Law_law.2.1 639 = .ok (.iaload, 1) := by decide +kernel
theorem d_Law_law_640 : decode M_Law_law.2.1 640 = .ok (.invokevirtual 113, 3) := by decide +kernel
theorem d_Law_law_643 : decode M_Law_law.2.1 643 = .ok (.istore 6, 2) := by decide +kernel
theorem d_Law_law_645 : decode M_Law_law.2.1 645 = .ok (.aload_n 2, 1) := by decide +kernel
theorem d_Law_law_646 : decode M_Law_law.2.1 646 = .ok (.invokevirtual 62, 3) := by decide +kernel
theorem d_Law_law_649 : decode M_Law_law.2.1 649 = .ok (.iload 5, 2) := by decide +kernel
theorem d_Law_law_651 : decode M_Law_law.2.1 651 = .ok (.if_icmp .eq 5, 3) := by decide +kernel
theorem d_Law_law_654 : decode M_Law_law.2.1 654 = .ok (.iconst 0, 1) := by decide +kernel
theorem d_Law_law_655 : decode M_Law_law.2.1 655 = .ok (.ireturn, 1) := by decide +kernel
theorem d_Law_law_656 : decode M_Law_law.2.1 656 = .ok (.iload 5, 2) := by decide +kernel
theorem d_Law_law_658 : decode M_Law_law.2.1 658 = .ok (.ifCond .ne 22, 3) := by decide +kernel
theorem d_Law_law_661 : decode M_Law_law.2.1 661 = .ok (.aload_n 3, 1) := by decide +kernel
theorem d_Law_law_662 : decode M_Law_law.2.1 662 = .ok (.iconst 0, 1) := by decide +kernel
theorem d_Law_law_663 : decode M_Law_law.2.1 663 = .ok (.laload, 1) := by decide +kernel
theorem d_Law_law_664 : decode M_Law_law.2.1 664 = .ok (.iload 6, 2) := by decide +kernel
theorem d_Law_law_666 : decode M_Law_law.2.1 666 = .ok (.ifCond .eq 7, 3) := by decide +kernel
theorem d_Law_law_669 : decode M_Law_law.2.1 669 = .ok (.lconst 1, 1) := by decide +kernel
theorem d_Law_law_670 : decode M_Law_law.2.1 670 = .ok (.goto 4, 3) := by decide +kernel
theorem d_Law_law_673 : decode M_Law_law.2.1 673 = .ok (.lconst 0, 1) := by decide +kernel
theorem d_Law_law_674 : decode M_Law_law.2.1 674 = .ok (.lcmp, 1) := by decide +kernel
theorem d_Law_law_675 : decode M_Law_law.2.1 675 = .ok (.ifCond .eq 5, 3) := by decide +kernel
theorem d_Law_law_678 : decode M_Law_law.2.1 678 = .ok (.iconst 0, 1) := by decide +kernel
theorem d_Law_law_679 : decode M_Law_law.2.1 679 = .ok (.ireturn, 1) := by decide +kernel
theorem d_Law_law_680 : decode M_Law_law.2.1 680 = .ok (.goto 3, 3) := by decide +kernel
theorem d_Law_law_683 : decode M_Law_law.2.1 683 = .ok (.iinc 4 4, 3) := by decide +kernel
theorem d_Law_law_686 : decode M_Law_law.2.1 686 = .ok (.goto (-663), 3) := by decide +kernel
theorem d_Law_law_689 : decode M_Law_law.2.1 689 = .ok (.iconst 1, 1) := by decide +kernel
theorem d_Law_law_690 : decode M_Law_law.2.1 690 = .ok (.ireturn, 1) := by decide +kernel
theorem d_Law_least_0 : decode M_Law_least.2.1 0 = .ok (.aload_n 1, 1) := by decide +kernel
theorem d_Law_least_1 : decode M_Law_least.2.1 1 = .ok (.iconst 0, 1) := by decide +kernel
theorem d_Law_least_2 : decode M_Law_least.2.1 2 = .ok (.aload_n 0, 1) := by decide +kernel
theorem d_Law_least_3 : decode M_Law_least.2.1 3 = .ok (.invokevirtual 20, 3) := by decide +kernel
theorem d_Law_least_6 : decode M_Law_least.2.1 6 = .ok (.i2l, 1) := by decide +kernel
theorem d_Law_least_7 : decode M_Law_least.2.1 7 = .ok (.lastore, 1) := by decide +kernel
theorem d_Law_least_8 : decode M_Law_least.2.1 8 = .ok (.goto 9, 3) := by decide +kernel
theorem d_Law_least_11 : decode M_Law_least.2.1 11 = .ok (.astore_n 2, 1) := by decide +kernel
theorem d_Law_least_12 : decode M_Law_least.2.1 12 = .ok (.iconst 1, 1) := by decide +kernel
theorem d_Law_least_13 : decode M_Law_least.2.1 13 = .ok (.ireturn, 1) := by decide +kernel
theorem d_Law_least_14 : decode M_Law_least.2.1 14 = .ok (.astore_n 2, 1) := by decide +kernel
theorem d_Law_least_15 : decode M_Law_least.2.1 15 = .ok (.iconst 2, 1) := by decide +kernel
theorem d_Law_least_16 : decode M_Law_least.2.1 16 = .ok (.ireturn, 1) := by decide +kernel
theorem d_Law_least_17 : decode M_Law_least.2.1 17 = .ok (.iconst 0, 1) := by decide +kernel
theorem d_Law_least_18 : decode M_Law_least.2.1 18 = .ok (.ireturn, 1) := by decide +kernel
theorem d_Law_read_0 : decode M_Law_read.2.1 0 = .ok (.aload_n 1, 1) := by decide +kernel
theorem d_Law_read_1 : decode M_Law_read.2.1 1 = .ok (.iconst 0, 1) := by decide +kernel
theorem d_Law_read_2 : decode M_Law_read.2.1 2 = .ok (.aload_n 0, 1) := by decide +kernel
theorem d_Law_read_3 : decode M_Law_read.2.1 3 = .ok (.invokevirtual 7, 3) := by decide +kernel
theorem d_Law_read_6 : decode M_Law_read.2.1 6 = .ok (.i2l, 1) := by decide +kernel
theorem d_Law_read_7 : decode M_Law_read.2.1 7 = .ok (.lastore, 1) := by decide +kernel
theorem d_Law_read_8 : decode M_Law_read.2.1 8 = .ok (.goto 6, 3) := by decide +kernel
theorem d_Law_read_11 : decode M_Law_read.2.1 11 = .ok (.astore_n 2, 1) := by decide +kernel
theorem d_Law_read_12 : decode M_Law_read.2.1 12 = .ok (.iconst 1, 1) := by decide +kernel
theorem d_Law_read_13 : decode M_Law_read.2.1 13 = .ok (.ireturn, 1) := by decide +kernel
theorem d_Law_read_14 : decode M_Law_read.2.1 14 = .ok (.iconst 0, 1) := by decide +kernel
theorem d_Law_read_15 : decode M_Law_read.2.1 15 = .ok (.ireturn, 1) := by decide +kernel
theorem d_Law_tables_0 : decode M_Law_tables.2.1 0 = .ok (.aload_n 1, 1) := by decide +kernel
theorem d_Law_tables_1 : decode M_Law_tables.2.1 1 = .ok (.iconst 0, 1) := by decide +kernel
theorem d_Law_tables_2 : decode M_Law_tables.2.1 2 = .ok (.aload_n 0, 1) := by decide +kernel
theorem d_Law_tables_3 : decode M_Law_tables.2.1 3 = .ok (.invokevirtual 15, 3) := by decide +kernel
theorem d_Law_tables_6 : decode M_Law_tables.2.1 6 = .ok (.i2l, 1) := by decide +kernel
theorem d_Law_tables_7 : decode M_Law_tables.2.1 7 = .ok (.lastore, 1) := by decide +kernel
theorem d_Law_tables_8 : decode M_Law_tables.2.1 8 = .ok (.goto 6, 3) := by decide +kernel
theorem d_Law_tables_11 : decode M_Law_tables.2.1 11 = .ok (.astore_n 2, 1) := by decide +kernel
theorem d_Law_tables_12 : decode M_Law_tables.2.1 12 = .ok (.iconst 1, 1) := by decide +kernel
theorem d_Law_tables_13 : decode M_Law_tables.2.1 13 = .ok (.ireturn, 1) := by decide +kernel
theorem d_Law_tables_14 : decode M_Law_tables.2.1 14 = .ok (.iconst 0, 1) := by decide +kernel
theorem d_Law_tables_15 : decode M_Law_tables.2.1 15 = .ok (.ireturn, 1) := by decide +kernel
theorem d_Law_without_0 : decode M_Law_without.2.1 0 = .ok (.aload_n 2, 1) := by decide +kernel
theorem d_Law_without_1 : decode M_Law_without.2.1 1 = .ok (.iconst 0, 1) := by decide +kernel
theorem d_Law_without_2 : decode M_Law_without.2.1 2 = .ok (.aload_n 0, 1) := by decide +kernel
theorem d_Law_without_3 : decode M_Law_without.2.1 3 = .ok (.iload_n 1, 1) := by decide +kernel
theorem d_Law_without_4 : decode M_Law_without.2.1 4 = .ok (.invokevirtual 34, 3) := by decide +kernel
theorem d_Law_without_7 : decode M_Law_without.2.1 7 = .ok (.ifCond .eq 7, 3) := by decide +kernel
theorem d_Law_without_10 : decode M_Law_without.2.1 10 = .ok (.lconst 1, 1) := by decide +kernel
theorem d_Law_without_11 : decode M_Law_without.2.1 11 = .ok (.goto 4, 3) := by decide +kernel
theorem d_Law_without_14 : decode M_Law_without.2.1 14 = .ok (.lconst 0, 1) := by decide +kernel
theorem d_Law_without_15 : decode M_Law_without.2.1 15 = .ok (.lastore, 1) := by decide +kernel
theorem d_Law_without_16 : decode M_Law_without.2.1 16 = .ok (.goto 9, 3) := by decide +kernel
theorem d_Law_without_19 : decode M_Law_without.2.1 19 = .ok (.astore_n 3, 1) := by decide +kernel
theorem d_Law_without_20 : decode M_Law_without.2.1 20 = .ok (.iconst 1, 1) := by decide +kernel
theorem d_Law_without_21 : decode M_Law_without.2.1 21 = .ok (.ireturn, 1) := by decide +kernel
theorem d_Law_without_22 : decode M_Law_without.2.1 22 = .ok (.astore_n 3, 1) := by decide +kernel
theorem d_Law_without_23 : decode M_Law_without.2.1 23 = .ok (.iconst 2, 1) := by decide +kernel
theorem d_Law_without_24 : decode M_Law_without.2.1 24 = .ok (.ireturn, 1) := by decide +kernel
theorem d_Law_without_25 : decode M_Law_without.2.1 25 = .ok (.iconst 0, 1) := by decide +kernel
theorem d_Law_without_26 : decode M_Law_without.2.1 26 = .ok (.ireturn, 1) := by decide +kernel
