/-! What each instruction of the law is. -/
theorem d_W_0 : decode code 0 = .ok (.new 8, 3) := by decide +kernel
theorem d_W_3 : decode code 3 = .ok (.dup, 1) := by decide +kernel
theorem d_W_4 : decode code 4 = .ok (.invokespecial 64, 3) := by decide +kernel
theorem d_W_7 : decode code 7 = .ok (.astore_n 1, 1) := by decide +kernel
theorem d_W_8 : decode code 8 = .ok (.new 65, 3) := by decide +kernel
theorem d_W_11 : decode code 11 = .ok (.dup, 1) := by decide +kernel
theorem d_W_12 : decode code 12 = .ok (.invokespecial 67, 3) := by decide +kernel
theorem d_W_15 : decode code 15 = .ok (.astore_n 2, 1) := by decide +kernel
theorem d_W_16 : decode code 16 = .ok (.iconst 1, 1) := by decide +kernel
theorem d_W_17 : decode code 17 = .ok (.newarray .long, 2) := by decide +kernel
theorem d_W_19 : decode code 19 = .ok (.astore_n 3, 1) := by decide +kernel
theorem d_W_20 : decode code 20 = .ok (.iconst 0, 1) := by decide +kernel
theorem d_W_21 : decode code 21 = .ok (.istore 4, 2) := by decide +kernel
theorem d_W_23 : decode code 23 = .ok (.iload 4, 2) := by decide +kernel
theorem d_W_25 : decode code 25 = .ok (.aload_n 0, 1) := by decide +kernel
theorem d_W_26 : decode code 26 = .ok (.arraylength, 1) := by decide +kernel
theorem d_W_27 : decode code 27 = .ok (.iconst 5, 1) := by decide +kernel
theorem d_W_28 : decode code 28 = .ok (.isub, 1) := by decide +kernel
theorem d_W_29 : decode code 29 = .ok (.if_icmp .gt 818, 3) := by decide +kernel
theorem d_W_32 : decode code 32 = .ok (.aload_n 0, 1) := by decide +kernel
theorem d_W_33 : decode code 33 = .ok (.iload 4, 2) := by decide +kernel
theorem d_W_35 : decode code 35 = .ok (.iaload, 1) := by decide +kernel
theorem d_W_36 : decode code 36 = .ok (.bipush 15, 2) := by decide +kernel
theorem d_W_38 : decode code 38 = .ok (.iand, 1) := by decide +kernel
theorem d_W_39 : decode code 39 = .ok (.tableswitch 802 0 12 #[65, 101, 168, 260, 316, 352, 388, 451, 487, 567, 622, 678, 746], 65) := by decide +kernel
theorem d_W_104 : decode code 104 = .ok (.aload_n 1, 1) := by decide +kernel
theorem d_W_105 : decode code 105 = .ok (.aload_n 0, 1) := by decide +kernel
theorem d_W_106 : decode code 106 = .ok (.iload 4, 2) := by decide +kernel
theorem d_W_108 : decode code 108 = .ok (.iconst 1, 1) := by decide +kernel
theorem d_W_109 : decode code 109 = .ok (.iadd, 1) := by decide +kernel
theorem d_W_110 : decode code 110 = .ok (.iaload, 1) := by decide +kernel
theorem d_W_111 : decode code 111 = .ok (.invokestatic 68, 3) := by decide +kernel
theorem d_W_114 : decode code 114 = .ok (.istore 5, 2) := by decide +kernel
theorem d_W_116 : decode code 116 = .ok (.aload_n 2, 1) := by decide +kernel
theorem d_W_117 : decode code 117 = .ok (.aload_n 0, 1) := by decide +kernel
theorem d_W_118 : decode code 118 = .ok (.iload 4, 2) := by decide +kernel
theorem d_W_120 : decode code 120 = .ok (.iconst 1, 1) := by decide +kernel
theorem d_W_121 : decode code 121 = .ok (.iadd, 1) := by decide +kernel
theorem d_W_122 : decode code 122 = .ok (.iaload, 1) := by decide +kernel
theorem d_W_123 : decode code 123 = .ok (.invokevirtual 73, 3) := by decide +kernel
theorem d_W_126 : decode code 126 = .ok (.aload_n 2, 1) := by decide +kernel
theorem d_W_127 : decode code 127 = .ok (.invokevirtual 74, 3) := by decide +kernel
theorem d_W_130 : decode code 130 = .ok (.iload 5, 2) := by decide +kernel
theorem d_W_132 : decode code 132 = .ok (.if_icmp .eq 5, 3) := by decide +kernel
theorem d_W_135 : decode code 135 = .ok (.iconst 0, 1) := by decide +kernel
theorem d_W_136 : decode code 136 = .ok (.ireturn, 1) := by decide +kernel
theorem d_W_137 : decode code 137 = .ok (.goto 704, 3) := by decide +kernel
theorem d_W_140 : decode code 140 = .ok (.aload_n 1, 1) := by decide +kernel
theorem d_W_141 : decode code 141 = .ok (.aload_n 0, 1) := by decide +kernel
theorem d_W_142 : decode code 142 = .ok (.iload 4, 2) := by decide +kernel
theorem d_W_144 : decode code 144 = .ok (.iconst 1, 1) := by decide +kernel
theorem d_W_145 : decode code 145 = .ok (.iadd, 1) := by decide +kernel
theorem d_W_146 : decode code 146 = .ok (.iaload, 1) := by decide +kernel
theorem d_W_147 : decode code 147 = .ok (.aload_n 0, 1) := by decide +kernel
theorem d_W_148 : decode code 148 = .ok (.iload 4, 2) := by decide +kernel
theorem d_W_150 : decode code 150 = .ok (.iconst 2, 1) := by decide +kernel
theorem d_W_151 : decode code 151 = .ok (.iadd, 1) := by decide +kernel
theorem d_W_152 : decode code 152 = .ok (.iaload, 1) := by decide +kernel
theorem d_W_153 : decode code 153 = .ok (.aload_n 3, 1) := by decide +kernel
theorem d_W_154 : decode code 154 = .ok (.invokestatic 78, 3) := by decide +kernel
theorem d_W_157 : decode code 157 = .ok (.istore 5, 2) := by decide +kernel
theorem d_W_159 : decode code 159 = .ok (.aload_n 2, 1) := by decide +kernel
theorem d_W_160 : decode code 160 = .ok (.aload_n 0, 1) := by decide +kernel
theorem d_W_161 : decode code 161 = .ok (.iload 4, 2) := by decide +kernel
theorem d_W_163 : decode code 163 = .ok (.iconst 1, 1) := by decide +kernel
theorem d_W_164 : decode code 164 = .ok (.iadd, 1) := by decide +kernel
theorem d_W_165 : decode code 165 = .ok (.iaload, 1) := by decide +kernel
theorem d_W_166 : decode code 166 = .ok (.aload_n 0, 1) := by decide +kernel
theorem d_W_167 : decode code 167 = .ok (.iload 4, 2) := by decide +kernel
theorem d_W_169 : decode code 169 = .ok (.iconst 2, 1) := by decide +kernel
theorem d_W_170 : decode code 170 = .ok (.iadd, 1) := by decide +kernel
theorem d_W_171 : decode code 171 = .ok (.iaload, 1) := by decide +kernel
theorem d_W_172 : decode code 172 = .ok (.invokevirtual 81, 3) := by decide +kernel
theorem d_W_175 : decode code 175 = .ok (.lstore 6, 2) := by decide +kernel
theorem d_W_177 : decode code 177 = .ok (.aload_n 2, 1) := by decide +kernel
theorem d_W_178 : decode code 178 = .ok (.invokevirtual 74, 3) := by decide +kernel
theorem d_W_181 : decode code 181 = .ok (.iload 5, 2) := by decide +kernel
theorem d_W_183 : decode code 183 = .ok (.if_icmp .eq 5, 3) := by decide +kernel
theorem d_W_186 : decode code 186 = .ok (.iconst 0, 1) := by decide +kernel
theorem d_W_187 : decode code 187 = .ok (.ireturn, 1) := by decide +kernel
theorem d_W_188 : decode code 188 = .ok (.iload 5, 2) := by decide +kernel
theorem d_W_190 : decode code 190 = .ok (.ifCond .ne 14, 3) := by decide +kernel
theorem d_W_193 : decode code 193 = .ok (.aload_n 3, 1) := by decide +kernel
theorem d_W_194 : decode code 194 = .ok (.iconst 0, 1) := by decide +kernel
theorem d_W_195 : decode code 195 = .ok (.laload, 1) := by decide +kernel
theorem d_W_196 : decode code 196 = .ok (.lload 6, 2) := by decide +kernel
theorem d_W_198 : decode code 198 = .ok (.lcmp, 1) := by decide +kernel
theorem d_W_199 : decode code 199 = .ok (.ifCond .eq 5, 3) := by decide +kernel
theorem d_W_202 : decode code 202 = .ok (.iconst 0, 1) := by decide +kernel
theorem d_W_203 : decode code 203 = .ok (.ireturn, 1) := by decide +kernel
theorem d_W_204 : decode code 204 = .ok (.goto 637, 3) := by decide +kernel
theorem d_W_207 : decode code 207 = .ok (.aload_n 1, 1) := by decide +kernel
theorem d_W_208 : decode code 208 = .ok (.aload_n 0, 1) := by decide +kernel
theorem d_W_209 : decode code 209 = .ok (.iload 4, 2) := by decide +kernel
theorem d_W_211 : decode code 211 = .ok (.iconst 1, 1) := by decide +kernel
theorem d_W_212 : decode code 212 = .ok (.iadd, 1) := by decide +kernel
theorem d_W_213 : decode code 213 = .ok (.iaload, 1) := by decide +kernel
theorem d_W_214 : decode code 214 = .ok (.aload_n 0, 1) := by decide +kernel
theorem d_W_215 : decode code 215 = .ok (.iload 4, 2) := by decide +kernel
theorem d_W_217 : decode code 217 = .ok (.iconst 2, 1) := by decide +kernel
theorem d_W_218 : decode code 218 = .ok (.iadd, 1) := by decide +kernel
theorem d_W_219 : decode code 219 = .ok (.iaload, 1) := by decide +kernel
theorem d_W_220 : decode code 220 = .ok (.aload_n 0, 1) := by decide +kernel
theorem d_W_221 : decode code 221 = .ok (.iload 4, 2) := by decide +kernel
theorem d_W_223 : decode code 223 = .ok (.iconst 3, 1) := by decide +kernel
theorem d_W_224 : decode code 224 = .ok (.iadd, 1) := by decide +kernel
theorem d_W_225 : decode code 225 = .ok (.iaload, 1) := by decide +kernel
theorem d_W_226 : decode code 226 = .ok (.i2l, 1) := by decide +kernel
theorem d_W_227 : decode code 227 = .ok (.bipush 32, 2) := by decide +kernel
theorem d_W_229 : decode code 229 = .ok (.lshl, 1) := by decide +kernel
theorem d_W_230 : decode code 230 = .ok (.aload_n 0, 1) := by decide +kernel
theorem d_W_231 : decode code 231 = .ok (.iload 4, 2) := by decide +kernel
theorem d_W_233 : decode code 233 = .ok (.iconst 4, 1) := by decide +kernel
theorem d_W_234 : decode code 234 = .ok (.iadd, 1) := by decide +kernel
theorem d_W_235 : decode code 235 = .ok (.iaload, 1) := by decide +kernel
theorem d_W_236 : decode code 236 = .ok (.i2l, 1) := by decide +kernel
theorem d_W_237 : decode code 237 = .ok (.ldc2_w 82, 3) := by decide +kernel
theorem d_W_240 : decode code 240 = .ok (.land, 1) := by decide +kernel
theorem d_W_241 : decode code 241 = .ok (.lor, 1) := by decide +kernel
theorem d_W_242 : decode code 242 = .ok (.invokestatic 84, 3) := by decide +kernel
theorem d_W_245 : decode code 245 = .ok (.istore 5, 2) := by decide +kernel
theorem d_W_247 : decode code 247 = .ok (.aload_n 2, 1) := by decide +kernel
theorem d_W_248 : decode code 248 = .ok (.aload_n 0, 1) := by decide +kernel
theorem d_W_249 : decode code 249 = .ok (.iload 4, 2) := by decide +kernel
theorem d_W_251 : decode code 251 = .ok (.iconst 1, 1) := by decide +kernel
theorem d_W_252 : decode code 252 = .ok (.iadd, 1) := by decide +kernel
theorem d_W_253 : decode code 253 = .ok (.iaload, 1) := by decide +kernel
