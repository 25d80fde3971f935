theorem dL_put_161 : decode cL_put 161 = .ok (.iload 6, 2) := by decide +kernel
theorem dL_put_163 : decode cL_put 163 = .ok (.iconst 3, 1) := by decide +kernel
theorem dL_put_164 : decode cL_put 164 = .ok (.idiv, 1) := by decide +kernel
theorem dL_put_165 : decode cL_put 165 = .ok (.bipush 15, 2) := by decide +kernel
theorem dL_put_167 : decode cL_put 167 = .ok (.imul, 1) := by decide +kernel
theorem dL_put_168 : decode cL_put 168 = .ok (.iconst 2, 1) := by decide +kernel
theorem dL_put_169 : decode cL_put 169 = .ok (.iload 7, 2) := by decide +kernel
theorem dL_put_171 : decode cL_put 171 = .ok (.imul, 1) := by decide +kernel
theorem dL_put_172 : decode cL_put 172 = .ok (.iadd, 1) := by decide +kernel
theorem dL_put_173 : decode cL_put 173 = .ok (.ishr, 1) := by decide +kernel
theorem dL_put_174 : decode cL_put 174 = .ok (.iload 4, 2) := by decide +kernel
theorem dL_put_176 : decode cL_put 176 = .ok (.bipush 9, 2) := by decide +kernel
theorem dL_put_178 : decode cL_put 178 = .ok (.ishr, 1) := by decide +kernel
theorem dL_put_179 : decode cL_put 179 = .ok (.iconst 2, 1) := by decide +kernel
theorem dL_put_180 : decode cL_put 180 = .ok (.invokestatic 15, 3) := by decide +kernel
theorem dL_put_183 : decode cL_put 183 = .ok (.ifCond .ne 8, 3) := by decide +kernel
theorem dL_put_186 : decode cL_put 186 = .ok (.bipush 10, 2) := by decide +kernel
theorem dL_put_188 : decode cL_put 188 = .ok (.goto 4, 3) := by decide +kernel
theorem dL_put_191 : decode cL_put 191 = .ok (.iconst 3, 1) := by decide +kernel
theorem dL_put_192 : decode cL_put 192 = .ok (.invokestatic 15, 3) := by decide +kernel
theorem dL_put_195 : decode cL_put 195 = .ok (.istore 8, 2) := by decide +kernel
theorem dL_put_197 : decode cL_put 197 = .ok (.aload_n 3, 1) := by decide +kernel
theorem dL_put_198 : decode cL_put 198 = .ok (.iconst 3, 1) := by decide +kernel
theorem dL_put_199 : decode cL_put 199 = .ok (.aload_n 3, 1) := by decide +kernel
theorem dL_put_200 : decode cL_put 200 = .ok (.iconst 1, 1) := by decide +kernel
theorem dL_put_201 : decode cL_put 201 = .ok (.iaload, 1) := by decide +kernel
theorem dL_put_202 : decode cL_put 202 = .ok (.iload 6, 2) := by decide +kernel
theorem dL_put_204 : decode cL_put 204 = .ok (.imul, 1) := by decide +kernel
theorem dL_put_205 : decode cL_put 205 = .ok (.iadd, 1) := by decide +kernel
theorem dL_put_206 : decode cL_put 206 = .ok (.iload 7, 2) := by decide +kernel
theorem dL_put_208 : decode cL_put 208 = .ok (.iadd, 1) := by decide +kernel
theorem dL_put_209 : decode cL_put 209 = .ok (.iload 8, 2) := by decide +kernel
theorem dL_put_211 : decode cL_put 211 = .ok (.iastore, 1) := by decide +kernel
theorem dL_put_212 : decode cL_put 212 = .ok (.aload_n 0, 1) := by decide +kernel
theorem dL_put_213 : decode cL_put 213 = .ok (.iconst 0, 1) := by decide +kernel
theorem dL_put_214 : decode cL_put 214 = .ok (.iload 5, 2) := by decide +kernel
theorem dL_put_216 : decode cL_put 216 = .ok (.iinc 5 1, 3) := by decide +kernel
theorem dL_put_219 : decode cL_put 219 = .ok (.bipush 48, 2) := by decide +kernel
theorem dL_put_221 : decode cL_put 221 = .ok (.iload 8, 2) := by decide +kernel
theorem dL_put_223 : decode cL_put 223 = .ok (.iadd, 1) := by decide +kernel
theorem dL_put_224 : decode cL_put 224 = .ok (.invokevirtual 25, 3) := by decide +kernel
theorem dL_put_227 : decode cL_put 227 = .ok (.iconst 1, 1) := by decide +kernel
theorem dL_put_228 : decode cL_put 228 = .ok (.if_icmp .eq 6, 3) := by decide +kernel
theorem dL_put_231 : decode cL_put 231 = .ok (.bipush (-99), 2) := by decide +kernel
theorem dL_put_233 : decode cL_put 233 = .ok (.ireturn, 1) := by decide +kernel
theorem dL_put_234 : decode cL_put 234 = .ok (.iinc 7 1, 3) := by decide +kernel
theorem dL_put_237 : decode cL_put 237 = .ok (.goto (-96), 3) := by decide +kernel
theorem dL_put_240 : decode cL_put 240 = .ok (.iinc 6 1, 3) := by decide +kernel
theorem dL_put_243 : decode cL_put 243 = .ok (.goto (-132), 3) := by decide +kernel
theorem dL_put_246 : decode cL_put 246 = .ok (.iload 5, 2) := by decide +kernel
theorem dL_put_248 : decode cL_put 248 = .ok (.ireturn, 1) := by decide +kernel
theorem dL_come_0 : decode cL_come 0 = .ok (.aload 4, 2) := by decide +kernel
theorem dL_come_2 : decode cL_come 2 = .ok (.iconst 0, 1) := by decide +kernel
theorem dL_come_3 : decode cL_come 3 = .ok (.iaload, 1) := by decide +kernel
theorem dL_come_4 : decode cL_come 4 = .ok (.aload 4, 2) := by decide +kernel
theorem dL_come_6 : decode cL_come 6 = .ok (.iconst 1, 1) := by decide +kernel
theorem dL_come_7 : decode cL_come 7 = .ok (.iaload, 1) := by decide +kernel
theorem dL_come_8 : decode cL_come 8 = .ok (.imul, 1) := by decide +kernel
theorem dL_come_9 : decode cL_come 9 = .ok (.istore 5, 2) := by decide +kernel
theorem dL_come_11 : decode cL_come 11 = .ok (.iconst 1, 1) := by decide +kernel
theorem dL_come_12 : decode cL_come 12 = .ok (.aload_n 1, 1) := by decide +kernel
theorem dL_come_13 : decode cL_come 13 = .ok (.iload_n 2, 1) := by decide +kernel
theorem dL_come_14 : decode cL_come 14 = .ok (.invokestatic 9, 3) := by decide +kernel
theorem dL_come_17 : decode cL_come 17 = .ok (.iload_n 3, 1) := by decide +kernel
theorem dL_come_18 : decode cL_come 18 = .ok (.invokestatic 15, 3) := by decide +kernel
theorem dL_come_21 : decode cL_come 21 = .ok (.iadd, 1) := by decide +kernel
theorem dL_come_22 : decode cL_come 22 = .ok (.istore 6, 2) := by decide +kernel
theorem dL_come_24 : decode cL_come 24 = .ok (.iconst 0, 1) := by decide +kernel
theorem dL_come_25 : decode cL_come 25 = .ok (.istore 7, 2) := by decide +kernel
theorem dL_come_27 : decode cL_come 27 = .ok (.iload 7, 2) := by decide +kernel
theorem dL_come_29 : decode cL_come 29 = .ok (.iload 6, 2) := by decide +kernel
theorem dL_come_31 : decode cL_come 31 = .ok (.if_icmp .ge 143, 3) := by decide +kernel
theorem dL_come_34 : decode cL_come 34 = .ok (.aload_n 1, 1) := by decide +kernel
theorem dL_come_35 : decode cL_come 35 = .ok (.iload_n 2, 1) := by decide +kernel
theorem dL_come_36 : decode cL_come 36 = .ok (.iconst 1, 1) := by decide +kernel
theorem dL_come_37 : decode cL_come 37 = .ok (.iadd, 1) := by decide +kernel
theorem dL_come_38 : decode cL_come 38 = .ok (.iload 7, 2) := by decide +kernel
theorem dL_come_40 : decode cL_come 40 = .ok (.iconst 3, 1) := by decide +kernel
theorem dL_come_41 : decode cL_come 41 = .ok (.irem, 1) := by decide +kernel
theorem dL_come_42 : decode cL_come 42 = .ok (.iadd, 1) := by decide +kernel
theorem dL_come_43 : decode cL_come 43 = .ok (.invokestatic 9, 3) := by decide +kernel
theorem dL_come_46 : decode cL_come 46 = .ok (.iload 7, 2) := by decide +kernel
theorem dL_come_48 : decode cL_come 48 = .ok (.iconst 3, 1) := by decide +kernel
theorem dL_come_49 : decode cL_come 49 = .ok (.idiv, 1) := by decide +kernel
theorem dL_come_50 : decode cL_come 50 = .ok (.bipush 15, 2) := by decide +kernel
theorem dL_come_52 : decode cL_come 52 = .ok (.imul, 1) := by decide +kernel
theorem dL_come_53 : decode cL_come 53 = .ok (.ishr, 1) := by decide +kernel
theorem dL_come_54 : decode cL_come 54 = .ok (.istore 8, 2) := by decide +kernel
theorem dL_come_56 : decode cL_come 56 = .ok (.aload 4, 2) := by decide +kernel
theorem dL_come_58 : decode cL_come 58 = .ok (.bipush 42, 2) := by decide +kernel
theorem dL_come_60 : decode cL_come 60 = .ok (.iload 7, 2) := by decide +kernel
theorem dL_come_62 : decode cL_come 62 = .ok (.iadd, 1) := by decide +kernel
theorem dL_come_63 : decode cL_come 63 = .ok (.iload 8, 2) := by decide +kernel
theorem dL_come_65 : decode cL_come 65 = .ok (.iconst 3, 1) := by decide +kernel
theorem dL_come_66 : decode cL_come 66 = .ok (.invokestatic 15, 3) := by decide +kernel
theorem dL_come_69 : decode cL_come 69 = .ok (.iastore, 1) := by decide +kernel
theorem dL_come_70 : decode cL_come 70 = .ok (.aload 4, 2) := by decide +kernel
theorem dL_come_72 : decode cL_come 72 = .ok (.bipush 48, 2) := by decide +kernel
theorem dL_come_74 : decode cL_come 74 = .ok (.iload 7, 2) := by decide +kernel
theorem dL_come_76 : decode cL_come 76 = .ok (.iadd, 1) := by decide +kernel
theorem dL_come_77 : decode cL_come 77 = .ok (.iload 8, 2) := by decide +kernel
theorem dL_come_79 : decode cL_come 79 = .ok (.iconst 2, 1) := by decide +kernel
theorem dL_come_80 : decode cL_come 80 = .ok (.ishr, 1) := by decide +kernel
theorem dL_come_81 : decode cL_come 81 = .ok (.iload 5, 2) := by decide +kernel
theorem dL_come_83 : decode cL_come 83 = .ok (.invokestatic 15, 3) := by decide +kernel
theorem dL_come_86 : decode cL_come 86 = .ok (.iastore, 1) := by decide +kernel
theorem dL_come_87 : decode cL_come 87 = .ok (.aload 4, 2) := by decide +kernel
theorem dL_come_89 : decode cL_come 89 = .ok (.bipush 54, 2) := by decide +kernel
theorem dL_come_91 : decode cL_come 91 = .ok (.iload 7, 2) := by decide +kernel
theorem dL_come_93 : decode cL_come 93 = .ok (.iadd, 1) := by decide +kernel
theorem dL_come_94 : decode cL_come 94 = .ok (.iconst 1, 1) := by decide +kernel
theorem dL_come_95 : decode cL_come 95 = .ok (.iload 8, 2) := by decide +kernel
theorem dL_come_97 : decode cL_come 97 = .ok (.bipush 7, 2) := by decide +kernel
theorem dL_come_99 : decode cL_come 99 = .ok (.ishr, 1) := by decide +kernel
theorem dL_come_100 : decode cL_come 100 = .ok (.iload 8, 2) := by decide +kernel
theorem dL_come_102 : decode cL_come 102 = .ok (.bipush 14, 2) := by decide +kernel
theorem dL_come_104 : decode cL_come 104 = .ok (.ishr, 1) := by decide +kernel
theorem dL_come_105 : decode cL_come 105 = .ok (.iconst 3, 1) := by decide +kernel
theorem dL_come_106 : decode cL_come 106 = .ok (.invokestatic 15, 3) := by decide +kernel
theorem dL_come_109 : decode cL_come 109 = .ok (.ifCond .ne 8, 3) := by decide +kernel
theorem dL_come_112 : decode cL_come 112 = .ok (.bipush 99, 2) := by decide +kernel
theorem dL_come_114 : decode cL_come 114 = .ok (.goto 5, 3) := by decide +kernel
theorem dL_come_117 : decode cL_come 117 = .ok (.bipush 20, 2) := by decide +kernel
theorem dL_come_119 : decode cL_come 119 = .ok (.invokestatic 15, 3) := by decide +kernel
theorem dL_come_122 : decode cL_come 122 = .ok (.iadd, 1) := by decide +kernel
theorem dL_come_123 : decode cL_come 123 = .ok (.iastore, 1) := by decide +kernel
theorem dL_come_124 : decode cL_come 124 = .ok (.aload_n 0, 1) := by decide +kernel
theorem dL_come_125 : decode cL_come 125 = .ok (.aload 4, 2) := by decide +kernel
theorem dL_come_127 : decode cL_come 127 = .ok (.bipush 42, 2) := by decide +kernel
theorem dL_come_129 : decode cL_come 129 = .ok (.iload 7, 2) := by decide +kernel
theorem dL_come_131 : decode cL_come 131 = .ok (.iadd, 1) := by decide +kernel
theorem dL_come_132 : decode cL_come 132 = .ok (.iaload, 1) := by decide +kernel
theorem dL_come_133 : decode cL_come 133 = .ok (.aload 4, 2) := by decide +kernel
theorem dL_come_135 : decode cL_come 135 = .ok (.bipush 48, 2) := by decide +kernel
theorem dL_come_137 : decode cL_come 137 = .ok (.iload 7, 2) := by decide +kernel
theorem dL_come_139 : decode cL_come 139 = .ok (.iadd, 1) := by decide +kernel
theorem dL_come_140 : decode cL_come 140 = .ok (.iaload, 1) := by decide +kernel
theorem dL_come_141 : decode cL_come 141 = .ok (.aload 4, 2) := by decide +kernel
theorem dL_come_143 : decode cL_come 143 = .ok (.bipush 54, 2) := by decide +kernel
theorem dL_come_145 : decode cL_come 145 = .ok (.iload 7, 2) := by decide +kernel
theorem dL_come_147 : decode cL_come 147 = .ok (.iadd, 1) := by decide +kernel
theorem dL_come_148 : decode cL_come 148 = .ok (.iaload, 1) := by decide +kernel
theorem dL_come_149 : decode cL_come 149 = .ok (.invokevirtual 28, 3) := by decide +kernel
theorem dL_come_152 : decode cL_come 152 = .ok (.iload 7, 2) := by decide +kernel
theorem dL_come_154 : decode cL_come 154 = .ok (.if_icmp .eq 5, 3) := by decide +kernel
theorem dL_come_157 : decode cL_come 157 = .ok (.iconst 0, 1) := by decide +kernel
theorem dL_come_158 : decode cL_come 158 = .ok (.ireturn, 1) := by decide +kernel
theorem dL_come_159 : decode cL_come 159 = .ok (.aload 4, 2) := by decide +kernel
theorem dL_come_161 : decode cL_come 161 = .ok (.bipush 41, 2) := by decide +kernel
theorem dL_come_163 : decode cL_come 163 = .ok (.dup2, 1) := by decide +kernel
theorem dL_come_164 : decode cL_come 164 = .ok (.iaload, 1) := by decide +kernel
theorem dL_come_165 : decode cL_come 165 = .ok (.iconst 1, 1) := by decide +kernel
theorem dL_come_166 : decode cL_come 166 = .ok (.iadd, 1) := by decide +kernel
theorem dL_come_167 : decode cL_come 167 = .ok (.iastore, 1) := by decide +kernel
theorem dL_come_168 : decode cL_come 168 = .ok (.iinc 7 1, 3) := by decide +kernel
theorem dL_come_171 : decode cL_come 171 = .ok (.goto (-144), 3) := by decide +kernel
theorem dL_come_174 : decode cL_come 174 = .ok (.iconst 0, 1) := by decide +kernel
theorem dL_come_175 : decode cL_come 175 = .ok (.istore 7, 2) := by decide +kernel
theorem dL_come_177 : decode cL_come 177 = .ok (.iload 7, 2) := by decide +kernel
theorem dL_come_179 : decode cL_come 179 = .ok (.aload_n 1, 1) := by decide +kernel
theorem dL_come_180 : decode cL_come 180 = .ok (.iload_n 2, 1) := by decide +kernel
theorem dL_come_181 : decode cL_come 181 = .ok (.invokestatic 9, 3) := by decide +kernel
theorem dL_come_184 : decode cL_come 184 = .ok (.iconst 3, 1) := by decide +kernel
theorem dL_come_185 : decode cL_come 185 = .ok (.ishr, 1) := by decide +kernel
theorem dL_come_186 : decode cL_come 186 = .ok (.bipush 6, 2) := by decide +kernel
theorem dL_come_188 : decode cL_come 188 = .ok (.invokestatic 15, 3) := by decide +kernel
theorem dL_come_191 : decode cL_come 191 = .ok (.if_icmp .ge 84, 3) := by decide +kernel
theorem dL_come_194 : decode cL_come 194 = .ok (.aload_n 1, 1) := by decide +kernel
theorem dL_come_195 : decode cL_come 195 = .ok (.iload_n 2, 1) := by decide +kernel
theorem dL_come_196 : decode cL_come 196 = .ok (.invokestatic 9, 3) := by decide +kernel
theorem dL_come_199 : decode cL_come 199 = .ok (.bipush 6, 2) := by decide +kernel
theorem dL_come_201 : decode cL_come 201 = .ok (.iconst 4, 1) := by decide +kernel
theorem dL_come_202 : decode cL_come 202 = .ok (.iload 7, 2) := by decide +kernel
theorem dL_come_204 : decode cL_come 204 = .ok (.imul, 1) := by decide +kernel
theorem dL_come_205 : decode cL_come 205 = .ok (.iadd, 1) := by decide +kernel
theorem dL_come_206 : decode cL_come 206 = .ok (.ishr, 1) := by decide +kernel
theorem dL_come_207 : decode cL_come 207 = .ok (.iload 5, 2) := by decide +kernel
theorem dL_come_209 : decode cL_come 209 = .ok (.invokestatic 15, 3) := by decide +kernel
theorem dL_come_212 : decode cL_come 212 = .ok (.istore 8, 2) := by decide +kernel
theorem dL_come_214 : decode cL_come 214 = .ok (.aload 4, 2) := by decide +kernel
theorem dL_come_216 : decode cL_come 216 = .ok (.bipush 40, 2) := by decide +kernel
theorem dL_come_218 : decode cL_come 218 = .ok (.iaload, 1) := by decide +kernel
theorem dL_come_219 : decode cL_come 219 = .ok (.iload 8, 2) := by decide +kernel
theorem dL_come_221 : decode cL_come 221 = .ok (.ishr, 1) := by decide +kernel
theorem dL_come_222 : decode cL_come 222 = .ok (.iconst 1, 1) := by decide +kernel
theorem dL_come_223 : decode cL_come 223 = .ok (.iand, 1) := by decide +kernel
theorem dL_come_224 : decode cL_come 224 = .ok (.iconst 1, 1) := by decide +kernel
theorem dL_come_225 : decode cL_come 225 = .ok (.if_icmp .ne 7, 3) := by decide +kernel
theorem dL_come_228 : decode cL_come 228 = .ok (.iconst 1, 1) := by decide +kernel
theorem dL_come_229 : decode cL_come 229 = .ok (.goto 4, 3) := by decide +kernel
theorem dL_come_232 : decode cL_come 232 = .ok (.iconst 0, 1) := by decide +kernel
theorem dL_come_233 : decode cL_come 233 = .ok (.istore 9, 2) := by decide +kernel
theorem dL_come_235 : decode cL_come 235 = .ok (.aload_n 0, 1) := by decide +kernel
theorem dL_come_236 : decode cL_come 236 = .ok (.iload 8, 2) := by decide +kernel
theorem dL_come_238 : decode cL_come 238 = .ok (.iconst 1, 1) := by decide +kernel
theorem dL_come_239 : decode cL_come 239 = .ok (.invokevirtual 31, 3) := by decide +kernel
theorem dL_come_242 : decode cL_come 242 = .ok (.iload 9, 2) := by decide +kernel
theorem dL_come_244 : decode cL_come 244 = .ok (.ifCond .eq 7, 3) := by decide +kernel
theorem dL_come_247 : decode cL_come 247 = .ok (.iconst 0, 1) := by decide +kernel
theorem dL_come_248 : decode cL_come 248 = .ok (.goto 4, 3) := by decide +kernel
theorem dL_come_251 : decode cL_come 251 = .ok (.iconst 1, 1) := by decide +kernel
theorem dL_come_252 : decode cL_come 252 = .ok (.if_icmp .eq 5, 3) := by decide +kernel
theorem dL_come_255 : decode cL_come 255 = .ok (.iconst 0, 1) := by decide +kernel
theorem dL_come_256 : decode cL_come 256 = .ok (.ireturn, 1) := by decide +kernel
theorem dL_come_257 : decode cL_come 257 = .ok (.aload 4, 2) := by decide +kernel
theorem dL_come_259 : decode cL_come 259 = .ok (.bipush 40, 2) := by decide +kernel
theorem dL_come_261 : decode cL_come 261 = .ok (.dup2, 1) := by decide +kernel
theorem dL_come_262 : decode cL_come 262 = .ok (.iaload, 1) := by decide +kernel
theorem dL_come_263 : decode cL_come 263 = .ok (.iconst 1, 1) := by decide +kernel
theorem dL_come_264 : decode cL_come 264 = .ok (.iload 8, 2) := by decide +kernel
theorem dL_come_266 : decode cL_come 266 = .ok (.ishl, 1) := by decide +kernel
theorem dL_come_267 : decode cL_come 267 = .ok (.ior, 1) := by decide +kernel
theorem dL_come_268 : decode cL_come 268 = .ok (.iastore, 1) := by decide +kernel
theorem dL_come_269 : decode cL_come 269 = .ok (.iinc 7 1, 3) := by decide +kernel
theorem dL_come_272 : decode cL_come 272 = .ok (.goto (-95), 3) := by decide +kernel
theorem dL_come_275 : decode cL_come 275 = .ok (.aload_n 1, 1) := by decide +kernel
theorem dL_come_276 : decode cL_come 276 = .ok (.iload_n 2, 1) := by decide +kernel
theorem dL_come_277 : decode cL_come 277 = .ok (.iconst 4, 1) := by decide +kernel
theorem dL_come_278 : decode cL_come 278 = .ok (.iadd, 1) := by decide +kernel
theorem dL_come_279 : decode cL_come 279 = .ok (.invokestatic 9, 3) := by decide +kernel
theorem dL_come_282 : decode cL_come 282 = .ok (.aload_n 1, 1) := by decide +kernel
theorem dL_come_283 : decode cL_come 283 = .ok (.iload_n 2, 1) := by decide +kernel
theorem dL_come_284 : decode cL_come 284 = .ok (.iconst 4, 1) := by decide +kernel
theorem dL_come_285 : decode cL_come 285 = .ok (.iadd, 1) := by decide +kernel
theorem dL_come_286 : decode cL_come 286 = .ok (.invokestatic 9, 3) := by decide +kernel
theorem dL_come_289 : decode cL_come 289 = .ok (.bipush 8, 2) := by decide +kernel
theorem dL_come_291 : decode cL_come 291 = .ok (.ishr, 1) := by decide +kernel
theorem dL_come_292 : decode cL_come 292 = .ok (.iconst 2, 1) := by decide +kernel
theorem dL_come_293 : decode cL_come 293 = .ok (.invokestatic 15, 3) := by decide +kernel
theorem dL_come_296 : decode cL_come 296 = .ok (.ifCond .ne 8, 3) := by decide +kernel
theorem dL_come_299 : decode cL_come 299 = .ok (.bipush 100, 2) := by decide +kernel
theorem dL_come_301 : decode cL_come 301 = .ok (.goto 5, 3) := by decide +kernel
theorem dL_come_304 : decode cL_come 304 = .ok (.bipush 15, 2) := by decide +kernel
theorem dL_come_306 : decode cL_come 306 = .ok (.invokestatic 15, 3) := by decide +kernel
theorem dL_come_309 : decode cL_come 309 = .ok (.istore 7, 2) := by decide +kernel
theorem dL_come_311 : decode cL_come 311 = .ok (.aload_n 0, 1) := by decide +kernel
theorem dL_come_312 : decode cL_come 312 = .ok (.iload 7, 2) := by decide +kernel
theorem dL_come_314 : decode cL_come 314 = .ok (.invokevirtual 35, 3) := by decide +kernel
theorem dL_come_317 : decode cL_come 317 = .ok (.aload 4, 2) := by decide +kernel
theorem dL_come_319 : decode cL_come 319 = .ok (.iconst 2, 1) := by decide +kernel
theorem dL_come_320 : decode cL_come 320 = .ok (.iaload, 1) := by decide +kernel
theorem dL_come_321 : decode cL_come 321 = .ok (.if_icmp .eq 5, 3) := by decide +kernel
theorem dL_come_324 : decode cL_come 324 = .ok (.iconst 0, 1) := by decide +kernel
theorem dL_come_325 : decode cL_come 325 = .ok (.ireturn, 1) := by decide +kernel
theorem dL_come_326 : decode cL_come 326 = .ok (.aload 4, 2) := by decide +kernel
theorem dL_come_328 : decode cL_come 328 = .ok (.iconst 2, 1) := by decide +kernel
theorem dL_come_329 : decode cL_come 329 = .ok (.iload 7, 2) := by decide +kernel
theorem dL_come_331 : decode cL_come 331 = .ok (.iastore, 1) := by decide +kernel
theorem dL_come_332 : decode cL_come 332 = .ok (.iconst 1, 1) := by decide +kernel
theorem dL_come_333 : decode cL_come 333 = .ok (.ireturn, 1) := by decide +kernel
theorem dL_loud_0 : decode cL_loud 0 = .ok (.iload 4, 2) := by decide +kernel
theorem dL_loud_2 : decode cL_loud 2 = .ok (.aload_n 0, 1) := by decide +kernel
theorem dL_loud_3 : decode cL_loud 3 = .ok (.iconst 1, 1) := by decide +kernel
theorem dL_loud_4 : decode cL_loud 4 = .ok (.iaload, 1) := by decide +kernel
theorem dL_loud_5 : decode cL_loud 5 = .ok (.idiv, 1) := by decide +kernel
theorem dL_loud_6 : decode cL_loud 6 = .ok (.iload_n 2, 1) := by decide +kernel
theorem dL_loud_7 : decode cL_loud 7 = .ok (.aload_n 0, 1) := by decide +kernel
theorem dL_loud_8 : decode cL_loud 8 = .ok (.iconst 1, 1) := by decide +kernel
theorem dL_loud_9 : decode cL_loud 9 = .ok (.iaload, 1) := by decide +kernel
theorem dL_loud_10 : decode cL_loud 10 = .ok (.idiv, 1) := by decide +kernel
theorem dL_loud_11 : decode cL_loud 11 = .ok (.isub, 1) := by decide +kernel
theorem dL_loud_12 : decode cL_loud 12 = .ok (.istore 7, 2) := by decide +kernel
theorem dL_loud_14 : decode cL_loud 14 = .ok (.iload 4, 2) := by decide +kernel
theorem dL_loud_16 : decode cL_loud 16 = .ok (.aload_n 0, 1) := by decide +kernel
theorem dL_loud_17 : decode cL_loud 17 = .ok (.iconst 1, 1) := by decide +kernel
theorem dL_loud_18 : decode cL_loud 18 = .ok (.iaload, 1) := by decide +kernel
theorem dL_loud_19 : decode cL_loud 19 = .ok (.irem, 1) := by decide +kernel
theorem dL_loud_20 : decode cL_loud 20 = .ok (.iload_n 2, 1) := by decide +kernel
theorem dL_loud_21 : decode cL_loud 21 = .ok (.aload_n 0, 1) := by decide +kernel
theorem dL_loud_22 : decode cL_loud 22 = .ok (.iconst 1, 1) := by decide +kernel
theorem dL_loud_23 : decode cL_loud 23 = .ok (.iaload, 1) := by decide +kernel
theorem dL_loud_24 : decode cL_loud 24 = .ok (.irem, 1) := by decide +kernel
theorem dL_loud_25 : decode cL_loud 25 = .ok (.isub, 1) := by decide +kernel
theorem dL_loud_26 : decode cL_loud 26 = .ok (.istore 8, 2) := by decide +kernel
theorem dL_loud_28 : decode cL_loud 28 = .ok (.iload 7, 2) := by decide +kernel
theorem dL_loud_30 : decode cL_loud 30 = .ok (.iload 7, 2) := by decide +kernel
theorem dL_loud_32 : decode cL_loud 32 = .ok (.imul, 1) := by decide +kernel
theorem dL_loud_33 : decode cL_loud 33 = .ok (.iload 8, 2) := by decide +kernel
theorem dL_loud_35 : decode cL_loud 35 = .ok (.iload 8, 2) := by decide +kernel
theorem dL_loud_37 : decode cL_loud 37 = .ok (.imul, 1) := by decide +kernel
theorem dL_loud_38 : decode cL_loud 38 = .ok (.iadd, 1) := by decide +kernel
theorem dL_loud_39 : decode cL_loud 39 = .ok (.istore 9, 2) := by decide +kernel
theorem dL_loud_41 : decode cL_loud 41 = .ok (.aload 6, 2) := by decide +kernel
theorem dL_loud_43 : decode cL_loud 43 = .ok (.iconst 0, 1) := by decide +kernel
theorem dL_loud_44 : decode cL_loud 44 = .ok (.iload_n 1, 1) := by decide +kernel
theorem dL_loud_45 : decode cL_loud 45 = .ok (.ifCond .le 12, 3) := by decide +kernel
theorem dL_loud_48 : decode cL_loud 48 = .ok (.ldc2_w 39, 3) := by decide +kernel
theorem dL_loud_51 : decode cL_loud 51 = .ok (.iload_n 3, 1) := by decide +kernel
theorem dL_loud_52 : decode cL_loud 52 = .ok (.i2l, 1) := by decide +kernel
theorem dL_loud_53 : decode cL_loud 53 = .ok (.lmul, 1) := by decide +kernel
theorem dL_loud_54 : decode cL_loud 54 = .ok (.goto 5, 3) := by decide +kernel
theorem dL_loud_57 : decode cL_loud 57 = .ok (.iload_n 3, 1) := by decide +kernel
theorem dL_loud_58 : decode cL_loud 58 = .ok (.i2l, 1) := by decide +kernel
theorem dL_loud_59 : decode cL_loud 59 = .ok (.lastore, 1) := by decide +kernel
theorem dL_loud_60 : decode cL_loud 60 = .ok (.aload 6, 2) := by decide +kernel
theorem dL_loud_62 : decode cL_loud 62 = .ok (.iconst 1, 1) := by decide +kernel
theorem dL_loud_63 : decode cL_loud 63 = .ok (.iload_n 1, 1) := by decide +kernel
theorem dL_loud_64 : decode cL_loud 64 = .ok (.ifCond .le 11, 3) := by decide +kernel
theorem dL_loud_67 : decode cL_loud 67 = .ok (.iconst 2, 1) := by decide +kernel
theorem dL_loud_68 : decode cL_loud 68 = .ok (.iload 9, 2) := by decide +kernel
theorem dL_loud_70 : decode cL_loud 70 = .ok (.iadd, 1) := by decide +kernel
theorem dL_loud_71 : decode cL_loud 71 = .ok (.i2l, 1) := by decide +kernel
theorem dL_loud_72 : decode cL_loud 72 = .ok (.goto 8, 3) := by decide +kernel
theorem dL_loud_75 : decode cL_loud 75 = .ok (.iconst 1, 1) := by decide +kernel
theorem dL_loud_76 : decode cL_loud 76 = .ok (.iload 9, 2) := by decide +kernel
theorem dL_loud_78 : decode cL_loud 78 = .ok (.iadd, 1) := by decide +kernel
theorem dL_loud_79 : decode cL_loud 79 = .ok (.i2l, 1) := by decide +kernel
theorem dL_loud_80 : decode cL_loud 80 = .ok (.lastore, 1) := by decide +kernel
theorem dL_loud_81 : decode cL_loud 81 = .ok (.iload 7, 2) := by decide +kernel
theorem dL_loud_83 : decode cL_loud 83 = .ok (.ifCond .ge 9, 3) := by decide +kernel
theorem dL_loud_86 : decode cL_loud 86 = .ok (.iload 7, 2) := by decide +kernel
theorem dL_loud_88 : decode cL_loud 88 = .ok (.ineg, 1) := by decide +kernel
theorem dL_loud_89 : decode cL_loud 89 = .ok (.goto 5, 3) := by decide +kernel
theorem dL_loud_92 : decode cL_loud 92 = .ok (.iload 7, 2) := by decide +kernel
theorem dL_loud_94 : decode cL_loud 94 = .ok (.istore 10, 2) := by decide +kernel
theorem dL_loud_96 : decode cL_loud 96 = .ok (.iload 8, 2) := by decide +kernel
theorem dL_loud_98 : decode cL_loud 98 = .ok (.iload 10, 2) := by decide +kernel
theorem dL_loud_100 : decode cL_loud 100 = .ok (.if_icmp .gt 11, 3) := by decide +kernel
theorem dL_loud_103 : decode cL_loud 103 = .ok (.iload 8, 2) := by decide +kernel
theorem dL_loud_105 : decode cL_loud 105 = .ok (.ineg, 1) := by decide +kernel
theorem dL_loud_106 : decode cL_loud 106 = .ok (.iload 10, 2) := by decide +kernel
theorem dL_loud_108 : decode cL_loud 108 = .ok (.if_icmp .le 18, 3) := by decide +kernel
theorem dL_loud_111 : decode cL_loud 111 = .ok (.iload 8, 2) := by decide +kernel
theorem dL_loud_113 : decode cL_loud 113 = .ok (.ifCond .ge 9, 3) := by decide +kernel
theorem dL_loud_116 : decode cL_loud 116 = .ok (.iload 8, 2) := by decide +kernel
theorem dL_loud_118 : decode cL_loud 118 = .ok (.ineg, 1) := by decide +kernel
theorem dL_loud_119 : decode cL_loud 119 = .ok (.goto 5, 3) := by decide +kernel
theorem dL_loud_122 : decode cL_loud 122 = .ok (.iload 8, 2) := by decide +kernel
theorem dL_loud_124 : decode cL_loud 124 = .ok (.istore 10, 2) := by decide +kernel
theorem dL_loud_126 : decode cL_loud 126 = .ok (.iload 10, 2) := by decide +kernel
theorem dL_loud_128 : decode cL_loud 128 = .ok (.iconst 1, 1) := by decide +kernel
theorem dL_loud_129 : decode cL_loud 129 = .ok (.isub, 1) := by decide +kernel
theorem dL_loud_130 : decode cL_loud 130 = .ok (.istore 11, 2) := by decide +kernel
theorem dL_loud_132 : decode cL_loud 132 = .ok (.iload 11, 2) := by decide +kernel
theorem dL_loud_134 : decode cL_loud 134 = .ok (.ifCond .le 173, 3) := by decide +kernel
theorem dL_loud_137 : decode cL_loud 137 = .ok (.iload 7, 2) := by decide +kernel
theorem dL_loud_139 : decode cL_loud 139 = .ok (.ifCond .ge 23, 3) := by decide +kernel
theorem dL_loud_142 : decode cL_loud 142 = .ok (.iconst 2, 1) := by decide +kernel
theorem dL_loud_143 : decode cL_loud 143 = .ok (.iload 11, 2) := by decide +kernel
theorem dL_loud_145 : decode cL_loud 145 = .ok (.imul, 1) := by decide +kernel
theorem dL_loud_146 : decode cL_loud 146 = .ok (.iload 7, 2) := by decide +kernel
theorem dL_loud_148 : decode cL_loud 148 = .ok (.ineg, 1) := by decide +kernel
theorem dL_loud_149 : decode cL_loud 149 = .ok (.imul, 1) := by decide +kernel
theorem dL_loud_150 : decode cL_loud 150 = .ok (.iload 10, 2) := by decide +kernel
theorem dL_loud_152 : decode cL_loud 152 = .ok (.iadd, 1) := by decide +kernel
theorem dL_loud_153 : decode cL_loud 153 = .ok (.iconst 2, 1) := by decide +kernel
theorem dL_loud_154 : decode cL_loud 154 = .ok (.iload 10, 2) := by decide +kernel
theorem dL_loud_156 : decode cL_loud 156 = .ok (.imul, 1) := by decide +kernel
theorem dL_loud_157 : decode cL_loud 157 = .ok (.idiv, 1) := by decide +kernel
theorem dL_loud_158 : decode cL_loud 158 = .ok (.ineg, 1) := by decide +kernel
theorem dL_loud_159 : decode cL_loud 159 = .ok (.goto 18, 3) := by decide +kernel
theorem dL_loud_162 : decode cL_loud 162 = .ok (.iconst 2, 1) := by decide +kernel
theorem dL_loud_163 : decode cL_loud 163 = .ok (.iload 11, 2) := by decide +kernel
theorem dL_loud_165 : decode cL_loud 165 = .ok (.imul, 1) := by decide +kernel
theorem dL_loud_166 : decode cL_loud 166 = .ok (.iload 7, 2) := by decide +kernel
theorem dL_loud_168 : decode cL_loud 168 = .ok (.imul, 1) := by decide +kernel
theorem dL_loud_169 : decode cL_loud 169 = .ok (.iload 10, 2) := by decide +kernel
theorem dL_loud_171 : decode cL_loud 171 = .ok (.iadd, 1) := by decide +kernel
theorem dL_loud_172 : decode cL_loud 172 = .ok (.iconst 2, 1) := by decide +kernel
theorem dL_loud_173 : decode cL_loud 173 = .ok (.iload 10, 2) := by decide +kernel
theorem dL_loud_175 : decode cL_loud 175 = .ok (.imul, 1) := by decide +kernel
theorem dL_loud_176 : decode cL_loud 176 = .ok (.idiv, 1) := by decide +kernel
theorem dL_loud_177 : decode cL_loud 177 = .ok (.istore 12, 2) := by decide +kernel
theorem dL_loud_179 : decode cL_loud 179 = .ok (.iload 8, 2) := by decide +kernel
theorem dL_loud_181 : decode cL_loud 181 = .ok (.ifCond .ge 23, 3) := by decide +kernel
theorem dL_loud_184 : decode cL_loud 184 = .ok (.iconst 2, 1) := by decide +kernel
theorem dL_loud_185 : decode cL_loud 185 = .ok (.iload 11, 2) := by decide +kernel
theorem dL_loud_187 : decode cL_loud 187 = .ok (.imul, 1) := by decide +kernel
theorem dL_loud_188 : decode cL_loud 188 = .ok (.iload 8, 2) := by decide +kernel
theorem dL_loud_190 : decode cL_loud 190 = .ok (.ineg, 1) := by decide +kernel
theorem dL_loud_191 : decode cL_loud 191 = .ok (.imul, 1) := by decide +kernel
theorem dL_loud_192 : decode cL_loud 192 = .ok (.iload 10, 2) := by decide +kernel
theorem dL_loud_194 : decode cL_loud 194 = .ok (.iadd, 1) := by decide +kernel
theorem dL_loud_195 : decode cL_loud 195 = .ok (.iconst 2, 1) := by decide +kernel
theorem dL_loud_196 : decode cL_loud 196 = .ok (.iload 10, 2) := by decide +kernel
theorem dL_loud_198 : decode cL_loud 198 = .ok (.imul, 1) := by decide +kernel
theorem dL_loud_199 : decode cL_loud 199 = .ok (.idiv, 1) := by decide +kernel
theorem dL_loud_200 : decode cL_loud 200 = .ok (.ineg, 1) := by decide +kernel
theorem dL_loud_201 : decode cL_loud 201 = .ok (.goto 18, 3) := by decide +kernel
theorem dL_loud_204 : decode cL_loud 204 = .ok (.iconst 2, 1) := by decide +kernel
theorem dL_loud_205 : decode cL_loud 205 = .ok (.iload 11, 2) := by decide +kernel
theorem dL_loud_207 : decode cL_loud 207 = .ok (.imul, 1) := by decide +kernel
theorem dL_loud_208 : decode cL_loud 208 = .ok (.iload 8, 2) := by decide +kernel
theorem dL_loud_210 : decode cL_loud 210 = .ok (.imul, 1) := by decide +kernel
theorem dL_loud_211 : decode cL_loud 211 = .ok (.iload 10, 2) := by decide +kernel
theorem dL_loud_213 : decode cL_loud 213 = .ok (.iadd, 1) := by decide +kernel
theorem dL_loud_214 : decode cL_loud 214 = .ok (.iconst 2, 1) := by decide +kernel
theorem dL_loud_215 : decode cL_loud 215 = .ok (.iload 10, 2) := by decide +kernel
theorem dL_loud_217 : decode cL_loud 217 = .ok (.imul, 1) := by decide +kernel
theorem dL_loud_218 : decode cL_loud 218 = .ok (.idiv, 1) := by decide +kernel
theorem dL_loud_219 : decode cL_loud 219 = .ok (.istore 13, 2) := by decide +kernel
theorem dL_loud_221 : decode cL_loud 221 = .ok (.iload_n 2, 1) := by decide +kernel
theorem dL_loud_222 : decode cL_loud 222 = .ok (.aload_n 0, 1) := by decide +kernel
theorem dL_loud_223 : decode cL_loud 223 = .ok (.iconst 1, 1) := by decide +kernel
theorem dL_loud_224 : decode cL_loud 224 = .ok (.iaload, 1) := by decide +kernel
theorem dL_loud_225 : decode cL_loud 225 = .ok (.iload 12, 2) := by decide +kernel
theorem dL_loud_227 : decode cL_loud 227 = .ok (.imul, 1) := by decide +kernel
theorem dL_loud_228 : decode cL_loud 228 = .ok (.iadd, 1) := by decide +kernel
theorem dL_loud_229 : decode cL_loud 229 = .ok (.iload 13, 2) := by decide +kernel
theorem dL_loud_231 : decode cL_loud 231 = .ok (.iadd, 1) := by decide +kernel
theorem dL_loud_232 : decode cL_loud 232 = .ok (.istore 14, 2) := by decide +kernel
theorem dL_loud_234 : decode cL_loud 234 = .ok (.iload_n 1, 1) := by decide +kernel
theorem dL_loud_235 : decode cL_loud 235 = .ok (.iconst 2, 1) := by decide +kernel
theorem dL_loud_236 : decode cL_loud 236 = .ok (.if_icmp .ge 42, 3) := by decide +kernel
theorem dL_loud_239 : decode cL_loud 239 = .ok (.aload_n 0, 1) := by decide +kernel
theorem dL_loud_240 : decode cL_loud 240 = .ok (.iconst 3, 1) := by decide +kernel
theorem dL_loud_241 : decode cL_loud 241 = .ok (.iload 14, 2) := by decide +kernel
theorem dL_loud_243 : decode cL_loud 243 = .ok (.iadd, 1) := by decide +kernel
theorem dL_loud_244 : decode cL_loud 244 = .ok (.iaload, 1) := by decide +kernel
theorem dL_loud_245 : decode cL_loud 245 = .ok (.aload_n 0, 1) := by decide +kernel
theorem dL_loud_246 : decode cL_loud 246 = .ok (.iconst 3, 1) := by decide +kernel
theorem dL_loud_247 : decode cL_loud 247 = .ok (.iload_n 2, 1) := by decide +kernel
theorem dL_loud_248 : decode cL_loud 248 = .ok (.iadd, 1) := by decide +kernel
theorem dL_loud_249 : decode cL_loud 249 = .ok (.iaload, 1) := by decide +kernel
theorem dL_loud_250 : decode cL_loud 250 = .ok (.if_icmp .le 28, 3) := by decide +kernel
theorem dL_loud_253 : decode cL_loud 253 = .ok (.aload_n 0, 1) := by decide +kernel
theorem dL_loud_254 : decode cL_loud 254 = .ok (.iconst 3, 1) := by decide +kernel
theorem dL_loud_255 : decode cL_loud 255 = .ok (.iload 14, 2) := by decide +kernel
theorem dL_loud_257 : decode cL_loud 257 = .ok (.iadd, 1) := by decide +kernel
theorem dL_loud_258 : decode cL_loud 258 = .ok (.iaload, 1) := by decide +kernel
theorem dL_loud_259 : decode cL_loud 259 = .ok (.aload_n 0, 1) := by decide +kernel
theorem dL_loud_260 : decode cL_loud 260 = .ok (.iconst 3, 1) := by decide +kernel
theorem dL_loud_261 : decode cL_loud 261 = .ok (.iload 4, 2) := by decide +kernel
theorem dL_loud_263 : decode cL_loud 263 = .ok (.iadd, 1) := by decide +kernel
theorem dL_loud_264 : decode cL_loud 264 = .ok (.iaload, 1) := by decide +kernel
theorem dL_loud_265 : decode cL_loud 265 = .ok (.if_icmp .le 13, 3) := by decide +kernel
theorem dL_loud_268 : decode cL_loud 268 = .ok (.aload 6, 2) := by decide +kernel
theorem dL_loud_270 : decode cL_loud 270 = .ok (.iconst 1, 1) := by decide +kernel
theorem dL_loud_271 : decode cL_loud 271 = .ok (.dup2, 1) := by decide +kernel
theorem dL_loud_272 : decode cL_loud 272 = .ok (.laload, 1) := by decide +kernel
theorem dL_loud_273 : decode cL_loud 273 = .ok (.ldc2_w 39, 3) := by decide +kernel
theorem dL_loud_276 : decode cL_loud 276 = .ok (.lmul, 1) := by decide +kernel
theorem dL_loud_277 : decode cL_loud 277 = .ok (.lastore, 1) := by decide +kernel
theorem dL_loud_278 : decode cL_loud 278 = .ok (.aload_n 0, 1) := by decide +kernel
theorem dL_loud_279 : decode cL_loud 279 = .ok (.bipush 40, 2) := by decide +kernel
theorem dL_loud_281 : decode cL_loud 281 = .ok (.iaload, 1) := by decide +kernel
theorem dL_loud_282 : decode cL_loud 282 = .ok (.iload 14, 2) := by decide +kernel
theorem dL_loud_284 : decode cL_loud 284 = .ok (.ishr, 1) := by decide +kernel
theorem dL_loud_285 : decode cL_loud 285 = .ok (.iconst 1, 1) := by decide +kernel
theorem dL_loud_286 : decode cL_loud 286 = .ok (.iand, 1) := by decide +kernel
theorem dL_loud_287 : decode cL_loud 287 = .ok (.iconst 1, 1) := by decide +kernel
theorem dL_loud_288 : decode cL_loud 288 = .ok (.if_icmp .ne 13, 3) := by decide +kernel
theorem dL_loud_291 : decode cL_loud 291 = .ok (.aload 6, 2) := by decide +kernel
theorem dL_loud_293 : decode cL_loud 293 = .ok (.iconst 1, 1) := by decide +kernel
theorem dL_loud_294 : decode cL_loud 294 = .ok (.dup2, 1) := by decide +kernel
theorem dL_loud_295 : decode cL_loud 295 = .ok (.laload, 1) := by decide +kernel
theorem dL_loud_296 : decode cL_loud 296 = .ok (.ldc2_w 39, 3) := by decide +kernel
theorem dL_loud_299 : decode cL_loud 299 = .ok (.lmul, 1) := by decide +kernel
theorem dL_loud_300 : decode cL_loud 300 = .ok (.lastore, 1) := by decide +kernel
theorem dL_loud_301 : decode cL_loud 301 = .ok (.iinc 11 (-1), 3) := by decide +kernel
theorem dL_loud_304 : decode cL_loud 304 = .ok (.goto (-172), 3) := by decide +kernel
theorem dL_loud_307 : decode cL_loud 307 = .ok (.iload 5, 2) := by decide +kernel
theorem dL_loud_309 : decode cL_loud 309 = .ok (.bipush 10, 2) := by decide +kernel
theorem dL_loud_311 : decode cL_loud 311 = .ok (.idiv, 1) := by decide +kernel
theorem dL_loud_312 : decode cL_loud 312 = .ok (.istore 11, 2) := by decide +kernel
theorem dL_loud_314 : decode cL_loud 314 = .ok (.iload 11, 2) := by decide +kernel
theorem dL_loud_316 : decode cL_loud 316 = .ok (.ifCond .ne 9, 3) := by decide +kernel
theorem dL_loud_319 : decode cL_loud 319 = .ok (.iload 7, 2) := by decide +kernel
theorem dL_loud_321 : decode cL_loud 321 = .ok (.ineg, 1) := by decide +kernel
theorem dL_loud_322 : decode cL_loud 322 = .ok (.goto 28, 3) := by decide +kernel
theorem dL_loud_325 : decode cL_loud 325 = .ok (.iload 11, 2) := by decide +kernel
theorem dL_loud_327 : decode cL_loud 327 = .ok (.iconst 1, 1) := by decide +kernel
theorem dL_loud_328 : decode cL_loud 328 = .ok (.if_icmp .ne 8, 3) := by decide +kernel
theorem dL_loud_331 : decode cL_loud 331 = .ok (.iload 8, 2) := by decide +kernel
theorem dL_loud_333 : decode cL_loud 333 = .ok (.goto 17, 3) := by decide +kernel
theorem dL_loud_336 : decode cL_loud 336 = .ok (.iload 11, 2) := by decide +kernel
theorem dL_loud_338 : decode cL_loud 338 = .ok (.iconst 2, 1) := by decide +kernel
theorem dL_loud_339 : decode cL_loud 339 = .ok (.if_icmp .ne 8, 3) := by decide +kernel
theorem dL_loud_342 : decode cL_loud 342 = .ok (.iload 7, 2) := by decide +kernel
theorem dL_loud_344 : decode cL_loud 344 = .ok (.goto 6, 3) := by decide +kernel
theorem dL_loud_347 : decode cL_loud 347 = .ok (.iload 8, 2) := by decide +kernel
theorem dL_loud_349 : decode cL_loud 349 = .ok (.ineg, 1) := by decide +kernel
theorem dL_loud_350 : decode cL_loud 350 = .ok (.istore 12, 2) := by decide +kernel
theorem dL_loud_352 : decode cL_loud 352 = .ok (.iload 12, 2) := by decide +kernel
theorem dL_loud_354 : decode cL_loud 354 = .ok (.ifCond .ne 4, 3) := by decide +kernel
theorem dL_loud_357 : decode cL_loud 357 = .ok (.return_, 1) := by decide +kernel
theorem dL_loud_358 : decode cL_loud 358 = .ok (.bipush 10, 2) := by decide +kernel
theorem dL_loud_360 : decode cL_loud 360 = .ok (.iload 5, 2) := by decide +kernel
theorem dL_loud_362 : decode cL_loud 362 = .ok (.bipush 10, 2) := by decide +kernel
theorem dL_loud_364 : decode cL_loud 364 = .ok (.irem, 1) := by decide +kernel
theorem dL_loud_365 : decode cL_loud 365 = .ok (.iadd, 1) := by decide +kernel
theorem dL_loud_366 : decode cL_loud 366 = .ok (.istore 13, 2) := by decide +kernel
theorem dL_loud_368 : decode cL_loud 368 = .ok (.aload 6, 2) := by decide +kernel
theorem dL_loud_370 : decode cL_loud 370 = .ok (.iconst 0, 1) := by decide +kernel
theorem dL_loud_371 : decode cL_loud 371 = .ok (.dup2, 1) := by decide +kernel
theorem dL_loud_372 : decode cL_loud 372 = .ok (.laload, 1) := by decide +kernel
theorem dL_loud_373 : decode cL_loud 373 = .ok (.iload 12, 2) := by decide +kernel
theorem dL_loud_375 : decode cL_loud 375 = .ok (.ifCond .le 9, 3) := by decide +kernel
theorem dL_loud_378 : decode cL_loud 378 = .ok (.iload 13, 2) := by decide +kernel
theorem dL_loud_380 : decode cL_loud 380 = .ok (.i2l, 1) := by decide +kernel
theorem dL_loud_381 : decode cL_loud 381 = .ok (.goto 6, 3) := by decide +kernel
theorem dL_loud_384 : decode cL_loud 384 = .ok (.ldc2_w 41, 3) := by decide +kernel
theorem dL_loud_387 : decode cL_loud 387 = .ok (.lmul, 1) := by decide +kernel
theorem dL_loud_388 : decode cL_loud 388 = .ok (.lastore, 1) := by decide +kernel
theorem dL_loud_389 : decode cL_loud 389 = .ok (.aload 6, 2) := by decide +kernel
theorem dL_loud_391 : decode cL_loud 391 = .ok (.iconst 1, 1) := by decide +kernel
theorem dL_loud_392 : decode cL_loud 392 = .ok (.dup2, 1) := by decide +kernel
theorem dL_loud_393 : decode cL_loud 393 = .ok (.laload, 1) := by decide +kernel
theorem dL_loud_394 : decode cL_loud 394 = .ok (.iload 12, 2) := by decide +kernel
theorem dL_loud_396 : decode cL_loud 396 = .ok (.ifCond .le 9, 3) := by decide +kernel
theorem dL_loud_399 : decode cL_loud 399 = .ok (.ldc2_w 41, 3) := by decide +kernel
theorem dL_loud_402 : decode cL_loud 402 = .ok (.goto 6, 3) := by decide +kernel
theorem dL_loud_405 : decode cL_loud 405 = .ok (.iload 13, 2) := by decide +kernel
theorem dL_loud_407 : decode cL_loud 407 = .ok (.i2l, 1) := by decide +kernel
theorem dL_loud_408 : decode cL_loud 408 = .ok (.lmul, 1) := by decide +kernel
theorem dL_loud_409 : decode cL_loud 409 = .ok (.lastore, 1) := by decide +kernel
theorem dL_loud_410 : decode cL_loud 410 = .ok (.return_, 1) := by decide +kernel
theorem dL_hear_0 : decode cL_hear 0 = .ok (.iconst 2, 1) := by decide +kernel
theorem dL_hear_1 : decode cL_hear 1 = .ok (.newarray .long, 2) := by decide +kernel
theorem dL_hear_3 : decode cL_hear 3 = .ok (.astore 4, 2) := by decide +kernel
theorem dL_hear_5 : decode cL_hear 5 = .ok (.iconst 0, 1) := by decide +kernel
theorem dL_hear_6 : decode cL_hear 6 = .ok (.istore 5, 2) := by decide +kernel
theorem dL_hear_8 : decode cL_hear 8 = .ok (.iload 5, 2) := by decide +kernel
theorem dL_hear_10 : decode cL_hear 10 = .ok (.aload_n 0, 1) := by decide +kernel
theorem dL_hear_11 : decode cL_hear 11 = .ok (.bipush 41, 2) := by decide +kernel
theorem dL_hear_13 : decode cL_hear 13 = .ok (.iaload, 1) := by decide +kernel
theorem dL_hear_14 : decode cL_hear 14 = .ok (.if_icmp .ge 57, 3) := by decide +kernel
theorem dL_hear_17 : decode cL_hear 17 = .ok (.aload_n 0, 1) := by decide +kernel
theorem dL_hear_18 : decode cL_hear 18 = .ok (.aload_n 0, 1) := by decide +kernel
theorem dL_hear_19 : decode cL_hear 19 = .ok (.bipush 42, 2) := by decide +kernel
theorem dL_hear_21 : decode cL_hear 21 = .ok (.iload 5, 2) := by decide +kernel
theorem dL_hear_23 : decode cL_hear 23 = .ok (.iadd, 1) := by decide +kernel
theorem dL_hear_24 : decode cL_hear 24 = .ok (.iaload, 1) := by decide +kernel
theorem dL_hear_25 : decode cL_hear 25 = .ok (.aload_n 0, 1) := by decide +kernel
theorem dL_hear_26 : decode cL_hear 26 = .ok (.bipush 48, 2) := by decide +kernel
theorem dL_hear_28 : decode cL_hear 28 = .ok (.iload 5, 2) := by decide +kernel
theorem dL_hear_30 : decode cL_hear 30 = .ok (.iadd, 1) := by decide +kernel
theorem dL_hear_31 : decode cL_hear 31 = .ok (.iaload, 1) := by decide +kernel
theorem dL_hear_32 : decode cL_hear 32 = .ok (.aload_n 0, 1) := by decide +kernel
theorem dL_hear_33 : decode cL_hear 33 = .ok (.bipush 54, 2) := by decide +kernel
theorem dL_hear_35 : decode cL_hear 35 = .ok (.iload 5, 2) := by decide +kernel
theorem dL_hear_37 : decode cL_hear 37 = .ok (.iadd, 1) := by decide +kernel
theorem dL_hear_38 : decode cL_hear 38 = .ok (.iaload, 1) := by decide +kernel
theorem dL_hear_39 : decode cL_hear 39 = .ok (.iload_n 1, 1) := by decide +kernel
theorem dL_hear_40 : decode cL_hear 40 = .ok (.iload_n 2, 1) := by decide +kernel
theorem dL_hear_41 : decode cL_hear 41 = .ok (.aload 4, 2) := by decide +kernel
theorem dL_hear_43 : decode cL_hear 43 = .ok (.invokestatic 43, 3) := by decide +kernel
theorem dL_hear_46 : decode cL_hear 46 = .ok (.aload_n 3, 1) := by decide +kernel
theorem dL_hear_47 : decode cL_hear 47 = .ok (.iload 5, 2) := by decide +kernel
theorem dL_hear_49 : decode cL_hear 49 = .ok (.aload 4, 2) := by decide +kernel
theorem dL_hear_51 : decode cL_hear 51 = .ok (.iconst 0, 1) := by decide +kernel
theorem dL_hear_52 : decode cL_hear 52 = .ok (.laload, 1) := by decide +kernel
theorem dL_hear_53 : decode cL_hear 53 = .ok (.lastore, 1) := by decide +kernel
theorem dL_hear_54 : decode cL_hear 54 = .ok (.aload_n 3, 1) := by decide +kernel
theorem dL_hear_55 : decode cL_hear 55 = .ok (.bipush 8, 2) := by decide +kernel
theorem dL_hear_57 : decode cL_hear 57 = .ok (.iload 5, 2) := by decide +kernel
theorem dL_hear_59 : decode cL_hear 59 = .ok (.iadd, 1) := by decide +kernel
theorem dL_hear_60 : decode cL_hear 60 = .ok (.aload 4, 2) := by decide +kernel
theorem dL_hear_62 : decode cL_hear 62 = .ok (.iconst 1, 1) := by decide +kernel
theorem dL_hear_63 : decode cL_hear 63 = .ok (.laload, 1) := by decide +kernel
theorem dL_hear_64 : decode cL_hear 64 = .ok (.lastore, 1) := by decide +kernel
theorem dL_hear_65 : decode cL_hear 65 = .ok (.iinc 5 1, 3) := by decide +kernel
theorem dL_hear_68 : decode cL_hear 68 = .ok (.goto (-60), 3) := by decide +kernel
theorem dL_hear_71 : decode cL_hear 71 = .ok (.return_, 1) := by decide +kernel
theorem dL_best_0 : decode cL_best 0 = .ok (.iconst 0, 1) := by decide +kernel
theorem dL_best_1 : decode cL_best 1 = .ok (.istore_n 2, 1) := by decide +kernel
theorem dL_best_2 : decode cL_best 2 = .ok (.iconst 0, 1) := by decide +kernel
theorem dL_best_3 : decode cL_best 3 = .ok (.istore_n 3, 1) := by decide +kernel
theorem dL_best_4 : decode cL_best 4 = .ok (.iload_n 3, 1) := by decide +kernel
theorem dL_best_5 : decode cL_best 5 = .ok (.aload_n 0, 1) := by decide +kernel
theorem dL_best_6 : decode cL_best 6 = .ok (.bipush 41, 2) := by decide +kernel
theorem dL_best_8 : decode cL_best 8 = .ok (.iaload, 1) := by decide +kernel
theorem dL_best_9 : decode cL_best 9 = .ok (.if_icmp .ge 109, 3) := by decide +kernel
theorem dL_best_12 : decode cL_best 12 = .ok (.ldc2_w 41, 3) := by decide +kernel
theorem dL_best_15 : decode cL_best 15 = .ok (.aload_n 1, 1) := by decide +kernel
theorem dL_best_16 : decode cL_best 16 = .ok (.iload_n 3, 1) := by decide +kernel
theorem dL_best_17 : decode cL_best 17 = .ok (.laload, 1) := by decide +kernel
theorem dL_best_18 : decode cL_best 18 = .ok (.lmul, 1) := by decide +kernel
theorem dL_best_19 : decode cL_best 19 = .ok (.aload_n 0, 1) := by decide +kernel
theorem dL_best_20 : decode cL_best 20 = .ok (.iconst 2, 1) := by decide +kernel
theorem dL_best_21 : decode cL_best 21 = .ok (.iaload, 1) := by decide +kernel
theorem dL_best_22 : decode cL_best 22 = .ok (.i2l, 1) := by decide +kernel
theorem dL_best_23 : decode cL_best 23 = .ok (.aload_n 1, 1) := by decide +kernel
theorem dL_best_24 : decode cL_best 24 = .ok (.bipush 8, 2) := by decide +kernel
theorem dL_best_26 : decode cL_best 26 = .ok (.iload_n 3, 1) := by decide +kernel
theorem dL_best_27 : decode cL_best 27 = .ok (.iadd, 1) := by decide +kernel
theorem dL_best_28 : decode cL_best 28 = .ok (.laload, 1) := by decide +kernel
theorem dL_best_29 : decode cL_best 29 = .ok (.lmul, 1) := by decide +kernel
theorem dL_best_30 : decode cL_best 30 = .ok (.lcmp, 1) := by decide +kernel
theorem dL_best_31 : decode cL_best 31 = .ok (.ifCond .lt 7, 3) := by decide +kernel
theorem dL_best_34 : decode cL_best 34 = .ok (.iconst 1, 1) := by decide +kernel
theorem dL_best_35 : decode cL_best 35 = .ok (.goto 4, 3) := by decide +kernel
theorem dL_best_38 : decode cL_best 38 = .ok (.iconst 0, 1) := by decide +kernel
theorem dL_best_39 : decode cL_best 39 = .ok (.istore 4, 2) := by decide +kernel
theorem dL_best_41 : decode cL_best 41 = .ok (.iconst 0, 1) := by decide +kernel
theorem dL_best_42 : decode cL_best 42 = .ok (.istore 5, 2) := by decide +kernel
theorem dL_best_44 : decode cL_best 44 = .ok (.iload 5, 2) := by decide +kernel
theorem dL_best_46 : decode cL_best 46 = .ok (.aload_n 0, 1) := by decide +kernel
theorem dL_best_47 : decode cL_best 47 = .ok (.bipush 41, 2) := by decide +kernel
theorem dL_best_49 : decode cL_best 49 = .ok (.iaload, 1) := by decide +kernel
theorem dL_best_50 : decode cL_best 50 = .ok (.if_icmp .ge 47, 3) := by decide +kernel
theorem dL_best_53 : decode cL_best 53 = .ok (.iload 4, 2) := by decide +kernel
theorem dL_best_55 : decode cL_best 55 = .ok (.ifCond .eq 33, 3) := by decide +kernel
theorem dL_best_58 : decode cL_best 58 = .ok (.aload_n 1, 1) := by decide +kernel
theorem dL_best_59 : decode cL_best 59 = .ok (.iload 5, 2) := by decide +kernel
theorem dL_best_61 : decode cL_best 61 = .ok (.laload, 1) := by decide +kernel
theorem dL_best_62 : decode cL_best 62 = .ok (.aload_n 1, 1) := by decide +kernel
theorem dL_best_63 : decode cL_best 63 = .ok (.bipush 8, 2) := by decide +kernel
theorem dL_best_65 : decode cL_best 65 = .ok (.iload_n 3, 1) := by decide +kernel
theorem dL_best_66 : decode cL_best 66 = .ok (.iadd, 1) := by decide +kernel
theorem dL_best_67 : decode cL_best 67 = .ok (.laload, 1) := by decide +kernel
theorem dL_best_68 : decode cL_best 68 = .ok (.lmul, 1) := by decide +kernel
theorem dL_best_69 : decode cL_best 69 = .ok (.aload_n 1, 1) := by decide +kernel
theorem dL_best_70 : decode cL_best 70 = .ok (.iload_n 3, 1) := by decide +kernel
theorem dL_best_71 : decode cL_best 71 = .ok (.laload, 1) := by decide +kernel
theorem dL_best_72 : decode cL_best 72 = .ok (.aload_n 1, 1) := by decide +kernel
theorem dL_best_73 : decode cL_best 73 = .ok (.bipush 8, 2) := by decide +kernel
theorem dL_best_75 : decode cL_best 75 = .ok (.iload 5, 2) := by decide +kernel
theorem dL_best_77 : decode cL_best 77 = .ok (.iadd, 1) := by decide +kernel
theorem dL_best_78 : decode cL_best 78 = .ok (.laload, 1) := by decide +kernel
theorem dL_best_79 : decode cL_best 79 = .ok (.lmul, 1) := by decide +kernel
theorem dL_best_80 : decode cL_best 80 = .ok (.lcmp, 1) := by decide +kernel
theorem dL_best_81 : decode cL_best 81 = .ok (.ifCond .gt 7, 3) := by decide +kernel
theorem dL_best_84 : decode cL_best 84 = .ok (.iconst 1, 1) := by decide +kernel
theorem dL_best_85 : decode cL_best 85 = .ok (.goto 4, 3) := by decide +kernel
theorem dL_best_88 : decode cL_best 88 = .ok (.iconst 0, 1) := by decide +kernel
theorem dL_best_89 : decode cL_best 89 = .ok (.istore 4, 2) := by decide +kernel
theorem dL_best_91 : decode cL_best 91 = .ok (.iinc 5 1, 3) := by decide +kernel
theorem dL_best_94 : decode cL_best 94 = .ok (.goto (-50), 3) := by decide +kernel
theorem dL_best_97 : decode cL_best 97 = .ok (.iload_n 2, 1) := by decide +kernel
theorem dL_best_98 : decode cL_best 98 = .ok (.iload 4, 2) := by decide +kernel
theorem dL_best_100 : decode cL_best 100 = .ok (.ifCond .eq 9, 3) := by decide +kernel
theorem dL_best_103 : decode cL_best 103 = .ok (.iconst 1, 1) := by decide +kernel
theorem dL_best_104 : decode cL_best 104 = .ok (.iload_n 3, 1) := by decide +kernel
theorem dL_best_105 : decode cL_best 105 = .ok (.ishl, 1) := by decide +kernel
theorem dL_best_106 : decode cL_best 106 = .ok (.goto 4, 3) := by decide +kernel
theorem dL_best_109 : decode cL_best 109 = .ok (.iconst 0, 1) := by decide +kernel
theorem dL_best_110 : decode cL_best 110 = .ok (.ior, 1) := by decide +kernel
theorem dL_best_111 : decode cL_best 111 = .ok (.istore_n 2, 1) := by decide +kernel
theorem dL_best_112 : decode cL_best 112 = .ok (.iinc 3 1, 3) := by decide +kernel
theorem dL_best_115 : decode cL_best 115 = .ok (.goto (-111), 3) := by decide +kernel
theorem dL_best_118 : decode cL_best 118 = .ok (.iload_n 2, 1) := by decide +kernel
theorem dL_best_119 : decode cL_best 119 = .ok (.ireturn, 1) := by decide +kernel
theorem dL_whose_0 : decode cL_whose 0 = .ok (.bipush 16, 2) := by decide +kernel
theorem dL_whose_2 : decode cL_whose 2 = .ok (.newarray .long, 2) := by decide +kernel
theorem dL_whose_4 : decode cL_whose 4 = .ok (.astore_n 3, 1) := by decide +kernel
theorem dL_whose_5 : decode cL_whose 5 = .ok (.aload_n 0, 1) := by decide +kernel
theorem dL_whose_6 : decode cL_whose 6 = .ok (.iload_n 1, 1) := by decide +kernel
theorem dL_whose_7 : decode cL_whose 7 = .ok (.iload_n 2, 1) := by decide +kernel
theorem dL_whose_8 : decode cL_whose 8 = .ok (.aload_n 3, 1) := by decide +kernel
theorem dL_whose_9 : decode cL_whose 9 = .ok (.invokestatic 47, 3) := by decide +kernel
theorem dL_whose_12 : decode cL_whose 12 = .ok (.aload_n 0, 1) := by decide +kernel
theorem dL_whose_13 : decode cL_whose 13 = .ok (.aload_n 3, 1) := by decide +kernel
theorem dL_whose_14 : decode cL_whose 14 = .ok (.invokestatic 51, 3) := by decide +kernel
theorem dL_whose_17 : decode cL_whose 17 = .ok (.istore 4, 2) := by decide +kernel
theorem dL_whose_19 : decode cL_whose 19 = .ok (.iload 4, 2) := by decide +kernel
theorem dL_whose_21 : decode cL_whose 21 = .ok (.ifCond .ne 6, 3) := by decide +kernel
theorem dL_whose_24 : decode cL_whose 24 = .ok (.bipush (-6), 2) := by decide +kernel
theorem dL_whose_26 : decode cL_whose 26 = .ok (.ireturn, 1) := by decide +kernel
theorem dL_whose_27 : decode cL_whose 27 = .ok (.iconst 0, 1) := by decide +kernel
theorem dL_whose_28 : decode cL_whose 28 = .ok (.istore 5, 2) := by decide +kernel
theorem dL_whose_30 : decode cL_whose 30 = .ok (.iload 5, 2) := by decide +kernel
theorem dL_whose_32 : decode cL_whose 32 = .ok (.aload_n 0, 1) := by decide +kernel
theorem dL_whose_33 : decode cL_whose 33 = .ok (.bipush 41, 2) := by decide +kernel
theorem dL_whose_35 : decode cL_whose 35 = .ok (.iaload, 1) := by decide +kernel
theorem dL_whose_36 : decode cL_whose 36 = .ok (.if_icmp .ge 21, 3) := by decide +kernel
theorem dL_whose_39 : decode cL_whose 39 = .ok (.iload 4, 2) := by decide +kernel
theorem dL_whose_41 : decode cL_whose 41 = .ok (.iconst 1, 1) := by decide +kernel
theorem dL_whose_42 : decode cL_whose 42 = .ok (.iload 5, 2) := by decide +kernel
theorem dL_whose_44 : decode cL_whose 44 = .ok (.ishl, 1) := by decide +kernel
theorem dL_whose_45 : decode cL_whose 45 = .ok (.if_icmp .ne 6, 3) := by decide +kernel
theorem dL_whose_48 : decode cL_whose 48 = .ok (.iload 5, 2) := by decide +kernel
theorem dL_whose_50 : decode cL_whose 50 = .ok (.ireturn, 1) := by decide +kernel
theorem dL_whose_51 : decode cL_whose 51 = .ok (.iinc 5 1, 3) := by decide +kernel
theorem dL_whose_54 : decode cL_whose 54 = .ok (.goto (-24), 3) := by decide +kernel
theorem dL_whose_57 : decode cL_whose 57 = .ok (.bipush (-5), 2) := by decide +kernel
theorem dL_whose_59 : decode cL_whose 59 = .ok (.ireturn, 1) := by decide +kernel
theorem dL_isAlike_0 : decode cL_isAlike 0 = .ok (.lload_n 0, 1) := by decide +kernel
theorem dL_isAlike_1 : decode cL_isAlike 1 = .ok (.lstore 8, 2) := by decide +kernel
theorem dL_isAlike_3 : decode cL_isAlike 3 = .ok (.lload_n 2, 1) := by decide +kernel
theorem dL_isAlike_4 : decode cL_isAlike 4 = .ok (.lstore 10, 2) := by decide +kernel
theorem dL_isAlike_6 : decode cL_isAlike 6 = .ok (.lload 10, 2) := by decide +kernel
theorem dL_isAlike_8 : decode cL_isAlike 8 = .ok (.lconst 0, 1) := by decide +kernel
theorem dL_isAlike_9 : decode cL_isAlike 9 = .ok (.lcmp, 1) := by decide +kernel
theorem dL_isAlike_10 : decode cL_isAlike 10 = .ok (.ifCond .eq 21, 3) := by decide +kernel
theorem dL_isAlike_13 : decode cL_isAlike 13 = .ok (.lload 8, 2) := by decide +kernel
theorem dL_isAlike_15 : decode cL_isAlike 15 = .ok (.lload 10, 2) := by decide +kernel
theorem dL_isAlike_17 : decode cL_isAlike 17 = .ok (.lrem, 1) := by decide +kernel
theorem dL_isAlike_18 : decode cL_isAlike 18 = .ok (.lstore 12, 2) := by decide +kernel
theorem dL_isAlike_20 : decode cL_isAlike 20 = .ok (.lload 10, 2) := by decide +kernel
theorem dL_isAlike_22 : decode cL_isAlike 22 = .ok (.lstore 8, 2) := by decide +kernel
theorem dL_isAlike_24 : decode cL_isAlike 24 = .ok (.lload 12, 2) := by decide +kernel
theorem dL_isAlike_26 : decode cL_isAlike 26 = .ok (.lstore 10, 2) := by decide +kernel
theorem dL_isAlike_28 : decode cL_isAlike 28 = .ok (.goto (-22), 3) := by decide +kernel
theorem dL_isAlike_31 : decode cL_isAlike 31 = .ok (.lload 8, 2) := by decide +kernel
theorem dL_isAlike_33 : decode cL_isAlike 33 = .ok (.lconst 0, 1) := by decide +kernel
theorem dL_isAlike_34 : decode cL_isAlike 34 = .ok (.lcmp, 1) := by decide +kernel
theorem dL_isAlike_35 : decode cL_isAlike 35 = .ok (.ifCond .le 27, 3) := by decide +kernel
theorem dL_isAlike_38 : decode cL_isAlike 38 = .ok (.lload 4, 2) := by decide +kernel
theorem dL_isAlike_40 : decode cL_isAlike 40 = .ok (.lload_n 0, 1) := by decide +kernel
theorem dL_isAlike_41 : decode cL_isAlike 41 = .ok (.lload 8, 2) := by decide +kernel
theorem dL_isAlike_43 : decode cL_isAlike 43 = .ok (.ldiv, 1) := by decide +kernel
theorem dL_isAlike_44 : decode cL_isAlike 44 = .ok (.lcmp, 1) := by decide +kernel
theorem dL_isAlike_45 : decode cL_isAlike 45 = .ok (.ifCond .ne 17, 3) := by decide +kernel
theorem dL_isAlike_48 : decode cL_isAlike 48 = .ok (.lload 6, 2) := by decide +kernel
theorem dL_isAlike_50 : decode cL_isAlike 50 = .ok (.lload_n 2, 1) := by decide +kernel
theorem dL_isAlike_51 : decode cL_isAlike 51 = .ok (.lload 8, 2) := by decide +kernel
theorem dL_isAlike_53 : decode cL_isAlike 53 = .ok (.ldiv, 1) := by decide +kernel
theorem dL_isAlike_54 : decode cL_isAlike 54 = .ok (.lcmp, 1) := by decide +kernel
theorem dL_isAlike_55 : decode cL_isAlike 55 = .ok (.ifCond .ne 7, 3) := by decide +kernel
theorem dL_isAlike_58 : decode cL_isAlike 58 = .ok (.iconst 1, 1) := by decide +kernel
theorem dL_isAlike_59 : decode cL_isAlike 59 = .ok (.goto 4, 3) := by decide +kernel
theorem dL_isAlike_62 : decode cL_isAlike 62 = .ok (.iconst 0, 1) := by decide +kernel
theorem dL_isAlike_63 : decode cL_isAlike 63 = .ok (.ireturn, 1) := by decide +kernel
theorem dL_law_0 : decode cL_law 0 = .ok (.new 20, 3) := by decide +kernel
theorem dL_law_3 : decode cL_law 3 = .ok (.dup, 1) := by decide +kernel
theorem dL_law_4 : decode cL_law 4 = .ok (.invokespecial 59, 3) := by decide +kernel
theorem dL_law_7 : decode cL_law 7 = .ok (.astore_n 1, 1) := by decide +kernel
theorem dL_law_8 : decode cL_law 8 = .ok (.bipush 60, 2) := by decide +kernel
theorem dL_law_10 : decode cL_law 10 = .ok (.newarray .int, 2) := by decide +kernel
theorem dL_law_12 : decode cL_law 12 = .ok (.astore_n 2, 1) := by decide +kernel
theorem dL_law_13 : decode cL_law 13 = .ok (.aload_n 1, 1) := by decide +kernel
theorem dL_law_14 : decode cL_law 14 = .ok (.aload_n 0, 1) := by decide +kernel
theorem dL_law_15 : decode cL_law 15 = .ok (.iconst 0, 1) := by decide +kernel
theorem dL_law_16 : decode cL_law 16 = .ok (.aload_n 2, 1) := by decide +kernel
theorem dL_law_17 : decode cL_law 17 = .ok (.invokestatic 60, 3) := by decide +kernel
theorem dL_law_20 : decode cL_law 20 = .ok (.istore_n 3, 1) := by decide +kernel
theorem dL_law_21 : decode cL_law 21 = .ok (.aload_n 2, 1) := by decide +kernel
theorem dL_law_22 : decode cL_law 22 = .ok (.iconst 0, 1) := by decide +kernel
theorem dL_law_23 : decode cL_law 23 = .ok (.iaload, 1) := by decide +kernel
theorem dL_law_24 : decode cL_law 24 = .ok (.aload_n 2, 1) := by decide +kernel
theorem dL_law_25 : decode cL_law 25 = .ok (.iconst 1, 1) := by decide +kernel
theorem dL_law_26 : decode cL_law 26 = .ok (.iaload, 1) := by decide +kernel
theorem dL_law_27 : decode cL_law 27 = .ok (.imul, 1) := by decide +kernel
theorem dL_law_28 : decode cL_law 28 = .ok (.istore 4, 2) := by decide +kernel
theorem dL_law_30 : decode cL_law 30 = .ok (.iload_n 3, 1) := by decide +kernel
theorem dL_law_31 : decode cL_law 31 = .ok (.bipush 6, 2) := by decide +kernel
theorem dL_law_33 : decode cL_law 33 = .ok (.if_icmp .lt 28, 3) := by decide +kernel
theorem dL_law_36 : decode cL_law 36 = .ok (.aload_n 1, 1) := by decide +kernel
theorem dL_law_37 : decode cL_law 37 = .ok (.iconst 0, 1) := by decide +kernel
theorem dL_law_38 : decode cL_law 38 = .ok (.iconst 0, 1) := by decide +kernel
theorem dL_law_39 : decode cL_law 39 = .ok (.iconst 0, 1) := by decide +kernel
theorem dL_law_40 : decode cL_law 40 = .ok (.iload_n 3, 1) := by decide +kernel
theorem dL_law_41 : decode cL_law 41 = .ok (.invokevirtual 63, 3) := by decide +kernel
theorem dL_law_44 : decode cL_law 44 = .ok (.iload 4, 2) := by decide +kernel
theorem dL_law_46 : decode cL_law 46 = .ok (.if_icmp .ne 15, 3) := by decide +kernel
theorem dL_law_49 : decode cL_law 49 = .ok (.aload_n 1, 1) := by decide +kernel
theorem dL_law_50 : decode cL_law 50 = .ok (.aload_n 0, 1) := by decide +kernel
theorem dL_law_51 : decode cL_law 51 = .ok (.iconst 4, 1) := by decide +kernel
theorem dL_law_52 : decode cL_law 52 = .ok (.bipush 6, 2) := by decide +kernel
theorem dL_law_54 : decode cL_law 54 = .ok (.aload_n 2, 1) := by decide +kernel
theorem dL_law_55 : decode cL_law 55 = .ok (.invokestatic 67, 3) := by decide +kernel
theorem dL_law_58 : decode cL_law 58 = .ok (.ifCond .ne 5, 3) := by decide +kernel
theorem dL_law_61 : decode cL_law 61 = .ok (.iconst 0, 1) := by decide +kernel
theorem dL_law_62 : decode cL_law 62 = .ok (.ireturn, 1) := by decide +kernel
theorem dL_law_63 : decode cL_law 63 = .ok (.aload_n 2, 1) := by decide +kernel
theorem dL_law_64 : decode cL_law 64 = .ok (.bipush 41, 2) := by decide +kernel
theorem dL_law_66 : decode cL_law 66 = .ok (.iaload, 1) := by decide +kernel
theorem dL_law_67 : decode cL_law 67 = .ok (.istore 5, 2) := by decide +kernel
theorem dL_law_69 : decode cL_law 69 = .ok (.bipush 16, 2) := by decide +kernel
theorem dL_law_71 : decode cL_law 71 = .ok (.newarray .long, 2) := by decide +kernel
theorem dL_law_73 : decode cL_law 73 = .ok (.astore 6, 2) := by decide +kernel
theorem dL_law_75 : decode cL_law 75 = .ok (.iconst 0, 1) := by decide +kernel
theorem dL_law_76 : decode cL_law 76 = .ok (.istore 7, 2) := by decide +kernel
theorem dL_law_78 : decode cL_law 78 = .ok (.iload 7, 2) := by decide +kernel
theorem dL_law_80 : decode cL_law 80 = .ok (.iconst 3, 1) := by decide +kernel
theorem dL_law_81 : decode cL_law 81 = .ok (.if_icmp .ge 422, 3) := by decide +kernel
theorem dL_law_84 : decode cL_law 84 = .ok (.aload_n 0, 1) := by decide +kernel
theorem dL_law_85 : decode cL_law 85 = .ok (.bipush 9, 2) := by decide +kernel
theorem dL_law_87 : decode cL_law 87 = .ok (.iload 7, 2) := by decide +kernel
theorem dL_law_89 : decode cL_law 89 = .ok (.iadd, 1) := by decide +kernel
theorem dL_law_90 : decode cL_law 90 = .ok (.invokestatic 9, 3) := by decide +kernel
theorem dL_law_93 : decode cL_law 93 = .ok (.bipush 40, 2) := by decide +kernel
theorem dL_law_95 : decode cL_law 95 = .ok (.invokestatic 15, 3) := by decide +kernel
theorem dL_law_98 : decode cL_law 98 = .ok (.istore 8, 2) := by decide +kernel
theorem dL_law_100 : decode cL_law 100 = .ok (.bipush 6, 2) := by decide +kernel
theorem dL_law_102 : decode cL_law 102 = .ok (.newarray .int, 2) := by decide +kernel
theorem dL_law_104 : decode cL_law 104 = .ok (.astore 9, 2) := by decide +kernel
theorem dL_law_106 : decode cL_law 106 = .ok (.iconst 0, 1) := by decide +kernel
theorem dL_law_107 : decode cL_law 107 = .ok (.istore 10, 2) := by decide +kernel
theorem dL_law_109 : decode cL_law 109 = .ok (.iload 10, 2) := by decide +kernel
theorem dL_law_111 : decode cL_law 111 = .ok (.iload 4, 2) := by decide +kernel
theorem dL_law_113 : decode cL_law 113 = .ok (.if_icmp .ge 134, 3) := by decide +kernel
theorem dL_law_116 : decode cL_law 116 = .ok (.aload_n 2, 1) := by decide +kernel
theorem dL_law_117 : decode cL_law 117 = .ok (.iload 10, 2) := by decide +kernel
theorem dL_law_119 : decode cL_law 119 = .ok (.iload 8, 2) := by decide +kernel
theorem dL_law_121 : decode cL_law 121 = .ok (.aload 6, 2) := by decide +kernel
theorem dL_law_123 : decode cL_law 123 = .ok (.invokestatic 47, 3) := by decide +kernel
theorem dL_law_126 : decode cL_law 126 = .ok (.aload_n 2, 1) := by decide +kernel
theorem dL_law_127 : decode cL_law 127 = .ok (.aload 6, 2) := by decide +kernel
theorem dL_law_129 : decode cL_law 129 = .ok (.invokestatic 51, 3) := by decide +kernel
theorem dL_law_132 : decode cL_law 132 = .ok (.istore 11, 2) := by decide +kernel
theorem dL_law_134 : decode cL_law 134 = .ok (.iconst 0, 1) := by decide +kernel
theorem dL_law_135 : decode cL_law 135 = .ok (.istore 12, 2) := by decide +kernel
theorem dL_law_137 : decode cL_law 137 = .ok (.iload 12, 2) := by decide +kernel
theorem dL_law_139 : decode cL_law 139 = .ok (.iload 5, 2) := by decide +kernel
theorem dL_law_141 : decode cL_law 141 = .ok (.if_icmp .ge 79, 3) := by decide +kernel
theorem dL_law_144 : decode cL_law 144 = .ok (.aload 6, 2) := by decide +kernel
theorem dL_law_146 : decode cL_law 146 = .ok (.iload 12, 2) := by decide +kernel
theorem dL_law_148 : decode cL_law 148 = .ok (.laload, 1) := by decide +kernel
theorem dL_law_149 : decode cL_law 149 = .ok (.aload 6, 2) := by decide +kernel
theorem dL_law_151 : decode cL_law 151 = .ok (.bipush 8, 2) := by decide +kernel
theorem dL_law_153 : decode cL_law 153 = .ok (.iload 12, 2) := by decide +kernel
theorem dL_law_155 : decode cL_law 155 = .ok (.iadd, 1) := by decide +kernel
theorem dL_law_156 : decode cL_law 156 = .ok (.laload, 1) := by decide +kernel
theorem dL_law_157 : decode cL_law 157 = .ok (.aload_n 1, 1) := by decide +kernel
theorem dL_law_158 : decode cL_law 158 = .ok (.iload 12, 2) := by decide +kernel
theorem dL_law_160 : decode cL_law 160 = .ok (.iload 10, 2) := by decide +kernel
theorem dL_law_162 : decode cL_law 162 = .ok (.iload 8, 2) := by decide +kernel
theorem dL_law_164 : decode cL_law 164 = .ok (.iconst 0, 1) := by decide +kernel
theorem dL_law_165 : decode cL_law 165 = .ok (.invokevirtual 71, 3) := by decide +kernel
theorem dL_law_168 : decode cL_law 168 = .ok (.aload_n 1, 1) := by decide +kernel
theorem dL_law_169 : decode cL_law 169 = .ok (.iload 12, 2) := by decide +kernel
theorem dL_law_171 : decode cL_law 171 = .ok (.iload 10, 2) := by decide +kernel
theorem dL_law_173 : decode cL_law 173 = .ok (.iload 8, 2) := by decide +kernel
theorem dL_law_175 : decode cL_law 175 = .ok (.iconst 1, 1) := by decide +kernel
theorem dL_law_176 : decode cL_law 176 = .ok (.invokevirtual 71, 3) := by decide +kernel
theorem dL_law_179 : decode cL_law 179 = .ok (.invokestatic 74, 3) := by decide +kernel
theorem dL_law_182 : decode cL_law 182 = .ok (.ifCond .ne 5, 3) := by decide +kernel
theorem dL_law_185 : decode cL_law 185 = .ok (.iconst 0, 1) := by decide +kernel
theorem dL_law_186 : decode cL_law 186 = .ok (.ireturn, 1) := by decide +kernel
theorem dL_law_187 : decode cL_law 187 = .ok (.aload 9, 2) := by decide +kernel
theorem dL_law_189 : decode cL_law 189 = .ok (.iload 12, 2) := by decide +kernel
theorem dL_law_191 : decode cL_law 191 = .ok (.dup2, 1) := by decide +kernel
theorem dL_law_192 : decode cL_law 192 = .ok (.iaload, 1) := by decide +kernel
theorem dL_law_193 : decode cL_law 193 = .ok (.iload 11, 2) := by decide +kernel
theorem dL_law_195 : decode cL_law 195 = .ok (.iload 12, 2) := by decide +kernel
theorem dL_law_197 : decode cL_law 197 = .ok (.ishr, 1) := by decide +kernel
theorem dL_law_198 : decode cL_law 198 = .ok (.iconst 1, 1) := by decide +kernel
theorem dL_law_199 : decode cL_law 199 = .ok (.iand, 1) := by decide +kernel
theorem dL_law_200 : decode cL_law 200 = .ok (.iconst 1, 1) := by decide +kernel
theorem dL_law_201 : decode cL_law 201 = .ok (.if_icmp .ne 10, 3) := by decide +kernel
theorem dL_law_204 : decode cL_law 204 = .ok (.iconst 1, 1) := by decide +kernel
theorem dL_law_205 : decode cL_law 205 = .ok (.iload 10, 2) := by decide +kernel
theorem dL_law_207 : decode cL_law 207 = .ok (.ishl, 1) := by decide +kernel
theorem dL_law_208 : decode cL_law 208 = .ok (.goto 4, 3) := by decide +kernel
theorem dL_law_211 : decode cL_law 211 = .ok (.iconst 0, 1) := by decide +kernel
theorem dL_law_212 : decode cL_law 212 = .ok (.ior, 1) := by decide +kernel
theorem dL_law_213 : decode cL_law 213 = .ok (.iastore, 1) := by decide +kernel
theorem dL_law_214 : decode cL_law 214 = .ok (.iinc 12 1, 3) := by decide +kernel
theorem dL_law_217 : decode cL_law 217 = .ok (.goto (-80), 3) := by decide +kernel
theorem dL_law_220 : decode cL_law 220 = .ok (.aload_n 1, 1) := by decide +kernel
theorem dL_law_221 : decode cL_law 221 = .ok (.iload 10, 2) := by decide +kernel
theorem dL_law_223 : decode cL_law 223 = .ok (.iload 8, 2) := by decide +kernel
theorem dL_law_225 : decode cL_law 225 = .ok (.invokevirtual 78, 3) := by decide +kernel
theorem dL_law_228 : decode cL_law 228 = .ok (.aload_n 2, 1) := by decide +kernel
theorem dL_law_229 : decode cL_law 229 = .ok (.iload 10, 2) := by decide +kernel
theorem dL_law_231 : decode cL_law 231 = .ok (.iload 8, 2) := by decide +kernel
theorem dL_law_233 : decode cL_law 233 = .ok (.invokestatic 55, 3) := by decide +kernel
theorem dL_law_236 : decode cL_law 236 = .ok (.if_icmp .eq 5, 3) := by decide +kernel
theorem dL_law_239 : decode cL_law 239 = .ok (.iconst 0, 1) := by decide +kernel
theorem dL_law_240 : decode cL_law 240 = .ok (.ireturn, 1) := by decide +kernel
theorem dL_law_241 : decode cL_law 241 = .ok (.iinc 10 1, 3) := by decide +kernel
theorem dL_law_244 : decode cL_law 244 = .ok (.goto (-135), 3) := by decide +kernel
theorem dL_law_247 : decode cL_law 247 = .ok (.iconst 0, 1) := by decide +kernel
theorem dL_law_248 : decode cL_law 248 = .ok (.istore 10, 2) := by decide +kernel
theorem dL_law_250 : decode cL_law 250 = .ok (.iload 10, 2) := by decide +kernel
theorem dL_law_252 : decode cL_law 252 = .ok (.iload 5, 2) := by decide +kernel
theorem dL_law_254 : decode cL_law 254 = .ok (.if_icmp .ge 27, 3) := by decide +kernel
theorem dL_law_257 : decode cL_law 257 = .ok (.aload_n 1, 1) := by decide +kernel
theorem dL_law_258 : decode cL_law 258 = .ok (.iload 10, 2) := by decide +kernel
theorem dL_law_260 : decode cL_law 260 = .ok (.iload 8, 2) := by decide +kernel
theorem dL_law_262 : decode cL_law 262 = .ok (.invokevirtual 80, 3) := by decide +kernel
theorem dL_law_265 : decode cL_law 265 = .ok (.aload 9, 2) := by decide +kernel
theorem dL_law_267 : decode cL_law 267 = .ok (.iload 10, 2) := by decide +kernel
theorem dL_law_269 : decode cL_law 269 = .ok (.iaload, 1) := by decide +kernel
theorem dL_law_270 : decode cL_law 270 = .ok (.if_icmp .eq 5, 3) := by decide +kernel
theorem dL_law_273 : decode cL_law 273 = .ok (.iconst 0, 1) := by decide +kernel
theorem dL_law_274 : decode cL_law 274 = .ok (.ireturn, 1) := by decide +kernel
theorem dL_law_275 : decode cL_law 275 = .ok (.iinc 10 1, 3) := by decide +kernel
theorem dL_law_278 : decode cL_law 278 = .ok (.goto (-28), 3) := by decide +kernel
theorem dL_law_281 : decode cL_law 281 = .ok (.aload_n 0, 1) := by decide +kernel
theorem dL_law_282 : decode cL_law 282 = .ok (.bipush 9, 2) := by decide +kernel
theorem dL_law_284 : decode cL_law 284 = .ok (.iload 7, 2) := by decide +kernel
theorem dL_law_286 : decode cL_law 286 = .ok (.iadd, 1) := by decide +kernel
theorem dL_law_287 : decode cL_law 287 = .ok (.invokestatic 9, 3) := by decide +kernel
theorem dL_law_290 : decode cL_law 290 = .ok (.bipush 6, 2) := by decide +kernel
theorem dL_law_292 : decode cL_law 292 = .ok (.ishr, 1) := by decide +kernel
theorem dL_law_293 : decode cL_law 293 = .ok (.iload 4, 2) := by decide +kernel
theorem dL_law_295 : decode cL_law 295 = .ok (.invokestatic 15, 3) := by decide +kernel
theorem dL_law_298 : decode cL_law 298 = .ok (.istore 10, 2) := by decide +kernel
theorem dL_law_300 : decode cL_law 300 = .ok (.bipush (-9), 2) := by decide +kernel
theorem dL_law_302 : decode cL_law 302 = .ok (.istore 11, 2) := by decide +kernel
theorem dL_law_304 : decode cL_law 304 = .ok (.bipush (-9), 2) := by decide +kernel
theorem dL_law_306 : decode cL_law 306 = .ok (.istore 12, 2) := by decide +kernel
theorem dL_law_308 : decode cL_law 308 = .ok (.iconst 0, 1) := by decide +kernel
theorem dL_law_309 : decode cL_law 309 = .ok (.istore 13, 2) := by decide +kernel
theorem dL_law_311 : decode cL_law 311 = .ok (.iload 13, 2) := by decide +kernel
theorem dL_law_313 : decode cL_law 313 = .ok (.iload 5, 2) := by decide +kernel
theorem dL_law_315 : decode cL_law 315 = .ok (.if_icmp .ge 152, 3) := by decide +kernel
theorem dL_law_318 : decode cL_law 318 = .ok (.aload_n 2, 1) := by decide +kernel
theorem dL_law_319 : decode cL_law 319 = .ok (.bipush 54, 2) := by decide +kernel
theorem dL_law_321 : decode cL_law 321 = .ok (.iload 13, 2) := by decide +kernel
theorem dL_law_323 : decode cL_law 323 = .ok (.iadd, 1) := by decide +kernel
theorem dL_law_324 : decode cL_law 324 = .ok (.iaload, 1) := by decide +kernel
theorem dL_law_325 : decode cL_law 325 = .ok (.istore 14, 2) := by decide +kernel
theorem dL_law_327 : decode cL_law 327 = .ok (.bipush (-9), 2) := by decide +kernel
theorem dL_law_329 : decode cL_law 329 = .ok (.istore 15, 2) := by decide +kernel
theorem dL_law_331 : decode cL_law 331 = .ok (.bipush 99, 2) := by decide +kernel
theorem dL_law_333 : decode cL_law 333 = .ok (.istore 16, 2) := by decide +kernel
theorem dL_law_335 : decode cL_law 335 = .ok (.iload 16, 2) := by decide +kernel
theorem dL_law_337 : decode cL_law 337 = .ok (.ifCond .le 40, 3) := by decide +kernel
theorem dL_law_340 : decode cL_law 340 = .ok (.aload_n 2, 1) := by decide +kernel
theorem dL_law_341 : decode cL_law 341 = .ok (.bipush 54, 2) := by decide +kernel
theorem dL_law_343 : decode cL_law 343 = .ok (.iload 13, 2) := by decide +kernel
theorem dL_law_345 : decode cL_law 345 = .ok (.iadd, 1) := by decide +kernel
theorem dL_law_346 : decode cL_law 346 = .ok (.iload 16, 2) := by decide +kernel
theorem dL_law_348 : decode cL_law 348 = .ok (.iastore, 1) := by decide +kernel
theorem dL_law_349 : decode cL_law 349 = .ok (.aload_n 2, 1) := by decide +kernel
theorem dL_law_350 : decode cL_law 350 = .ok (.iload 10, 2) := by decide +kernel
theorem dL_law_352 : decode cL_law 352 = .ok (.iload 8, 2) := by decide +kernel
theorem dL_law_354 : decode cL_law 354 = .ok (.invokestatic 55, 3) := by decide +kernel
theorem dL_law_357 : decode cL_law 357 = .ok (.iload 13, 2) := by decide +kernel
theorem dL_law_359 : decode cL_law 359 = .ok (.if_icmp .ne 8, 3) := by decide +kernel
theorem dL_law_362 : decode cL_law 362 = .ok (.iload 16, 2) := by decide +kernel
theorem dL_law_364 : decode cL_law 364 = .ok (.goto 5, 3) := by decide +kernel
theorem dL_law_367 : decode cL_law 367 = .ok (.iload 15, 2) := by decide +kernel
theorem dL_law_369 : decode cL_law 369 = .ok (.istore 15, 2) := by decide +kernel
theorem dL_law_371 : decode cL_law 371 = .ok (.iinc 16 (-1), 3) := by decide +kernel
theorem dL_law_374 : decode cL_law 374 = .ok (.goto (-39), 3) := by decide +kernel
theorem dL_law_377 : decode cL_law 377 = .ok (.aload_n 2, 1) := by decide +kernel
theorem dL_law_378 : decode cL_law 378 = .ok (.bipush 54, 2) := by decide +kernel
theorem dL_law_380 : decode cL_law 380 = .ok (.iload 13, 2) := by decide +kernel
theorem dL_law_382 : decode cL_law 382 = .ok (.iadd, 1) := by decide +kernel
theorem dL_law_383 : decode cL_law 383 = .ok (.iload 14, 2) := by decide +kernel
theorem dL_law_385 : decode cL_law 385 = .ok (.iastore, 1) := by decide +kernel
theorem dL_law_386 : decode cL_law 386 = .ok (.aload_n 1, 1) := by decide +kernel
theorem dL_law_387 : decode cL_law 387 = .ok (.iload 13, 2) := by decide +kernel
theorem dL_law_389 : decode cL_law 389 = .ok (.iload 10, 2) := by decide +kernel
theorem dL_law_391 : decode cL_law 391 = .ok (.iload 8, 2) := by decide +kernel
theorem dL_law_393 : decode cL_law 393 = .ok (.invokevirtual 83, 3) := by decide +kernel
theorem dL_law_396 : decode cL_law 396 = .ok (.iload 15, 2) := by decide +kernel
theorem dL_law_398 : decode cL_law 398 = .ok (.if_icmp .ne 15, 3) := by decide +kernel
theorem dL_law_401 : decode cL_law 401 = .ok (.aload_n 1, 1) := by decide +kernel
theorem dL_law_402 : decode cL_law 402 = .ok (.iload 13, 2) := by decide +kernel
theorem dL_law_404 : decode cL_law 404 = .ok (.iconst 2, 1) := by decide +kernel
theorem dL_law_405 : decode cL_law 405 = .ok (.invokevirtual 86, 3) := by decide +kernel
theorem dL_law_408 : decode cL_law 408 = .ok (.iload 14, 2) := by decide +kernel
theorem dL_law_410 : decode cL_law 410 = .ok (.if_icmp .eq 5, 3) := by decide +kernel
theorem dL_law_413 : decode cL_law 413 = .ok (.iconst 0, 1) := by decide +kernel
theorem dL_law_414 : decode cL_law 414 = .ok (.ireturn, 1) := by decide +kernel
theorem dL_law_415 : decode cL_law 415 = .ok (.iload 15, 2) := by decide +kernel
theorem dL_law_417 : decode cL_law 417 = .ok (.iload 14, 2) := by decide +kernel
theorem dL_law_419 : decode cL_law 419 = .ok (.if_icmp .le 11, 3) := by decide +kernel
theorem dL_law_422 : decode cL_law 422 = .ok (.iload 15, 2) := by decide +kernel
theorem dL_law_424 : decode cL_law 424 = .ok (.iload 14, 2) := by decide +kernel
theorem dL_law_426 : decode cL_law 426 = .ok (.isub, 1) := by decide +kernel
theorem dL_law_427 : decode cL_law 427 = .ok (.goto 4, 3) := by decide +kernel
theorem dL_law_430 : decode cL_law 430 = .ok (.iconst 0, 1) := by decide +kernel
theorem dL_law_431 : decode cL_law 431 = .ok (.istore 16, 2) := by decide +kernel
theorem dL_law_433 : decode cL_law 433 = .ok (.iload 15, 2) := by decide +kernel
theorem dL_law_435 : decode cL_law 435 = .ok (.ifCond .lt 26, 3) := by decide +kernel
theorem dL_law_438 : decode cL_law 438 = .ok (.iload 11, 2) := by decide +kernel
theorem dL_law_440 : decode cL_law 440 = .ok (.ifCond .lt 13, 3) := by decide +kernel
theorem dL_law_443 : decode cL_law 443 = .ok (.iload 16, 2) := by decide +kernel
theorem dL_law_445 : decode cL_law 445 = .ok (.iload 12, 2) := by decide +kernel
theorem dL_law_447 : decode cL_law 447 = .ok (.if_icmp .lt 6, 3) := by decide +kernel
theorem dL_law_450 : decode cL_law 450 = .ok (.goto 11, 3) := by decide +kernel
theorem dL_law_453 : decode cL_law 453 = .ok (.iload 13, 2) := by decide +kernel
theorem dL_law_455 : decode cL_law 455 = .ok (.istore 11, 2) := by decide +kernel
theorem dL_law_457 : decode cL_law 457 = .ok (.iload 16, 2) := by decide +kernel
theorem dL_law_459 : decode cL_law 459 = .ok (.istore 12, 2) := by decide +kernel
theorem dL_law_461 : decode cL_law 461 = .ok (.iinc 13 1, 3) := by decide +kernel
theorem dL_law_464 : decode cL_law 464 = .ok (.goto (-153), 3) := by decide +kernel
theorem dL_law_467 : decode cL_law 467 = .ok (.aload_n 1, 1) := by decide +kernel
theorem dL_law_468 : decode cL_law 468 = .ok (.iload 10, 2) := by decide +kernel
theorem dL_law_470 : decode cL_law 470 = .ok (.iload 8, 2) := by decide +kernel
theorem dL_law_472 : decode cL_law 472 = .ok (.iconst 0, 1) := by decide +kernel
theorem dL_law_473 : decode cL_law 473 = .ok (.invokevirtual 89, 3) := by decide +kernel
theorem dL_law_476 : decode cL_law 476 = .ok (.iload 11, 2) := by decide +kernel
theorem dL_law_478 : decode cL_law 478 = .ok (.if_icmp .ne 17, 3) := by decide +kernel
theorem dL_law_481 : decode cL_law 481 = .ok (.aload_n 1, 1) := by decide +kernel
theorem dL_law_482 : decode cL_law 482 = .ok (.iload 10, 2) := by decide +kernel
theorem dL_law_484 : decode cL_law 484 = .ok (.iload 8, 2) := by decide +kernel
theorem dL_law_486 : decode cL_law 486 = .ok (.iconst 1, 1) := by decide +kernel
theorem dL_law_487 : decode cL_law 487 = .ok (.invokevirtual 89, 3) := by decide +kernel
theorem dL_law_490 : decode cL_law 490 = .ok (.iload 12, 2) := by decide +kernel
theorem dL_law_492 : decode cL_law 492 = .ok (.if_icmp .eq 5, 3) := by decide +kernel
theorem dL_law_495 : decode cL_law 495 = .ok (.iconst 0, 1) := by decide +kernel
theorem dL_law_496 : decode cL_law 496 = .ok (.ireturn, 1) := by decide +kernel
theorem dL_law_497 : decode cL_law 497 = .ok (.iinc 7 1, 3) := by decide +kernel
theorem dL_law_500 : decode cL_law 500 = .ok (.goto (-422), 3) := by decide +kernel
theorem dL_law_503 : decode cL_law 503 = .ok (.aload_n 0, 1) := by decide +kernel
theorem dL_law_504 : decode cL_law 504 = .ok (.bipush 12, 2) := by decide +kernel
theorem dL_law_506 : decode cL_law 506 = .ok (.invokestatic 9, 3) := by decide +kernel
theorem dL_law_509 : decode cL_law 509 = .ok (.iconst 5, 1) := by decide +kernel
theorem dL_law_510 : decode cL_law 510 = .ok (.invokestatic 15, 3) := by decide +kernel
theorem dL_law_513 : decode cL_law 513 = .ok (.istore 7, 2) := by decide +kernel
theorem dL_law_515 : decode cL_law 515 = .ok (.aload_n 1, 1) := by decide +kernel
theorem dL_law_516 : decode cL_law 516 = .ok (.iconst 1, 1) := by decide +kernel
theorem dL_law_517 : decode cL_law 517 = .ok (.iconst 1, 1) := by decide +kernel
theorem dL_law_518 : decode cL_law 518 = .ok (.bipush 6, 2) := by decide +kernel
theorem dL_law_520 : decode cL_law 520 = .ok (.invokevirtual 19, 3) := by decide +kernel
theorem dL_law_523 : decode cL_law 523 = .ok (.iconst 1, 1) := by decide +kernel
theorem dL_law_524 : decode cL_law 524 = .ok (.if_icmp .eq 5, 3) := by decide +kernel
theorem dL_law_527 : decode cL_law 527 = .ok (.iconst 0, 1) := by decide +kernel
theorem dL_law_528 : decode cL_law 528 = .ok (.ireturn, 1) := by decide +kernel
theorem dL_law_529 : decode cL_law 529 = .ok (.bipush 6, 2) := by decide +kernel
theorem dL_law_531 : decode cL_law 531 = .ok (.newarray .long, 2) := by decide +kernel
theorem dL_law_533 : decode cL_law 533 = .ok (.astore 8, 2) := by decide +kernel
theorem dL_law_535 : decode cL_law 535 = .ok (.iconst 0, 1) := by decide +kernel
theorem dL_law_536 : decode cL_law 536 = .ok (.istore 9, 2) := by decide +kernel
theorem dL_law_538 : decode cL_law 538 = .ok (.iload 9, 2) := by decide +kernel
theorem dL_law_540 : decode cL_law 540 = .ok (.iload 7, 2) := by decide +kernel
theorem dL_law_542 : decode cL_law 542 = .ok (.if_icmp .ge 165, 3) := by decide +kernel
theorem dL_law_545 : decode cL_law 545 = .ok (.aload_n 0, 1) := by decide +kernel
theorem dL_law_546 : decode cL_law 546 = .ok (.bipush 13, 2) := by decide +kernel
theorem dL_law_548 : decode cL_law 548 = .ok (.invokestatic 9, 3) := by decide +kernel
theorem dL_law_551 : decode cL_law 551 = .ok (.bipush 6, 2) := by decide +kernel
theorem dL_law_553 : decode cL_law 553 = .ok (.iload 9, 2) := by decide +kernel
theorem dL_law_555 : decode cL_law 555 = .ok (.imul, 1) := by decide +kernel
theorem dL_law_556 : decode cL_law 556 = .ok (.ishr, 1) := by decide +kernel
theorem dL_law_557 : decode cL_law 557 = .ok (.bipush 40, 2) := by decide +kernel
theorem dL_law_559 : decode cL_law 559 = .ok (.invokestatic 15, 3) := by decide +kernel
theorem dL_law_562 : decode cL_law 562 = .ok (.istore 10, 2) := by decide +kernel
theorem dL_law_564 : decode cL_law 564 = .ok (.aload_n 1, 1) := by decide +kernel
theorem dL_law_565 : decode cL_law 565 = .ok (.iconst 1, 1) := by decide +kernel
theorem dL_law_566 : decode cL_law 566 = .ok (.iconst 1, 1) := by decide +kernel
theorem dL_law_567 : decode cL_law 567 = .ok (.iload 9, 2) := by decide +kernel
theorem dL_law_569 : decode cL_law 569 = .ok (.iadd, 1) := by decide +kernel
theorem dL_law_570 : decode cL_law 570 = .ok (.iload 10, 2) := by decide +kernel
theorem dL_law_572 : decode cL_law 572 = .ok (.invokevirtual 25, 3) := by decide +kernel
theorem dL_law_575 : decode cL_law 575 = .ok (.iconst 1, 1) := by decide +kernel
theorem dL_law_576 : decode cL_law 576 = .ok (.if_icmp .eq 5, 3) := by decide +kernel
theorem dL_law_579 : decode cL_law 579 = .ok (.iconst 0, 1) := by decide +kernel
theorem dL_law_580 : decode cL_law 580 = .ok (.ireturn, 1) := by decide +kernel
theorem dL_law_581 : decode cL_law 581 = .ok (.iconst 0, 1) := by decide +kernel
theorem dL_law_582 : decode cL_law 582 = .ok (.istore 11, 2) := by decide +kernel
theorem dL_law_584 : decode cL_law 584 = .ok (.iload 11, 2) := by decide +kernel
theorem dL_law_586 : decode cL_law 586 = .ok (.iload 4, 2) := by decide +kernel
theorem dL_law_588 : decode cL_law 588 = .ok (.if_icmp .ge 113, 3) := by decide +kernel
theorem dL_law_591 : decode cL_law 591 = .ok (.aload_n 2, 1) := by decide +kernel
theorem dL_law_592 : decode cL_law 592 = .ok (.iload 11, 2) := by decide +kernel
theorem dL_law_594 : decode cL_law 594 = .ok (.iload 10, 2) := by decide +kernel
theorem dL_law_596 : decode cL_law 596 = .ok (.aload 6, 2) := by decide +kernel
theorem dL_law_598 : decode cL_law 598 = .ok (.invokestatic 47, 3) := by decide +kernel
theorem dL_law_601 : decode cL_law 601 = .ok (.aload_n 2, 1) := by decide +kernel
theorem dL_law_602 : decode cL_law 602 = .ok (.aload 6, 2) := by decide +kernel
theorem dL_law_604 : decode cL_law 604 = .ok (.invokestatic 51, 3) := by decide +kernel
theorem dL_law_607 : decode cL_law 607 = .ok (.istore 12, 2) := by decide +kernel
theorem dL_law_609 : decode cL_law 609 = .ok (.iconst 0, 1) := by decide +kernel
theorem dL_law_610 : decode cL_law 610 = .ok (.istore 13, 2) := by decide +kernel
theorem dL_law_612 : decode cL_law 612 = .ok (.iconst 0, 1) := by decide +kernel
theorem dL_law_613 : decode cL_law 613 = .ok (.istore 14, 2) := by decide +kernel
theorem dL_law_615 : decode cL_law 615 = .ok (.iload 14, 2) := by decide +kernel
theorem dL_law_617 : decode cL_law 617 = .ok (.iload 5, 2) := by decide +kernel
theorem dL_law_619 : decode cL_law 619 = .ok (.if_icmp .ge 21, 3) := by decide +kernel
theorem dL_law_622 : decode cL_law 622 = .ok (.iload 13, 2) := by decide +kernel
theorem dL_law_624 : decode cL_law 624 = .ok (.iload 12, 2) := by decide +kernel
theorem dL_law_626 : decode cL_law 626 = .ok (.iload 14, 2) := by decide +kernel
theorem dL_law_628 : decode cL_law 628 = .ok (.ishr, 1) := by decide +kernel
theorem dL_law_629 : decode cL_law 629 = .ok (.iconst 1, 1) := by decide +kernel
theorem dL_law_630 : decode cL_law 630 = .ok (.iand, 1) := by decide +kernel
theorem dL_law_631 : decode cL_law 631 = .ok (.iadd, 1) := by decide +kernel
theorem dL_law_632 : decode cL_law 632 = .ok (.istore 13, 2) := by decide +kernel
theorem dL_law_634 : decode cL_law 634 = .ok (.iinc 14 1, 3) := by decide +kernel
theorem dL_law_637 : decode cL_law 637 = .ok (.goto (-22), 3) := by decide +kernel
theorem dL_law_640 : decode cL_law 640 = .ok (.iconst 0, 1) := by decide +kernel
theorem dL_law_641 : decode cL_law 641 = .ok (.istore 14, 2) := by decide +kernel
theorem dL_law_643 : decode cL_law 643 = .ok (.iload 14, 2) := by decide +kernel
theorem dL_law_645 : decode cL_law 645 = .ok (.iload 5, 2) := by decide +kernel
theorem dL_law_647 : decode cL_law 647 = .ok (.if_icmp .ge 48, 3) := by decide +kernel
theorem dL_law_650 : decode cL_law 650 = .ok (.aload 8, 2) := by decide +kernel
theorem dL_law_652 : decode cL_law 652 = .ok (.iload 14, 2) := by decide +kernel
theorem dL_law_654 : decode cL_law 654 = .ok (.dup2, 1) := by decide +kernel
theorem dL_law_655 : decode cL_law 655 = .ok (.laload, 1) := by decide +kernel
theorem dL_law_656 : decode cL_law 656 = .ok (.iload 12, 2) := by decide +kernel
theorem dL_law_658 : decode cL_law 658 = .ok (.iload 14, 2) := by decide +kernel
theorem dL_law_660 : decode cL_law 660 = .ok (.ishr, 1) := by decide +kernel
theorem dL_law_661 : decode cL_law 661 = .ok (.iconst 1, 1) := by decide +kernel
theorem dL_law_662 : decode cL_law 662 = .ok (.iand, 1) := by decide +kernel
theorem dL_law_663 : decode cL_law 663 = .ok (.iconst 1, 1) := by decide +kernel
theorem dL_law_664 : decode cL_law 664 = .ok (.if_icmp .ne 22, 3) := by decide +kernel
theorem dL_law_667 : decode cL_law 667 = .ok (.bipush 10, 2) := by decide +kernel
theorem dL_law_669 : decode cL_law 669 = .ok (.aload_n 2, 1) := by decide +kernel
theorem dL_law_670 : decode cL_law 670 = .ok (.iconst 3, 1) := by decide +kernel
theorem dL_law_671 : decode cL_law 671 = .ok (.iload 11, 2) := by decide +kernel
theorem dL_law_673 : decode cL_law 673 = .ok (.iadd, 1) := by decide +kernel
theorem dL_law_674 : decode cL_law 674 = .ok (.iaload, 1) := by decide +kernel
theorem dL_law_675 : decode cL_law 675 = .ok (.isub, 1) := by decide +kernel
theorem dL_law_676 : decode cL_law 676 = .ok (.bipush 60, 2) := by decide +kernel
theorem dL_law_678 : decode cL_law 678 = .ok (.imul, 1) := by decide +kernel
theorem dL_law_679 : decode cL_law 679 = .ok (.iload 13, 2) := by decide +kernel
theorem dL_law_681 : decode cL_law 681 = .ok (.idiv, 1) := by decide +kernel
theorem dL_law_682 : decode cL_law 682 = .ok (.i2l, 1) := by decide +kernel
theorem dL_law_683 : decode cL_law 683 = .ok (.goto 4, 3) := by decide +kernel
theorem dL_law_686 : decode cL_law 686 = .ok (.lconst 0, 1) := by decide +kernel
theorem dL_law_687 : decode cL_law 687 = .ok (.ladd, 1) := by decide +kernel
theorem dL_law_688 : decode cL_law 688 = .ok (.lastore, 1) := by decide +kernel
theorem dL_law_689 : decode cL_law 689 = .ok (.iinc 14 1, 3) := by decide +kernel
theorem dL_law_692 : decode cL_law 692 = .ok (.goto (-49), 3) := by decide +kernel
theorem dL_law_695 : decode cL_law 695 = .ok (.iinc 11 1, 3) := by decide +kernel
theorem dL_law_698 : decode cL_law 698 = .ok (.goto (-114), 3) := by decide +kernel
theorem dL_law_701 : decode cL_law 701 = .ok (.iinc 9 1, 3) := by decide +kernel
theorem dL_law_704 : decode cL_law 704 = .ok (.goto (-166), 3) := by decide +kernel
theorem dL_law_707 : decode cL_law 707 = .ok (.iconst 0, 1) := by decide +kernel
theorem dL_law_708 : decode cL_law 708 = .ok (.istore 9, 2) := by decide +kernel
theorem dL_law_710 : decode cL_law 710 = .ok (.iload 9, 2) := by decide +kernel
theorem dL_law_712 : decode cL_law 712 = .ok (.iload 5, 2) := by decide +kernel
theorem dL_law_714 : decode cL_law 714 = .ok (.if_icmp .ge 49, 3) := by decide +kernel
theorem dL_law_717 : decode cL_law 717 = .ok (.aload 8, 2) := by decide +kernel
theorem dL_law_719 : decode cL_law 719 = .ok (.iload 9, 2) := by decide +kernel
theorem dL_law_721 : decode cL_law 721 = .ok (.laload, 1) := by decide +kernel
theorem dL_law_722 : decode cL_law 722 = .ok (.ldc2_w 92, 3) := by decide +kernel
theorem dL_law_725 : decode cL_law 725 = .ok (.aload_n 1, 1) := by decide +kernel
theorem dL_law_726 : decode cL_law 726 = .ok (.iload 9, 2) := by decide +kernel
theorem dL_law_728 : decode cL_law 728 = .ok (.iconst 1, 1) := by decide +kernel
theorem dL_law_729 : decode cL_law 729 = .ok (.iconst 1, 1) := by decide +kernel
theorem dL_law_730 : decode cL_law 730 = .ok (.iconst 1, 1) := by decide +kernel
theorem dL_law_731 : decode cL_law 731 = .ok (.iload 7, 2) := by decide +kernel
theorem dL_law_733 : decode cL_law 733 = .ok (.iconst 0, 1) := by decide +kernel
theorem dL_law_734 : decode cL_law 734 = .ok (.invokevirtual 94, 3) := by decide +kernel
theorem dL_law_737 : decode cL_law 737 = .ok (.aload_n 1, 1) := by decide +kernel
theorem dL_law_738 : decode cL_law 738 = .ok (.iload 9, 2) := by decide +kernel
theorem dL_law_740 : decode cL_law 740 = .ok (.iconst 1, 1) := by decide +kernel
theorem dL_law_741 : decode cL_law 741 = .ok (.iconst 1, 1) := by decide +kernel
theorem dL_law_742 : decode cL_law 742 = .ok (.iconst 1, 1) := by decide +kernel
theorem dL_law_743 : decode cL_law 743 = .ok (.iload 7, 2) := by decide +kernel
theorem dL_law_745 : decode cL_law 745 = .ok (.iconst 1, 1) := by decide +kernel
theorem dL_law_746 : decode cL_law 746 = .ok (.invokevirtual 94, 3) := by decide +kernel
theorem dL_law_749 : decode cL_law 749 = .ok (.invokestatic 74, 3) := by decide +kernel
theorem dL_law_752 : decode cL_law 752 = .ok (.ifCond .ne 5, 3) := by decide +kernel
theorem dL_law_755 : decode cL_law 755 = .ok (.iconst 0, 1) := by decide +kernel
theorem dL_law_756 : decode cL_law 756 = .ok (.ireturn, 1) := by decide +kernel
theorem dL_law_757 : decode cL_law 757 = .ok (.iinc 9 1, 3) := by decide +kernel
theorem dL_law_760 : decode cL_law 760 = .ok (.goto (-50), 3) := by decide +kernel
theorem dL_law_763 : decode cL_law 763 = .ok (.aload_n 1, 1) := by decide +kernel
theorem dL_law_764 : decode cL_law 764 = .ok (.iload 5, 2) := by decide +kernel
theorem dL_law_766 : decode cL_law 766 = .ok (.iconst 0, 1) := by decide +kernel
theorem dL_law_767 : decode cL_law 767 = .ok (.iconst 0, 1) := by decide +kernel
theorem dL_law_768 : decode cL_law 768 = .ok (.iconst 0, 1) := by decide +kernel
theorem dL_law_769 : decode cL_law 769 = .ok (.invokevirtual 71, 3) := by decide +kernel
theorem dL_law_772 : decode cL_law 772 = .ok (.ldc2_w 98, 3) := by decide +kernel
theorem dL_law_775 : decode cL_law 775 = .ok (.lcmp, 1) := by decide +kernel
theorem dL_law_776 : decode cL_law 776 = .ok (.ifCond .ne 310, 3) := by decide +kernel
theorem dL_law_779 : decode cL_law 779 = .ok (.aload_n 1, 1) := by decide +kernel
theorem dL_law_780 : decode cL_law 780 = .ok (.iconst 0, 1) := by decide +kernel
theorem dL_law_781 : decode cL_law 781 = .ok (.iload 4, 2) := by decide +kernel
theorem dL_law_783 : decode cL_law 783 = .ok (.iconst 0, 1) := by decide +kernel
theorem dL_law_784 : decode cL_law 784 = .ok (.iconst 0, 1) := by decide +kernel
theorem dL_law_785 : decode cL_law 785 = .ok (.invokevirtual 71, 3) := by decide +kernel
theorem dL_law_788 : decode cL_law 788 = .ok (.ldc2_w 98, 3) := by decide +kernel
theorem dL_law_791 : decode cL_law 791 = .ok (.lcmp, 1) := by decide +kernel
theorem dL_law_792 : decode cL_law 792 = .ok (.ifCond .ne 294, 3) := by decide +kernel
theorem dL_law_795 : decode cL_law 795 = .ok (.aload_n 1, 1) := by decide +kernel
theorem dL_law_796 : decode cL_law 796 = .ok (.iconst 0, 1) := by decide +kernel
theorem dL_law_797 : decode cL_law 797 = .ok (.iconst 0, 1) := by decide +kernel
theorem dL_law_798 : decode cL_law 798 = .ok (.bipush 40, 2) := by decide +kernel
theorem dL_law_800 : decode cL_law 800 = .ok (.iconst 0, 1) := by decide +kernel
theorem dL_law_801 : decode cL_law 801 = .ok (.invokevirtual 71, 3) := by decide +kernel
theorem dL_law_804 : decode cL_law 804 = .ok (.ldc2_w 98, 3) := by decide +kernel
theorem dL_law_807 : decode cL_law 807 = .ok (.lcmp, 1) := by decide +kernel
theorem dL_law_808 : decode cL_law 808 = .ok (.ifCond .ne 278, 3) := by decide +kernel
theorem dL_law_811 : decode cL_law 811 = .ok (.aload_n 1, 1) := by decide +kernel
theorem dL_law_812 : decode cL_law 812 = .ok (.iconst 0, 1) := by decide +kernel
theorem dL_law_813 : decode cL_law 813 = .ok (.iconst 0, 1) := by decide +kernel
theorem dL_law_814 : decode cL_law 814 = .ok (.iconst 0, 1) := by decide +kernel
theorem dL_law_815 : decode cL_law 815 = .ok (.iconst 2, 1) := by decide +kernel
theorem dL_law_816 : decode cL_law 816 = .ok (.invokevirtual 71, 3) := by decide +kernel
theorem dL_law_819 : decode cL_law 819 = .ok (.ldc2_w 98, 3) := by decide +kernel
theorem dL_law_822 : decode cL_law 822 = .ok (.lcmp, 1) := by decide +kernel
theorem dL_law_823 : decode cL_law 823 = .ok (.ifCond .ne 263, 3) := by decide +kernel
theorem dL_law_826 : decode cL_law 826 = .ok (.aload_n 1, 1) := by decide +kernel
theorem dL_law_827 : decode cL_law 827 = .ok (.iload 4, 2) := by decide +kernel
theorem dL_law_829 : decode cL_law 829 = .ok (.iconst 0, 1) := by decide +kernel
theorem dL_law_830 : decode cL_law 830 = .ok (.invokevirtual 78, 3) := by decide +kernel
theorem dL_law_833 : decode cL_law 833 = .ok (.iconst (-1), 1) := by decide +kernel
theorem dL_law_834 : decode cL_law 834 = .ok (.if_icmp .ne 252, 3) := by decide +kernel
theorem dL_law_837 : decode cL_law 837 = .ok (.aload_n 1, 1) := by decide +kernel
theorem dL_law_838 : decode cL_law 838 = .ok (.iconst 0, 1) := by decide +kernel
theorem dL_law_839 : decode cL_law 839 = .ok (.bipush 40, 2) := by decide +kernel
theorem dL_law_841 : decode cL_law 841 = .ok (.invokevirtual 78, 3) := by decide +kernel
theorem dL_law_844 : decode cL_law 844 = .ok (.bipush (-2), 2) := by decide +kernel
theorem dL_law_846 : decode cL_law 846 = .ok (.if_icmp .ne 240, 3) := by decide +kernel
theorem dL_law_849 : decode cL_law 849 = .ok (.aload_n 1, 1) := by decide +kernel
theorem dL_law_850 : decode cL_law 850 = .ok (.iload 5, 2) := by decide +kernel
theorem dL_law_852 : decode cL_law 852 = .ok (.iconst 0, 1) := by decide +kernel
theorem dL_law_853 : decode cL_law 853 = .ok (.invokevirtual 80, 3) := by decide +kernel
theorem dL_law_856 : decode cL_law 856 = .ok (.iconst (-1), 1) := by decide +kernel
theorem dL_law_857 : decode cL_law 857 = .ok (.if_icmp .ne 229, 3) := by decide +kernel
theorem dL_law_860 : decode cL_law 860 = .ok (.aload_n 1, 1) := by decide +kernel
theorem dL_law_861 : decode cL_law 861 = .ok (.iconst 0, 1) := by decide +kernel
theorem dL_law_862 : decode cL_law 862 = .ok (.iconst (-1), 1) := by decide +kernel
theorem dL_law_863 : decode cL_law 863 = .ok (.invokevirtual 80, 3) := by decide +kernel
theorem dL_law_866 : decode cL_law 866 = .ok (.bipush (-2), 2) := by decide +kernel
theorem dL_law_868 : decode cL_law 868 = .ok (.if_icmp .ne 218, 3) := by decide +kernel
theorem dL_law_871 : decode cL_law 871 = .ok (.aload_n 1, 1) := by decide +kernel
theorem dL_law_872 : decode cL_law 872 = .ok (.iload 5, 2) := by decide +kernel
theorem dL_law_874 : decode cL_law 874 = .ok (.iconst 0, 1) := by decide +kernel
theorem dL_law_875 : decode cL_law 875 = .ok (.iconst 0, 1) := by decide +kernel
theorem dL_law_876 : decode cL_law 876 = .ok (.invokevirtual 83, 3) := by decide +kernel
theorem dL_law_879 : decode cL_law 879 = .ok (.iconst (-1), 1) := by decide +kernel
theorem dL_law_880 : decode cL_law 880 = .ok (.if_icmp .ne 206, 3) := by decide +kernel
theorem dL_law_883 : decode cL_law 883 = .ok (.aload_n 1, 1) := by decide +kernel
theorem dL_law_884 : decode cL_law 884 = .ok (.iconst 0, 1) := by decide +kernel
theorem dL_law_885 : decode cL_law 885 = .ok (.iload 4, 2) := by decide +kernel
theorem dL_law_887 : decode cL_law 887 = .ok (.iconst 0, 1) := by decide +kernel
theorem dL_law_888 : decode cL_law 888 = .ok (.invokevirtual 83, 3) := by decide +kernel
theorem dL_law_891 : decode cL_law 891 = .ok (.iconst (-1), 1) := by decide +kernel
theorem dL_law_892 : decode cL_law 892 = .ok (.if_icmp .ne 194, 3) := by decide +kernel
theorem dL_law_895 : decode cL_law 895 = .ok (.aload_n 1, 1) := by decide +kernel
theorem dL_law_896 : decode cL_law 896 = .ok (.iconst 0, 1) := by decide +kernel
theorem dL_law_897 : decode cL_law 897 = .ok (.iconst 0, 1) := by decide +kernel
theorem dL_law_898 : decode cL_law 898 = .ok (.bipush 40, 2) := by decide +kernel
theorem dL_law_900 : decode cL_law 900 = .ok (.invokevirtual 83, 3) := by decide +kernel
theorem dL_law_903 : decode cL_law 903 = .ok (.bipush (-2), 2) := by decide +kernel
theorem dL_law_905 : decode cL_law 905 = .ok (.if_icmp .ne 181, 3) := by decide +kernel
theorem dL_law_908 : decode cL_law 908 = .ok (.aload_n 1, 1) := by decide +kernel
theorem dL_law_909 : decode cL_law 909 = .ok (.iload 4, 2) := by decide +kernel
theorem dL_law_911 : decode cL_law 911 = .ok (.iconst 0, 1) := by decide +kernel
theorem dL_law_912 : decode cL_law 912 = .ok (.iconst 0, 1) := by decide +kernel
theorem dL_law_913 : decode cL_law 913 = .ok (.invokevirtual 89, 3) := by decide +kernel
theorem dL_law_916 : decode cL_law 916 = .ok (.iconst (-1), 1) := by decide +kernel
theorem dL_law_917 : decode cL_law 917 = .ok (.if_icmp .ne 169, 3) := by decide +kernel
theorem dL_law_920 : decode cL_law 920 = .ok (.aload_n 1, 1) := by decide +kernel
theorem dL_law_921 : decode cL_law 921 = .ok (.iconst 0, 1) := by decide +kernel
theorem dL_law_922 : decode cL_law 922 = .ok (.bipush 40, 2) := by decide +kernel
theorem dL_law_924 : decode cL_law 924 = .ok (.iconst 0, 1) := by decide +kernel
theorem dL_law_925 : decode cL_law 925 = .ok (.invokevirtual 89, 3) := by decide +kernel
theorem dL_law_928 : decode cL_law 928 = .ok (.bipush (-2), 2) := by decide +kernel
theorem dL_law_930 : decode cL_law 930 = .ok (.if_icmp .ne 156, 3) := by decide +kernel
theorem dL_law_933 : decode cL_law 933 = .ok (.aload_n 1, 1) := by decide +kernel
theorem dL_law_934 : decode cL_law 934 = .ok (.iconst 0, 1) := by decide +kernel
theorem dL_law_935 : decode cL_law 935 = .ok (.iconst 0, 1) := by decide +kernel
theorem dL_law_936 : decode cL_law 936 = .ok (.iconst 2, 1) := by decide +kernel
theorem dL_law_937 : decode cL_law 937 = .ok (.invokevirtual 89, 3) := by decide +kernel
theorem dL_law_940 : decode cL_law 940 = .ok (.bipush (-2), 2) := by decide +kernel
theorem dL_law_942 : decode cL_law 942 = .ok (.if_icmp .ne 144, 3) := by decide +kernel
theorem dL_law_945 : decode cL_law 945 = .ok (.aload_n 1, 1) := by decide +kernel
theorem dL_law_946 : decode cL_law 946 = .ok (.iconst 1, 1) := by decide +kernel
theorem dL_law_947 : decode cL_law 947 = .ok (.iconst 0, 1) := by decide +kernel
theorem dL_law_948 : decode cL_law 948 = .ok (.bipush 40, 2) := by decide +kernel
theorem dL_law_950 : decode cL_law 950 = .ok (.invokevirtual 25, 3) := by decide +kernel
theorem dL_law_953 : decode cL_law 953 = .ok (.iconst 1, 1) := by decide +kernel
theorem dL_law_954 : decode cL_law 954 = .ok (.if_icmp .ne 132, 3) := by decide +kernel
theorem dL_law_957 : decode cL_law 957 = .ok (.aload_n 1, 1) := by decide +kernel
theorem dL_law_958 : decode cL_law 958 = .ok (.iconst 0, 1) := by decide +kernel
theorem dL_law_959 : decode cL_law 959 = .ok (.iconst 1, 1) := by decide +kernel
theorem dL_law_960 : decode cL_law 960 = .ok (.iconst 1, 1) := by decide +kernel
theorem dL_law_961 : decode cL_law 961 = .ok (.iconst 0, 1) := by decide +kernel
theorem dL_law_962 : decode cL_law 962 = .ok (.iconst 1, 1) := by decide +kernel
theorem dL_law_963 : decode cL_law 963 = .ok (.iconst 0, 1) := by decide +kernel
theorem dL_law_964 : decode cL_law 964 = .ok (.invokevirtual 94, 3) := by decide +kernel
theorem dL_law_967 : decode cL_law 967 = .ok (.ldc2_w 98, 3) := by decide +kernel
theorem dL_law_970 : decode cL_law 970 = .ok (.lcmp, 1) := by decide +kernel
theorem dL_law_971 : decode cL_law 971 = .ok (.ifCond .ne 115, 3) := by decide +kernel
theorem dL_law_974 : decode cL_law 974 = .ok (.aload_n 1, 1) := by decide +kernel
theorem dL_law_975 : decode cL_law 975 = .ok (.invokevirtual 100, 3) := by decide +kernel
theorem dL_law_978 : decode cL_law 978 = .ok (.ifCond .ne 108, 3) := by decide +kernel
theorem dL_law_981 : decode cL_law 981 = .ok (.aload_n 1, 1) := by decide +kernel
theorem dL_law_982 : decode cL_law 982 = .ok (.iconst 0, 1) := by decide +kernel
theorem dL_law_983 : decode cL_law 983 = .ok (.iconst 1, 1) := by decide +kernel
theorem dL_law_984 : decode cL_law 984 = .ok (.iconst 1, 1) := by decide +kernel
theorem dL_law_985 : decode cL_law 985 = .ok (.iconst 0, 1) := by decide +kernel
theorem dL_law_986 : decode cL_law 986 = .ok (.bipush 7, 2) := by decide +kernel
theorem dL_law_988 : decode cL_law 988 = .ok (.iconst 0, 1) := by decide +kernel
theorem dL_law_989 : decode cL_law 989 = .ok (.invokevirtual 94, 3) := by decide +kernel
theorem dL_law_992 : decode cL_law 992 = .ok (.ldc2_w 98, 3) := by decide +kernel
theorem dL_law_995 : decode cL_law 995 = .ok (.lcmp, 1) := by decide +kernel
theorem dL_law_996 : decode cL_law 996 = .ok (.ifCond .ne 90, 3) := by decide +kernel
theorem dL_law_999 : decode cL_law 999 = .ok (.aload_n 1, 1) := by decide +kernel
theorem dL_law_1000 : decode cL_law 1000 = .ok (.invokevirtual 100, 3) := by decide +kernel
theorem dL_law_1003 : decode cL_law 1003 = .ok (.iconst 3, 1) := by decide +kernel
theorem dL_law_1004 : decode cL_law 1004 = .ok (.if_icmp .ne 82, 3) := by decide +kernel
theorem dL_law_1007 : decode cL_law 1007 = .ok (.aload_n 1, 1) := by decide +kernel
theorem dL_law_1008 : decode cL_law 1008 = .ok (.iconst 0, 1) := by decide +kernel
theorem dL_law_1009 : decode cL_law 1009 = .ok (.iconst 1, 1) := by decide +kernel
theorem dL_law_1010 : decode cL_law 1010 = .ok (.iconst 2, 1) := by decide +kernel
theorem dL_law_1011 : decode cL_law 1011 = .ok (.iconst 0, 1) := by decide +kernel
theorem dL_law_1012 : decode cL_law 1012 = .ok (.iconst 1, 1) := by decide +kernel
theorem dL_law_1013 : decode cL_law 1013 = .ok (.iconst 0, 1) := by decide +kernel
theorem dL_law_1014 : decode cL_law 1014 = .ok (.invokevirtual 94, 3) := by decide +kernel
theorem dL_law_1017 : decode cL_law 1017 = .ok (.ldc2_w 98, 3) := by decide +kernel
theorem dL_law_1020 : decode cL_law 1020 = .ok (.lcmp, 1) := by decide +kernel
theorem dL_law_1021 : decode cL_law 1021 = .ok (.ifCond .ne 65, 3) := by decide +kernel
theorem dL_law_1024 : decode cL_law 1024 = .ok (.aload_n 1, 1) := by decide +kernel
theorem dL_law_1025 : decode cL_law 1025 = .ok (.invokevirtual 100, 3) := by decide +kernel
theorem dL_law_1028 : decode cL_law 1028 = .ok (.iconst 2, 1) := by decide +kernel
theorem dL_law_1029 : decode cL_law 1029 = .ok (.if_icmp .ne 57, 3) := by decide +kernel
theorem dL_law_1032 : decode cL_law 1032 = .ok (.aload_n 1, 1) := by decide +kernel
theorem dL_law_1033 : decode cL_law 1033 = .ok (.iconst 0, 1) := by decide +kernel
theorem dL_law_1034 : decode cL_law 1034 = .ok (.iconst 1, 1) := by decide +kernel
theorem dL_law_1035 : decode cL_law 1035 = .ok (.iconst 1, 1) := by decide +kernel
theorem dL_law_1036 : decode cL_law 1036 = .ok (.iconst 0, 1) := by decide +kernel
theorem dL_law_1037 : decode cL_law 1037 = .ok (.iconst (-1), 1) := by decide +kernel
theorem dL_law_1038 : decode cL_law 1038 = .ok (.iconst 0, 1) := by decide +kernel
theorem dL_law_1039 : decode cL_law 1039 = .ok (.invokevirtual 94, 3) := by decide +kernel
theorem dL_law_1042 : decode cL_law 1042 = .ok (.ldc2_w 98, 3) := by decide +kernel
theorem dL_law_1045 : decode cL_law 1045 = .ok (.lcmp, 1) := by decide +kernel
theorem dL_law_1046 : decode cL_law 1046 = .ok (.ifCond .ne 40, 3) := by decide +kernel
theorem dL_law_1049 : decode cL_law 1049 = .ok (.aload_n 1, 1) := by decide +kernel
theorem dL_law_1050 : decode cL_law 1050 = .ok (.invokevirtual 100, 3) := by decide +kernel
theorem dL_law_1053 : decode cL_law 1053 = .ok (.iconst 4, 1) := by decide +kernel
theorem dL_law_1054 : decode cL_law 1054 = .ok (.if_icmp .ne 32, 3) := by decide +kernel
theorem dL_law_1057 : decode cL_law 1057 = .ok (.aload_n 1, 1) := by decide +kernel
theorem dL_law_1058 : decode cL_law 1058 = .ok (.iload 5, 2) := by decide +kernel
theorem dL_law_1060 : decode cL_law 1060 = .ok (.iconst 1, 1) := by decide +kernel
theorem dL_law_1061 : decode cL_law 1061 = .ok (.iconst 1, 1) := by decide +kernel
theorem dL_law_1062 : decode cL_law 1062 = .ok (.iconst 1, 1) := by decide +kernel
theorem dL_law_1063 : decode cL_law 1063 = .ok (.iconst 0, 1) := by decide +kernel
theorem dL_law_1064 : decode cL_law 1064 = .ok (.iconst 0, 1) := by decide +kernel
theorem dL_law_1065 : decode cL_law 1065 = .ok (.invokevirtual 94, 3) := by decide +kernel
theorem dL_law_1068 : decode cL_law 1068 = .ok (.ldc2_w 98, 3) := by decide +kernel
theorem dL_law_1071 : decode cL_law 1071 = .ok (.lcmp, 1) := by decide +kernel
theorem dL_law_1072 : decode cL_law 1072 = .ok (.ifCond .ne 14, 3) := by decide +kernel
theorem dL_law_1075 : decode cL_law 1075 = .ok (.aload_n 1, 1) := by decide +kernel
theorem dL_law_1076 : decode cL_law 1076 = .ok (.invokevirtual 100, 3) := by decide +kernel
theorem dL_law_1079 : decode cL_law 1079 = .ok (.ifCond .ne 7, 3) := by decide +kernel
theorem dL_law_1082 : decode cL_law 1082 = .ok (.iconst 1, 1) := by decide +kernel
theorem dL_law_1083 : decode cL_law 1083 = .ok (.goto 4, 3) := by decide +kernel
theorem dL_law_1086 : decode cL_law 1086 = .ok (.iconst 0, 1) := by decide +kernel
theorem dL_law_1087 : decode cL_law 1087 = .ok (.ireturn, 1) := by decide +kernel
