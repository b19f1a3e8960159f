/-! LAW: instructions (3) -/
theorem dL_isRight_145 : decode cL_isRight 145 = .ok (.iconst 1, 1) := by decide +kernel
theorem dL_isRight_146 : decode cL_isRight 146 = .ok (.iadd, 1) := by decide +kernel
theorem dL_isRight_147 : decode cL_isRight 147 = .ok (.iconst 0, 1) := by decide +kernel
theorem dL_isRight_148 : decode cL_isRight 148 = .ok (.invokevirtual 63, 3) := by decide +kernel
theorem dL_isRight_151 : decode cL_isRight 151 = .ok (.bipush (-19), 2) := by decide +kernel
theorem dL_isRight_153 : decode cL_isRight 153 = .ok (.if_icmp .ne 14, 3) := by decide +kernel
theorem dL_isRight_156 : decode cL_isRight 156 = .ok (.aload_n 0, 1) := by decide +kernel
theorem dL_isRight_157 : decode cL_isRight 157 = .ok (.iload_n 3, 1) := by decide +kernel
theorem dL_isRight_158 : decode cL_isRight 158 = .ok (.iload 6, 2) := by decide +kernel
theorem dL_isRight_160 : decode cL_isRight 160 = .ok (.iconst 0, 1) := by decide +kernel
theorem dL_isRight_161 : decode cL_isRight 161 = .ok (.invokevirtual 63, 3) := by decide +kernel
theorem dL_isRight_164 : decode cL_isRight 164 = .ok (.ifCond .ge 5, 3) := by decide +kernel
theorem dL_isRight_167 : decode cL_isRight 167 = .ok (.iconst 0, 1) := by decide +kernel
theorem dL_isRight_168 : decode cL_isRight 168 = .ok (.ireturn, 1) := by decide +kernel
theorem dL_isRight_169 : decode cL_isRight 169 = .ok (.iload 4, 2) := by decide +kernel
theorem dL_isRight_171 : decode cL_isRight 171 = .ok (.ifCond .ge 23, 3) := by decide +kernel
theorem dL_isRight_174 : decode cL_isRight 174 = .ok (.iload 6, 2) := by decide +kernel
theorem dL_isRight_176 : decode cL_isRight 176 = .ok (.bipush (-19), 2) := by decide +kernel
theorem dL_isRight_178 : decode cL_isRight 178 = .ok (.if_icmp .ne 36, 3) := by decide +kernel
theorem dL_isRight_181 : decode cL_isRight 181 = .ok (.aload_n 0, 1) := by decide +kernel
theorem dL_isRight_182 : decode cL_isRight 182 = .ok (.iload_n 3, 1) := by decide +kernel
theorem dL_isRight_183 : decode cL_isRight 183 = .ok (.iload 5, 2) := by decide +kernel
theorem dL_isRight_185 : decode cL_isRight 185 = .ok (.iconst 0, 1) := by decide +kernel
theorem dL_isRight_186 : decode cL_isRight 186 = .ok (.invokevirtual 63, 3) := by decide +kernel
theorem dL_isRight_189 : decode cL_isRight 189 = .ok (.bipush (-19), 2) := by decide +kernel
theorem dL_isRight_191 : decode cL_isRight 191 = .ok (.if_icmp .ne 23, 3) := by decide +kernel
theorem dL_isRight_194 : decode cL_isRight 194 = .ok (.iload 5, 2) := by decide +kernel
theorem dL_isRight_196 : decode cL_isRight 196 = .ok (.ifCond .le 20, 3) := by decide +kernel
theorem dL_isRight_199 : decode cL_isRight 199 = .ok (.aload_n 0, 1) := by decide +kernel
theorem dL_isRight_200 : decode cL_isRight 200 = .ok (.iload_n 3, 1) := by decide +kernel
theorem dL_isRight_201 : decode cL_isRight 201 = .ok (.iload 5, 2) := by decide +kernel
theorem dL_isRight_203 : decode cL_isRight 203 = .ok (.iconst 1, 1) := by decide +kernel
theorem dL_isRight_204 : decode cL_isRight 204 = .ok (.isub, 1) := by decide +kernel
theorem dL_isRight_205 : decode cL_isRight 205 = .ok (.iconst 0, 1) := by decide +kernel
theorem dL_isRight_206 : decode cL_isRight 206 = .ok (.invokevirtual 63, 3) := by decide +kernel
theorem dL_isRight_209 : decode cL_isRight 209 = .ok (.bipush (-19), 2) := by decide +kernel
theorem dL_isRight_211 : decode cL_isRight 211 = .ok (.if_icmp .eq 5, 3) := by decide +kernel
theorem dL_isRight_214 : decode cL_isRight 214 = .ok (.iconst 0, 1) := by decide +kernel
theorem dL_isRight_215 : decode cL_isRight 215 = .ok (.ireturn, 1) := by decide +kernel
theorem dL_isRight_216 : decode cL_isRight 216 = .ok (.iload 4, 2) := by decide +kernel
theorem dL_isRight_218 : decode cL_isRight 218 = .ok (.ifCond .lt 61, 3) := by decide +kernel
theorem dL_isRight_221 : decode cL_isRight 221 = .ok (.aload_n 0, 1) := by decide +kernel
theorem dL_isRight_222 : decode cL_isRight 222 = .ok (.iload_n 3, 1) := by decide +kernel
theorem dL_isRight_223 : decode cL_isRight 223 = .ok (.iconst 3, 1) := by decide +kernel
theorem dL_isRight_224 : decode cL_isRight 224 = .ok (.invokevirtual 18, 3) := by decide +kernel
theorem dL_isRight_227 : decode cL_isRight 227 = .ok (.ifCond .ne 26, 3) := by decide +kernel
theorem dL_isRight_230 : decode cL_isRight 230 = .ok (.iload 6, 2) := by decide +kernel
theorem dL_isRight_232 : decode cL_isRight 232 = .ok (.iload 5, 2) := by decide +kernel
theorem dL_isRight_234 : decode cL_isRight 234 = .ok (.aload_n 0, 1) := by decide +kernel
theorem dL_isRight_235 : decode cL_isRight 235 = .ok (.iload_n 3, 1) := by decide +kernel
theorem dL_isRight_236 : decode cL_isRight 236 = .ok (.iconst 1, 1) := by decide +kernel
theorem dL_isRight_237 : decode cL_isRight 237 = .ok (.invokevirtual 18, 3) := by decide +kernel
theorem dL_isRight_240 : decode cL_isRight 240 = .ok (.iadd, 1) := by decide +kernel
theorem dL_isRight_241 : decode cL_isRight 241 = .ok (.aload_n 0, 1) := by decide +kernel
theorem dL_isRight_242 : decode cL_isRight 242 = .ok (.iload_n 3, 1) := by decide +kernel
theorem dL_isRight_243 : decode cL_isRight 243 = .ok (.iconst 2, 1) := by decide +kernel
theorem dL_isRight_244 : decode cL_isRight 244 = .ok (.invokevirtual 18, 3) := by decide +kernel
theorem dL_isRight_247 : decode cL_isRight 247 = .ok (.iadd, 1) := by decide +kernel
theorem dL_isRight_248 : decode cL_isRight 248 = .ok (.iconst 1, 1) := by decide +kernel
theorem dL_isRight_249 : decode cL_isRight 249 = .ok (.isub, 1) := by decide +kernel
theorem dL_isRight_250 : decode cL_isRight 250 = .ok (.if_icmp .gt 27, 3) := by decide +kernel
theorem dL_isRight_253 : decode cL_isRight 253 = .ok (.aload_n 0, 1) := by decide +kernel
theorem dL_isRight_254 : decode cL_isRight 254 = .ok (.iload 6, 2) := by decide +kernel
theorem dL_isRight_256 : decode cL_isRight 256 = .ok (.invokevirtual 66, 3) := by decide +kernel
theorem dL_isRight_259 : decode cL_isRight 259 = .ok (.iload_n 3, 1) := by decide +kernel
theorem dL_isRight_260 : decode cL_isRight 260 = .ok (.ishr, 1) := by decide +kernel
theorem dL_isRight_261 : decode cL_isRight 261 = .ok (.iconst 1, 1) := by decide +kernel
theorem dL_isRight_262 : decode cL_isRight 262 = .ok (.iand, 1) := by decide +kernel
theorem dL_isRight_263 : decode cL_isRight 263 = .ok (.iconst 1, 1) := by decide +kernel
theorem dL_isRight_264 : decode cL_isRight 264 = .ok (.if_icmp .ne 13, 3) := by decide +kernel
theorem dL_isRight_267 : decode cL_isRight 267 = .ok (.aload_n 0, 1) := by decide +kernel
theorem dL_isRight_268 : decode cL_isRight 268 = .ok (.iload 5, 2) := by decide +kernel
theorem dL_isRight_270 : decode cL_isRight 270 = .ok (.invokevirtual 69, 3) := by decide +kernel
theorem dL_isRight_273 : decode cL_isRight 273 = .ok (.iconst 1, 1) := by decide +kernel
theorem dL_isRight_274 : decode cL_isRight 274 = .ok (.if_icmp .ge 5, 3) := by decide +kernel
theorem dL_isRight_277 : decode cL_isRight 277 = .ok (.iconst 0, 1) := by decide +kernel
theorem dL_isRight_278 : decode cL_isRight 278 = .ok (.ireturn, 1) := by decide +kernel
theorem dL_isRight_279 : decode cL_isRight 279 = .ok (.iconst 0, 1) := by decide +kernel
theorem dL_isRight_280 : decode cL_isRight 280 = .ok (.istore 7, 2) := by decide +kernel
theorem dL_isRight_282 : decode cL_isRight 282 = .ok (.iload 7, 2) := by decide +kernel
theorem dL_isRight_284 : decode cL_isRight 284 = .ok (.iload_n 3, 1) := by decide +kernel
theorem dL_isRight_285 : decode cL_isRight 285 = .ok (.if_icmp .ge 99, 3) := by decide +kernel
theorem dL_isRight_288 : decode cL_isRight 288 = .ok (.aload_n 0, 1) := by decide +kernel
theorem dL_isRight_289 : decode cL_isRight 289 = .ok (.iload 7, 2) := by decide +kernel
theorem dL_isRight_291 : decode cL_isRight 291 = .ok (.iload_n 3, 1) := by decide +kernel
theorem dL_isRight_292 : decode cL_isRight 292 = .ok (.invokevirtual 72, 3) := by decide +kernel
theorem dL_isRight_295 : decode cL_isRight 295 = .ok (.istore 8, 2) := by decide +kernel
theorem dL_isRight_297 : decode cL_isRight 297 = .ok (.iload_n 2, 1) := by decide +kernel
theorem dL_isRight_298 : decode cL_isRight 298 = .ok (.iload 8, 2) := by decide +kernel
theorem dL_isRight_300 : decode cL_isRight 300 = .ok (.ifCond .lt 7, 3) := by decide +kernel
theorem dL_isRight_303 : decode cL_isRight 303 = .ok (.iconst 1, 1) := by decide +kernel
theorem dL_isRight_304 : decode cL_isRight 304 = .ok (.goto 4, 3) := by decide +kernel
theorem dL_isRight_307 : decode cL_isRight 307 = .ok (.iconst 0, 1) := by decide +kernel
theorem dL_isRight_308 : decode cL_isRight 308 = .ok (.iadd, 1) := by decide +kernel
theorem dL_isRight_309 : decode cL_isRight 309 = .ok (.istore_n 2, 1) := by decide +kernel
theorem dL_isRight_310 : decode cL_isRight 310 = .ok (.iload 8, 2) := by decide +kernel
theorem dL_isRight_312 : decode cL_isRight 312 = .ok (.aload_n 0, 1) := by decide +kernel
theorem dL_isRight_313 : decode cL_isRight 313 = .ok (.iload_n 3, 1) := by decide +kernel
theorem dL_isRight_314 : decode cL_isRight 314 = .ok (.iload 7, 2) := by decide +kernel
theorem dL_isRight_316 : decode cL_isRight 316 = .ok (.invokevirtual 72, 3) := by decide +kernel
