theorem d_W_law_179 : decode b_W_law 179 = .ok (.iconst 2, 1) := by decide +kernel
theorem d_W_law_180 : decode b_W_law 180 = .ok (.iadd, 1) := by decide +kernel
theorem d_W_law_181 : decode b_W_law 181 = .ok (.iaload, 1) := by decide +kernel
theorem d_W_law_182 : decode b_W_law 182 = .ok (.aload_n 0, 1) := by decide +kernel
theorem d_W_law_183 : decode b_W_law 183 = .ok (.iload 4, 2) := by decide +kernel
theorem d_W_law_185 : decode b_W_law 185 = .ok (.iconst 3, 1) := by decide +kernel
theorem d_W_law_186 : decode b_W_law 186 = .ok (.iadd, 1) := by decide +kernel
theorem d_W_law_187 : decode b_W_law 187 = .ok (.iaload, 1) := by decide +kernel
theorem d_W_law_188 : decode b_W_law 188 = .ok (.aload_n 3, 1) := by decide +kernel
theorem d_W_law_189 : decode b_W_law 189 = .ok (.invokestatic 23, 3) := by decide +kernel
theorem d_W_law_192 : decode b_W_law 192 = .ok (.istore 5, 2) := by decide +kernel
theorem d_W_law_194 : decode b_W_law 194 = .ok (.aload_n 2, 1) := by decide +kernel
theorem d_W_law_195 : decode b_W_law 195 = .ok (.aload_n 0, 1) := by decide +kernel
theorem d_W_law_196 : decode b_W_law 196 = .ok (.iload 4, 2) := by decide +kernel
theorem d_W_law_198 : decode b_W_law 198 = .ok (.iconst 1, 1) := by decide +kernel
theorem d_W_law_199 : decode b_W_law 199 = .ok (.iadd, 1) := by decide +kernel
theorem d_W_law_200 : decode b_W_law 200 = .ok (.iaload, 1) := by decide +kernel
theorem d_W_law_201 : decode b_W_law 201 = .ok (.aload_n 0, 1) := by decide +kernel
theorem d_W_law_202 : decode b_W_law 202 = .ok (.iload 4, 2) := by decide +kernel
theorem d_W_law_204 : decode b_W_law 204 = .ok (.iconst 2, 1) := by decide +kernel
theorem d_W_law_205 : decode b_W_law 205 = .ok (.iadd, 1) := by decide +kernel
theorem d_W_law_206 : decode b_W_law 206 = .ok (.iaload, 1) := by decide +kernel
theorem d_W_law_207 : decode b_W_law 207 = .ok (.aload_n 0, 1) := by decide +kernel
theorem d_W_law_208 : decode b_W_law 208 = .ok (.iload 4, 2) := by decide +kernel
theorem d_W_law_210 : decode b_W_law 210 = .ok (.iconst 3, 1) := by decide +kernel
theorem d_W_law_211 : decode b_W_law 211 = .ok (.iadd, 1) := by decide +kernel
theorem d_W_law_212 : decode b_W_law 212 = .ok (.iaload, 1) := by decide +kernel
theorem d_W_law_213 : decode b_W_law 213 = .ok (.invokevirtual 28, 3) := by decide +kernel
theorem d_W_law_216 : decode b_W_law 216 = .ok (.istore 6, 2) := by decide +kernel
theorem d_W_law_218 : decode b_W_law 218 = .ok (.aload_n 2, 1) := by decide +kernel
theorem d_W_law_219 : decode b_W_law 219 = .ok (.invokevirtual 29, 3) := by decide +kernel
theorem d_W_law_222 : decode b_W_law 222 = .ok (.iload 5, 2) := by decide +kernel
theorem d_W_law_224 : decode b_W_law 224 = .ok (.if_icmp .eq 5, 3) := by decide +kernel
theorem d_W_law_227 : decode b_W_law 227 = .ok (.iconst 0, 1) := by decide +kernel
theorem d_W_law_228 : decode b_W_law 228 = .ok (.ireturn, 1) := by decide +kernel
theorem d_W_law_229 : decode b_W_law 229 = .ok (.iload 5, 2) := by decide +kernel
theorem d_W_law_231 : decode b_W_law 231 = .ok (.ifCond .ne 15, 3) := by decide +kernel
theorem d_W_law_234 : decode b_W_law 234 = .ok (.aload_n 3, 1) := by decide +kernel
theorem d_W_law_235 : decode b_W_law 235 = .ok (.iconst 0, 1) := by decide +kernel
theorem d_W_law_236 : decode b_W_law 236 = .ok (.laload, 1) := by decide +kernel
theorem d_W_law_237 : decode b_W_law 237 = .ok (.iload 6, 2) := by decide +kernel
theorem d_W_law_239 : decode b_W_law 239 = .ok (.i2l, 1) := by decide +kernel
theorem d_W_law_240 : decode b_W_law 240 = .ok (.lcmp, 1) := by decide +kernel
theorem d_W_law_241 : decode b_W_law 241 = .ok (.ifCond .eq 5, 3) := by decide +kernel
theorem d_W_law_244 : decode b_W_law 244 = .ok (.iconst 0, 1) := by decide +kernel
theorem d_W_law_245 : decode b_W_law 245 = .ok (.ireturn, 1) := by decide +kernel
theorem d_W_law_246 : decode b_W_law 246 = .ok (.goto 776, 3) := by decide +kernel
theorem d_W_law_249 : decode b_W_law 249 = .ok (.aload_n 1, 1) := by decide +kernel
theorem d_W_law_250 : decode b_W_law 250 = .ok (.aload_n 0, 1) := by decide +kernel
theorem d_W_law_251 : decode b_W_law 251 = .ok (.iload 4, 2) := by decide +kernel
theorem d_W_law_253 : decode b_W_law 253 = .ok (.iconst 1, 1) := by decide +kernel
theorem d_W_law_254 : decode b_W_law 254 = .ok (.iadd, 1) := by decide +kernel
theorem d_W_law_255 : decode b_W_law 255 = .ok (.iaload, 1) := by decide +kernel
theorem d_W_law_256 : decode b_W_law 256 = .ok (.i2l, 1) := by decide +kernel
theorem d_W_law_257 : decode b_W_law 257 = .ok (.bipush 32, 2) := by decide +kernel
theorem d_W_law_259 : decode b_W_law 259 = .ok (.lshl, 1) := by decide +kernel
theorem d_W_law_260 : decode b_W_law 260 = .ok (.aload_n 0, 1) := by decide +kernel
theorem d_W_law_261 : decode b_W_law 261 = .ok (.iload 4, 2) := by decide +kernel
theorem d_W_law_263 : decode b_W_law 263 = .ok (.iconst 2, 1) := by decide +kernel
theorem d_W_law_264 : decode b_W_law 264 = .ok (.iadd, 1) := by decide +kernel
theorem d_W_law_265 : decode b_W_law 265 = .ok (.iaload, 1) := by decide +kernel
theorem d_W_law_266 : decode b_W_law 266 = .ok (.i2l, 1) := by decide +kernel
theorem d_W_law_267 : decode b_W_law 267 = .ok (.ldc2_w 33, 3) := by decide +kernel
theorem d_W_law_270 : decode b_W_law 270 = .ok (.land, 1) := by decide +kernel
theorem d_W_law_271 : decode b_W_law 271 = .ok (.lor, 1) := by decide +kernel
theorem d_W_law_272 : decode b_W_law 272 = .ok (.invokevirtual 35, 3) := by decide +kernel
theorem d_W_law_275 : decode b_W_law 275 = .ok (.aload_n 2, 1) := by decide +kernel
theorem d_W_law_276 : decode b_W_law 276 = .ok (.aload_n 0, 1) := by decide +kernel
theorem d_W_law_277 : decode b_W_law 277 = .ok (.iload 4, 2) := by decide +kernel
theorem d_W_law_279 : decode b_W_law 279 = .ok (.iconst 1, 1) := by decide +kernel
