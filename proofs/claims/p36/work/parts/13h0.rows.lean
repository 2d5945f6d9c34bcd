/-! L_law -/
theorem dd225_0 : (decode code 0 = .ok (.new 7, 3)) ∧ (decode code 3 = .ok (.dup, 1)) ∧ (decode code 4 = .ok (.invokespecial 9, 3)) ∧ (decode code 7 = .ok (.astore_n 1, 1)) ∧ (decode code 8 = .ok (.new 10, 3)) ∧ (decode code 11 = .ok (.dup, 1)) ∧ (decode code 12 = .ok (.invokespecial 12, 3)) ∧ (decode code 15 = .ok (.astore_n 2, 1)) ∧ (decode code 16 = .ok (.iconst 0, 1)) ∧ (decode code 17 = .ok (.istore_n 3, 1)) ∧ (decode code 18 = .ok (.iload_n 3, 1)) ∧ (decode code 19 = .ok (.aload_n 0, 1)) ∧ (decode code 20 = .ok (.arraylength, 1)) ∧ (decode code 21 = .ok (.bipush 6, 2)) ∧ (decode code 23 = .ok (.isub, 1)) ∧ (decode code 24 = .ok (.if_icmp .gt 1165, 3)) := by decide +kernel
theorem d225_0 : decode code 0 = .ok (.new 7, 3) := dd225_0.1
theorem d225_3 : decode code 3 = .ok (.dup, 1) := dd225_0.2.1
theorem d225_4 : decode code 4 = .ok (.invokespecial 9, 3) := dd225_0.2.2.1
theorem d225_7 : decode code 7 = .ok (.astore_n 1, 1) := dd225_0.2.2.2.1
theorem d225_8 : decode code 8 = .ok (.new 10, 3) := dd225_0.2.2.2.2.1
theorem d225_11 : decode code 11 = .ok (.dup, 1) := dd225_0.2.2.2.2.2.1
theorem d225_12 : decode code 12 = .ok (.invokespecial 12, 3) := dd225_0.2.2.2.2.2.2.1
theorem d225_15 : decode code 15 = .ok (.astore_n 2, 1) := dd225_0.2.2.2.2.2.2.2.1
theorem d225_16 : decode code 16 = .ok (.iconst 0, 1) := dd225_0.2.2.2.2.2.2.2.2.1
theorem d225_17 : decode code 17 = .ok (.istore_n 3, 1) := dd225_0.2.2.2.2.2.2.2.2.2.1
theorem d225_18 : decode code 18 = .ok (.iload_n 3, 1) := dd225_0.2.2.2.2.2.2.2.2.2.2.1
theorem d225_19 : decode code 19 = .ok (.aload_n 0, 1) := dd225_0.2.2.2.2.2.2.2.2.2.2.2.1
theorem d225_20 : decode code 20 = .ok (.arraylength, 1) := dd225_0.2.2.2.2.2.2.2.2.2.2.2.2.1
theorem d225_21 : decode code 21 = .ok (.bipush 6, 2) := dd225_0.2.2.2.2.2.2.2.2.2.2.2.2.2.1
theorem d225_23 : decode code 23 = .ok (.isub, 1) := dd225_0.2.2.2.2.2.2.2.2.2.2.2.2.2.2.1
theorem d225_24 : decode code 24 = .ok (.if_icmp .gt 1165, 3) := dd225_0.2.2.2.2.2.2.2.2.2.2.2.2.2.2.2
theorem dd225_27 : (decode code 27 = .ok (.aload_n 0, 1)) ∧ (decode code 28 = .ok (.iload_n 3, 1)) ∧ (decode code 29 = .ok (.iaload, 1)) ∧ (decode code 30 = .ok (.bipush 63, 2)) ∧ (decode code 32 = .ok (.iand, 1)) ∧ (decode code 33 = .ok (.tableswitch 1150 0 34 #[155, 198, 231, 254, 287, 330, 353, 386, 409, 422, 445, 468, 481, 504, 527, 560, 583, 606, 619, 642, 665, 688, 721, 744, 757, 790, 803, 816, 859, 882, 915, 938, 981, 1054, 1087], 155)) ∧ (decode code 188 = .ok (.aload_n 1, 1)) ∧ (decode code 189 = .ok (.aload_n 0, 1)) ∧ (decode code 190 = .ok (.iload_n 3, 1)) ∧ (decode code 191 = .ok (.iconst 1, 1)) ∧ (decode code 192 = .ok (.iadd, 1)) ∧ (decode code 193 = .ok (.iaload, 1)) ∧ (decode code 194 = .ok (.aload_n 0, 1)) ∧ (decode code 195 = .ok (.iload_n 3, 1)) ∧ (decode code 196 = .ok (.iconst 2, 1)) ∧ (decode code 197 = .ok (.iadd, 1)) := by decide +kernel
theorem d225_27 : decode code 27 = .ok (.aload_n 0, 1) := dd225_27.1
theorem d225_28 : decode code 28 = .ok (.iload_n 3, 1) := dd225_27.2.1
theorem d225_29 : decode code 29 = .ok (.iaload, 1) := dd225_27.2.2.1
theorem d225_30 : decode code 30 = .ok (.bipush 63, 2) := dd225_27.2.2.2.1
theorem d225_32 : decode code 32 = .ok (.iand, 1) := dd225_27.2.2.2.2.1
theorem d225_33 : decode code 33 = .ok (.tableswitch 1150 0 34 #[155, 198, 231, 254, 287, 330, 353, 386, 409, 422, 445, 468, 481, 504, 527, 560, 583, 606, 619, 642, 665, 688, 721, 744, 757, 790, 803, 816, 859, 882, 915, 938, 981, 1054, 1087], 155) := dd225_27.2.2.2.2.2.1
theorem d225_188 : decode code 188 = .ok (.aload_n 1, 1) := dd225_27.2.2.2.2.2.2.1
theorem d225_189 : decode code 189 = .ok (.aload_n 0, 1) := dd225_27.2.2.2.2.2.2.2.1
theorem d225_190 : decode code 190 = .ok (.iload_n 3, 1) := dd225_27.2.2.2.2.2.2.2.2.1
theorem d225_191 : decode code 191 = .ok (.iconst 1, 1) := dd225_27.2.2.2.2.2.2.2.2.2.1
theorem d225_192 : decode code 192 = .ok (.iadd, 1) := dd225_27.2.2.2.2.2.2.2.2.2.2.1
theorem d225_193 : decode code 193 = .ok (.iaload, 1) := dd225_27.2.2.2.2.2.2.2.2.2.2.2.1
theorem d225_194 : decode code 194 = .ok (.aload_n 0, 1) := dd225_27.2.2.2.2.2.2.2.2.2.2.2.2.1
theorem d225_195 : decode code 195 = .ok (.iload_n 3, 1) := dd225_27.2.2.2.2.2.2.2.2.2.2.2.2.2.1
theorem d225_196 : decode code 196 = .ok (.iconst 2, 1) := dd225_27.2.2.2.2.2.2.2.2.2.2.2.2.2.2.1
theorem d225_197 : decode code 197 = .ok (.iadd, 1) := dd225_27.2.2.2.2.2.2.2.2.2.2.2.2.2.2.2
theorem dd225_198 : (decode code 198 = .ok (.iaload, 1)) ∧ (decode code 199 = .ok (.aload_n 0, 1)) ∧ (decode code 200 = .ok (.iload_n 3, 1)) ∧ (decode code 201 = .ok (.iconst 3, 1)) ∧ (decode code 202 = .ok (.iadd, 1)) ∧ (decode code 203 = .ok (.iaload, 1)) ∧ (decode code 204 = .ok (.invokevirtual 13, 3)) ∧ (decode code 207 = .ok (.pop, 1)) ∧ (decode code 208 = .ok (.aload_n 2, 1)) ∧ (decode code 209 = .ok (.aload_n 0, 1)) ∧ (decode code 210 = .ok (.iload_n 3, 1)) ∧ (decode code 211 = .ok (.iconst 1, 1)) ∧ (decode code 212 = .ok (.iadd, 1)) ∧ (decode code 213 = .ok (.iaload, 1)) ∧ (decode code 214 = .ok (.aload_n 0, 1)) ∧ (decode code 215 = .ok (.iload_n 3, 1)) := by decide +kernel
theorem d225_198 : decode code 198 = .ok (.iaload, 1) := dd225_198.1
theorem d225_199 : decode code 199 = .ok (.aload_n 0, 1) := dd225_198.2.1
theorem d225_200 : decode code 200 = .ok (.iload_n 3, 1) := dd225_198.2.2.1
theorem d225_201 : decode code 201 = .ok (.iconst 3, 1) := dd225_198.2.2.2.1
theorem d225_202 : decode code 202 = .ok (.iadd, 1) := dd225_198.2.2.2.2.1
theorem d225_203 : decode code 203 = .ok (.iaload, 1) := dd225_198.2.2.2.2.2.1
theorem d225_204 : decode code 204 = .ok (.invokevirtual 13, 3) := dd225_198.2.2.2.2.2.2.1
theorem d225_207 : decode code 207 = .ok (.pop, 1) := dd225_198.2.2.2.2.2.2.2.1
theorem d225_208 : decode code 208 = .ok (.aload_n 2, 1) := dd225_198.2.2.2.2.2.2.2.2.1
theorem d225_209 : decode code 209 = .ok (.aload_n 0, 1) := dd225_198.2.2.2.2.2.2.2.2.2.1
theorem d225_210 : decode code 210 = .ok (.iload_n 3, 1) := dd225_198.2.2.2.2.2.2.2.2.2.2.1
theorem d225_211 : decode code 211 = .ok (.iconst 1, 1) := dd225_198.2.2.2.2.2.2.2.2.2.2.2.1
theorem d225_212 : decode code 212 = .ok (.iadd, 1) := dd225_198.2.2.2.2.2.2.2.2.2.2.2.2.1
theorem d225_213 : decode code 213 = .ok (.iaload, 1) := dd225_198.2.2.2.2.2.2.2.2.2.2.2.2.2.1
theorem d225_214 : decode code 214 = .ok (.aload_n 0, 1) := dd225_198.2.2.2.2.2.2.2.2.2.2.2.2.2.2.1
theorem d225_215 : decode code 215 = .ok (.iload_n 3, 1) := dd225_198.2.2.2.2.2.2.2.2.2.2.2.2.2.2.2
theorem dd225_216 : (decode code 216 = .ok (.iconst 2, 1)) ∧ (decode code 217 = .ok (.iadd, 1)) ∧ (decode code 218 = .ok (.iaload, 1)) ∧ (decode code 219 = .ok (.aload_n 0, 1)) ∧ (decode code 220 = .ok (.iload_n 3, 1)) ∧ (decode code 221 = .ok (.iconst 3, 1)) ∧ (decode code 222 = .ok (.iadd, 1)) ∧ (decode code 223 = .ok (.iaload, 1)) ∧ (decode code 224 = .ok (.invokevirtual 17, 3)) ∧ (decode code 227 = .ok (.pop, 1)) ∧ (decode code 228 = .ok (.goto 955, 3)) ∧ (decode code 231 = .ok (.aload_n 1, 1)) ∧ (decode code 232 = .ok (.aload_n 0, 1)) ∧ (decode code 233 = .ok (.iload_n 3, 1)) ∧ (decode code 234 = .ok (.iconst 1, 1)) ∧ (decode code 235 = .ok (.iadd, 1)) := by decide +kernel
theorem d225_216 : decode code 216 = .ok (.iconst 2, 1) := dd225_216.1
theorem d225_217 : decode code 217 = .ok (.iadd, 1) := dd225_216.2.1
theorem d225_218 : decode code 218 = .ok (.iaload, 1) := dd225_216.2.2.1
theorem d225_219 : decode code 219 = .ok (.aload_n 0, 1) := dd225_216.2.2.2.1
theorem d225_220 : decode code 220 = .ok (.iload_n 3, 1) := dd225_216.2.2.2.2.1
theorem d225_221 : decode code 221 = .ok (.iconst 3, 1) := dd225_216.2.2.2.2.2.1
theorem d225_222 : decode code 222 = .ok (.iadd, 1) := dd225_216.2.2.2.2.2.2.1
theorem d225_223 : decode code 223 = .ok (.iaload, 1) := dd225_216.2.2.2.2.2.2.2.1
theorem d225_224 : decode code 224 = .ok (.invokevirtual 17, 3) := dd225_216.2.2.2.2.2.2.2.2.1
theorem d225_227 : decode code 227 = .ok (.pop, 1) := dd225_216.2.2.2.2.2.2.2.2.2.1
theorem d225_228 : decode code 228 = .ok (.goto 955, 3) := dd225_216.2.2.2.2.2.2.2.2.2.2.1
theorem d225_231 : decode code 231 = .ok (.aload_n 1, 1) := dd225_216.2.2.2.2.2.2.2.2.2.2.2.1
theorem d225_232 : decode code 232 = .ok (.aload_n 0, 1) := dd225_216.2.2.2.2.2.2.2.2.2.2.2.2.1
theorem d225_233 : decode code 233 = .ok (.iload_n 3, 1) := dd225_216.2.2.2.2.2.2.2.2.2.2.2.2.2.1
theorem d225_234 : decode code 234 = .ok (.iconst 1, 1) := dd225_216.2.2.2.2.2.2.2.2.2.2.2.2.2.2.1
theorem d225_235 : decode code 235 = .ok (.iadd, 1) := dd225_216.2.2.2.2.2.2.2.2.2.2.2.2.2.2.2
theorem dd225_236 : (decode code 236 = .ok (.iaload, 1)) ∧ (decode code 237 = .ok (.aload_n 0, 1)) ∧ (decode code 238 = .ok (.iload_n 3, 1)) ∧ (decode code 239 = .ok (.iconst 2, 1)) ∧ (decode code 240 = .ok (.iadd, 1)) ∧ (decode code 241 = .ok (.iaload, 1)) ∧ (decode code 242 = .ok (.invokevirtual 18, 3)) ∧ (decode code 245 = .ok (.pop, 1)) ∧ (decode code 246 = .ok (.aload_n 2, 1)) ∧ (decode code 247 = .ok (.aload_n 0, 1)) ∧ (decode code 248 = .ok (.iload_n 3, 1)) ∧ (decode code 249 = .ok (.iconst 1, 1)) ∧ (decode code 250 = .ok (.iadd, 1)) ∧ (decode code 251 = .ok (.iaload, 1)) ∧ (decode code 252 = .ok (.aload_n 0, 1)) ∧ (decode code 253 = .ok (.iload_n 3, 1)) := by decide +kernel
theorem d225_236 : decode code 236 = .ok (.iaload, 1) := dd225_236.1
theorem d225_237 : decode code 237 = .ok (.aload_n 0, 1) := dd225_236.2.1
theorem d225_238 : decode code 238 = .ok (.iload_n 3, 1) := dd225_236.2.2.1
theorem d225_239 : decode code 239 = .ok (.iconst 2, 1) := dd225_236.2.2.2.1
theorem d225_240 : decode code 240 = .ok (.iadd, 1) := dd225_236.2.2.2.2.1
theorem d225_241 : decode code 241 = .ok (.iaload, 1) := dd225_236.2.2.2.2.2.1
theorem d225_242 : decode code 242 = .ok (.invokevirtual 18, 3) := dd225_236.2.2.2.2.2.2.1
theorem d225_245 : decode code 245 = .ok (.pop, 1) := dd225_236.2.2.2.2.2.2.2.1
theorem d225_246 : decode code 246 = .ok (.aload_n 2, 1) := dd225_236.2.2.2.2.2.2.2.2.1
theorem d225_247 : decode code 247 = .ok (.aload_n 0, 1) := dd225_236.2.2.2.2.2.2.2.2.2.1
theorem d225_248 : decode code 248 = .ok (.iload_n 3, 1) := dd225_236.2.2.2.2.2.2.2.2.2.2.1
theorem d225_249 : decode code 249 = .ok (.iconst 1, 1) := dd225_236.2.2.2.2.2.2.2.2.2.2.2.1
theorem d225_250 : decode code 250 = .ok (.iadd, 1) := dd225_236.2.2.2.2.2.2.2.2.2.2.2.2.1
theorem d225_251 : decode code 251 = .ok (.iaload, 1) := dd225_236.2.2.2.2.2.2.2.2.2.2.2.2.2.1
theorem d225_252 : decode code 252 = .ok (.aload_n 0, 1) := dd225_236.2.2.2.2.2.2.2.2.2.2.2.2.2.2.1
theorem d225_253 : decode code 253 = .ok (.iload_n 3, 1) := dd225_236.2.2.2.2.2.2.2.2.2.2.2.2.2.2.2
theorem dd225_254 : (decode code 254 = .ok (.iconst 2, 1)) ∧ (decode code 255 = .ok (.iadd, 1)) ∧ (decode code 256 = .ok (.iaload, 1)) ∧ (decode code 257 = .ok (.invokevirtual 22, 3)) ∧ (decode code 260 = .ok (.pop, 1)) ∧ (decode code 261 = .ok (.goto 922, 3)) ∧ (decode code 264 = .ok (.aload_n 1, 1)) ∧ (decode code 265 = .ok (.aload_n 0, 1)) ∧ (decode code 266 = .ok (.iload_n 3, 1)) ∧ (decode code 267 = .ok (.iconst 1, 1)) ∧ (decode code 268 = .ok (.iadd, 1)) ∧ (decode code 269 = .ok (.iaload, 1)) ∧ (decode code 270 = .ok (.invokevirtual 23, 3)) ∧ (decode code 273 = .ok (.pop, 1)) ∧ (decode code 274 = .ok (.aload_n 2, 1)) ∧ (decode code 275 = .ok (.aload_n 0, 1)) := by decide +kernel
theorem d225_254 : decode code 254 = .ok (.iconst 2, 1) := dd225_254.1
theorem d225_255 : decode code 255 = .ok (.iadd, 1) := dd225_254.2.1
theorem d225_256 : decode code 256 = .ok (.iaload, 1) := dd225_254.2.2.1
theorem d225_257 : decode code 257 = .ok (.invokevirtual 22, 3) := dd225_254.2.2.2.1
theorem d225_260 : decode code 260 = .ok (.pop, 1) := dd225_254.2.2.2.2.1
theorem d225_261 : decode code 261 = .ok (.goto 922, 3) := dd225_254.2.2.2.2.2.1
theorem d225_264 : decode code 264 = .ok (.aload_n 1, 1) := dd225_254.2.2.2.2.2.2.1
theorem d225_265 : decode code 265 = .ok (.aload_n 0, 1) := dd225_254.2.2.2.2.2.2.2.1
theorem d225_266 : decode code 266 = .ok (.iload_n 3, 1) := dd225_254.2.2.2.2.2.2.2.2.1
theorem d225_267 : decode code 267 = .ok (.iconst 1, 1) := dd225_254.2.2.2.2.2.2.2.2.2.1
theorem d225_268 : decode code 268 = .ok (.iadd, 1) := dd225_254.2.2.2.2.2.2.2.2.2.2.1
theorem d225_269 : decode code 269 = .ok (.iaload, 1) := dd225_254.2.2.2.2.2.2.2.2.2.2.2.1
theorem d225_270 : decode code 270 = .ok (.invokevirtual 23, 3) := dd225_254.2.2.2.2.2.2.2.2.2.2.2.2.1
theorem d225_273 : decode code 273 = .ok (.pop, 1) := dd225_254.2.2.2.2.2.2.2.2.2.2.2.2.2.1
theorem d225_274 : decode code 274 = .ok (.aload_n 2, 1) := dd225_254.2.2.2.2.2.2.2.2.2.2.2.2.2.2.1
theorem d225_275 : decode code 275 = .ok (.aload_n 0, 1) := dd225_254.2.2.2.2.2.2.2.2.2.2.2.2.2.2.2
theorem dd225_276 : (decode code 276 = .ok (.iload_n 3, 1)) ∧ (decode code 277 = .ok (.iconst 1, 1)) ∧ (decode code 278 = .ok (.iadd, 1)) ∧ (decode code 279 = .ok (.iaload, 1)) ∧ (decode code 280 = .ok (.invokevirtual 27, 3)) ∧ (decode code 283 = .ok (.pop, 1)) ∧ (decode code 284 = .ok (.goto 899, 3)) ∧ (decode code 287 = .ok (.aload_n 1, 1)) ∧ (decode code 288 = .ok (.aload_n 0, 1)) ∧ (decode code 289 = .ok (.iload_n 3, 1)) ∧ (decode code 290 = .ok (.iconst 1, 1)) ∧ (decode code 291 = .ok (.iadd, 1)) ∧ (decode code 292 = .ok (.iaload, 1)) ∧ (decode code 293 = .ok (.aload_n 0, 1)) ∧ (decode code 294 = .ok (.iload_n 3, 1)) ∧ (decode code 295 = .ok (.iconst 2, 1)) := by decide +kernel
theorem d225_276 : decode code 276 = .ok (.iload_n 3, 1) := dd225_276.1
theorem d225_277 : decode code 277 = .ok (.iconst 1, 1) := dd225_276.2.1
theorem d225_278 : decode code 278 = .ok (.iadd, 1) := dd225_276.2.2.1
theorem d225_279 : decode code 279 = .ok (.iaload, 1) := dd225_276.2.2.2.1
theorem d225_280 : decode code 280 = .ok (.invokevirtual 27, 3) := dd225_276.2.2.2.2.1
theorem d225_283 : decode code 283 = .ok (.pop, 1) := dd225_276.2.2.2.2.2.1
theorem d225_284 : decode code 284 = .ok (.goto 899, 3) := dd225_276.2.2.2.2.2.2.1
theorem d225_287 : decode code 287 = .ok (.aload_n 1, 1) := dd225_276.2.2.2.2.2.2.2.1
theorem d225_288 : decode code 288 = .ok (.aload_n 0, 1) := dd225_276.2.2.2.2.2.2.2.2.1
theorem d225_289 : decode code 289 = .ok (.iload_n 3, 1) := dd225_276.2.2.2.2.2.2.2.2.2.1
theorem d225_290 : decode code 290 = .ok (.iconst 1, 1) := dd225_276.2.2.2.2.2.2.2.2.2.2.1
theorem d225_291 : decode code 291 = .ok (.iadd, 1) := dd225_276.2.2.2.2.2.2.2.2.2.2.2.1
theorem d225_292 : decode code 292 = .ok (.iaload, 1) := dd225_276.2.2.2.2.2.2.2.2.2.2.2.2.1
theorem d225_293 : decode code 293 = .ok (.aload_n 0, 1) := dd225_276.2.2.2.2.2.2.2.2.2.2.2.2.2.1
theorem d225_294 : decode code 294 = .ok (.iload_n 3, 1) := dd225_276.2.2.2.2.2.2.2.2.2.2.2.2.2.2.1
theorem d225_295 : decode code 295 = .ok (.iconst 2, 1) := dd225_276.2.2.2.2.2.2.2.2.2.2.2.2.2.2.2
theorem dd225_296 : (decode code 296 = .ok (.iadd, 1)) ∧ (decode code 297 = .ok (.iaload, 1)) ∧ (decode code 298 = .ok (.invokevirtual 28, 3)) ∧ (decode code 301 = .ok (.pop, 1)) ∧ (decode code 302 = .ok (.aload_n 2, 1)) ∧ (decode code 303 = .ok (.aload_n 0, 1)) ∧ (decode code 304 = .ok (.iload_n 3, 1)) ∧ (decode code 305 = .ok (.iconst 1, 1)) ∧ (decode code 306 = .ok (.iadd, 1)) ∧ (decode code 307 = .ok (.iaload, 1)) ∧ (decode code 308 = .ok (.aload_n 0, 1)) ∧ (decode code 309 = .ok (.iload_n 3, 1)) ∧ (decode code 310 = .ok (.iconst 2, 1)) ∧ (decode code 311 = .ok (.iadd, 1)) ∧ (decode code 312 = .ok (.iaload, 1)) ∧ (decode code 313 = .ok (.invokevirtual 31, 3)) := by decide +kernel
theorem d225_296 : decode code 296 = .ok (.iadd, 1) := dd225_296.1
theorem d225_297 : decode code 297 = .ok (.iaload, 1) := dd225_296.2.1
theorem d225_298 : decode code 298 = .ok (.invokevirtual 28, 3) := dd225_296.2.2.1
theorem d225_301 : decode code 301 = .ok (.pop, 1) := dd225_296.2.2.2.1
theorem d225_302 : decode code 302 = .ok (.aload_n 2, 1) := dd225_296.2.2.2.2.1
theorem d225_303 : decode code 303 = .ok (.aload_n 0, 1) := dd225_296.2.2.2.2.2.1
theorem d225_304 : decode code 304 = .ok (.iload_n 3, 1) := dd225_296.2.2.2.2.2.2.1
theorem d225_305 : decode code 305 = .ok (.iconst 1, 1) := dd225_296.2.2.2.2.2.2.2.1
theorem d225_306 : decode code 306 = .ok (.iadd, 1) := dd225_296.2.2.2.2.2.2.2.2.1
theorem d225_307 : decode code 307 = .ok (.iaload, 1) := dd225_296.2.2.2.2.2.2.2.2.2.1
theorem d225_308 : decode code 308 = .ok (.aload_n 0, 1) := dd225_296.2.2.2.2.2.2.2.2.2.2.1
theorem d225_309 : decode code 309 = .ok (.iload_n 3, 1) := dd225_296.2.2.2.2.2.2.2.2.2.2.2.1
theorem d225_310 : decode code 310 = .ok (.iconst 2, 1) := dd225_296.2.2.2.2.2.2.2.2.2.2.2.2.1
theorem d225_311 : decode code 311 = .ok (.iadd, 1) := dd225_296.2.2.2.2.2.2.2.2.2.2.2.2.2.1
theorem d225_312 : decode code 312 = .ok (.iaload, 1) := dd225_296.2.2.2.2.2.2.2.2.2.2.2.2.2.2.1
theorem d225_313 : decode code 313 = .ok (.invokevirtual 31, 3) := dd225_296.2.2.2.2.2.2.2.2.2.2.2.2.2.2.2
theorem dd225_316 : (decode code 316 = .ok (.pop, 1)) ∧ (decode code 317 = .ok (.goto 866, 3)) ∧ (decode code 320 = .ok (.aload_n 1, 1)) ∧ (decode code 321 = .ok (.aload_n 0, 1)) ∧ (decode code 322 = .ok (.iload_n 3, 1)) ∧ (decode code 323 = .ok (.iconst 1, 1)) ∧ (decode code 324 = .ok (.iadd, 1)) ∧ (decode code 325 = .ok (.iaload, 1)) ∧ (decode code 326 = .ok (.aload_n 0, 1)) ∧ (decode code 327 = .ok (.iload_n 3, 1)) ∧ (decode code 328 = .ok (.iconst 2, 1)) ∧ (decode code 329 = .ok (.iadd, 1)) ∧ (decode code 330 = .ok (.iaload, 1)) ∧ (decode code 331 = .ok (.aload_n 0, 1)) ∧ (decode code 332 = .ok (.iload_n 3, 1)) ∧ (decode code 333 = .ok (.iconst 3, 1)) := by decide +kernel
theorem d225_316 : decode code 316 = .ok (.pop, 1) := dd225_316.1
theorem d225_317 : decode code 317 = .ok (.goto 866, 3) := dd225_316.2.1
theorem d225_320 : decode code 320 = .ok (.aload_n 1, 1) := dd225_316.2.2.1
theorem d225_321 : decode code 321 = .ok (.aload_n 0, 1) := dd225_316.2.2.2.1
theorem d225_322 : decode code 322 = .ok (.iload_n 3, 1) := dd225_316.2.2.2.2.1
theorem d225_323 : decode code 323 = .ok (.iconst 1, 1) := dd225_316.2.2.2.2.2.1
theorem d225_324 : decode code 324 = .ok (.iadd, 1) := dd225_316.2.2.2.2.2.2.1
theorem d225_325 : decode code 325 = .ok (.iaload, 1) := dd225_316.2.2.2.2.2.2.2.1
theorem d225_326 : decode code 326 = .ok (.aload_n 0, 1) := dd225_316.2.2.2.2.2.2.2.2.1
theorem d225_327 : decode code 327 = .ok (.iload_n 3, 1) := dd225_316.2.2.2.2.2.2.2.2.2.1
theorem d225_328 : decode code 328 = .ok (.iconst 2, 1) := dd225_316.2.2.2.2.2.2.2.2.2.2.1
theorem d225_329 : decode code 329 = .ok (.iadd, 1) := dd225_316.2.2.2.2.2.2.2.2.2.2.2.1
theorem d225_330 : decode code 330 = .ok (.iaload, 1) := dd225_316.2.2.2.2.2.2.2.2.2.2.2.2.1
theorem d225_331 : decode code 331 = .ok (.aload_n 0, 1) := dd225_316.2.2.2.2.2.2.2.2.2.2.2.2.2.1
theorem d225_332 : decode code 332 = .ok (.iload_n 3, 1) := dd225_316.2.2.2.2.2.2.2.2.2.2.2.2.2.2.1
theorem d225_333 : decode code 333 = .ok (.iconst 3, 1) := dd225_316.2.2.2.2.2.2.2.2.2.2.2.2.2.2.2
theorem dd225_334 : (decode code 334 = .ok (.iadd, 1)) ∧ (decode code 335 = .ok (.iaload, 1)) ∧ (decode code 336 = .ok (.invokevirtual 32, 3)) ∧ (decode code 339 = .ok (.pop, 1)) ∧ (decode code 340 = .ok (.aload_n 2, 1)) ∧ (decode code 341 = .ok (.aload_n 0, 1)) ∧ (decode code 342 = .ok (.iload_n 3, 1)) ∧ (decode code 343 = .ok (.iconst 1, 1)) ∧ (decode code 344 = .ok (.iadd, 1)) ∧ (decode code 345 = .ok (.iaload, 1)) ∧ (decode code 346 = .ok (.aload_n 0, 1)) ∧ (decode code 347 = .ok (.iload_n 3, 1)) ∧ (decode code 348 = .ok (.iconst 2, 1)) ∧ (decode code 349 = .ok (.iadd, 1)) ∧ (decode code 350 = .ok (.iaload, 1)) ∧ (decode code 351 = .ok (.aload_n 0, 1)) := by decide +kernel
theorem d225_334 : decode code 334 = .ok (.iadd, 1) := dd225_334.1
theorem d225_335 : decode code 335 = .ok (.iaload, 1) := dd225_334.2.1
theorem d225_336 : decode code 336 = .ok (.invokevirtual 32, 3) := dd225_334.2.2.1
theorem d225_339 : decode code 339 = .ok (.pop, 1) := dd225_334.2.2.2.1
theorem d225_340 : decode code 340 = .ok (.aload_n 2, 1) := dd225_334.2.2.2.2.1
theorem d225_341 : decode code 341 = .ok (.aload_n 0, 1) := dd225_334.2.2.2.2.2.1
theorem d225_342 : decode code 342 = .ok (.iload_n 3, 1) := dd225_334.2.2.2.2.2.2.1
theorem d225_343 : decode code 343 = .ok (.iconst 1, 1) := dd225_334.2.2.2.2.2.2.2.1
theorem d225_344 : decode code 344 = .ok (.iadd, 1) := dd225_334.2.2.2.2.2.2.2.2.1
theorem d225_345 : decode code 345 = .ok (.iaload, 1) := dd225_334.2.2.2.2.2.2.2.2.2.1
theorem d225_346 : decode code 346 = .ok (.aload_n 0, 1) := dd225_334.2.2.2.2.2.2.2.2.2.2.1
theorem d225_347 : decode code 347 = .ok (.iload_n 3, 1) := dd225_334.2.2.2.2.2.2.2.2.2.2.2.1
theorem d225_348 : decode code 348 = .ok (.iconst 2, 1) := dd225_334.2.2.2.2.2.2.2.2.2.2.2.2.1
theorem d225_349 : decode code 349 = .ok (.iadd, 1) := dd225_334.2.2.2.2.2.2.2.2.2.2.2.2.2.1
theorem d225_350 : decode code 350 = .ok (.iaload, 1) := dd225_334.2.2.2.2.2.2.2.2.2.2.2.2.2.2.1
theorem d225_351 : decode code 351 = .ok (.aload_n 0, 1) := dd225_334.2.2.2.2.2.2.2.2.2.2.2.2.2.2.2
theorem dd225_352 : (decode code 352 = .ok (.iload_n 3, 1)) ∧ (decode code 353 = .ok (.iconst 3, 1)) ∧ (decode code 354 = .ok (.iadd, 1)) ∧ (decode code 355 = .ok (.iaload, 1)) ∧ (decode code 356 = .ok (.invokevirtual 35, 3)) ∧ (decode code 359 = .ok (.pop, 1)) ∧ (decode code 360 = .ok (.goto 823, 3)) ∧ (decode code 363 = .ok (.aload_n 1, 1)) ∧ (decode code 364 = .ok (.aload_n 0, 1)) ∧ (decode code 365 = .ok (.iload_n 3, 1)) ∧ (decode code 366 = .ok (.iconst 1, 1)) ∧ (decode code 367 = .ok (.iadd, 1)) ∧ (decode code 368 = .ok (.iaload, 1)) ∧ (decode code 369 = .ok (.invokevirtual 36, 3)) ∧ (decode code 372 = .ok (.pop, 1)) ∧ (decode code 373 = .ok (.aload_n 2, 1)) := by decide +kernel
theorem d225_352 : decode code 352 = .ok (.iload_n 3, 1) := dd225_352.1
theorem d225_353 : decode code 353 = .ok (.iconst 3, 1) := dd225_352.2.1
theorem d225_354 : decode code 354 = .ok (.iadd, 1) := dd225_352.2.2.1
theorem d225_355 : decode code 355 = .ok (.iaload, 1) := dd225_352.2.2.2.1
theorem d225_356 : decode code 356 = .ok (.invokevirtual 35, 3) := dd225_352.2.2.2.2.1
theorem d225_359 : decode code 359 = .ok (.pop, 1) := dd225_352.2.2.2.2.2.1
theorem d225_360 : decode code 360 = .ok (.goto 823, 3) := dd225_352.2.2.2.2.2.2.1
theorem d225_363 : decode code 363 = .ok (.aload_n 1, 1) := dd225_352.2.2.2.2.2.2.2.1
theorem d225_364 : decode code 364 = .ok (.aload_n 0, 1) := dd225_352.2.2.2.2.2.2.2.2.1
theorem d225_365 : decode code 365 = .ok (.iload_n 3, 1) := dd225_352.2.2.2.2.2.2.2.2.2.1
theorem d225_366 : decode code 366 = .ok (.iconst 1, 1) := dd225_352.2.2.2.2.2.2.2.2.2.2.1
theorem d225_367 : decode code 367 = .ok (.iadd, 1) := dd225_352.2.2.2.2.2.2.2.2.2.2.2.1
theorem d225_368 : decode code 368 = .ok (.iaload, 1) := dd225_352.2.2.2.2.2.2.2.2.2.2.2.2.1
theorem d225_369 : decode code 369 = .ok (.invokevirtual 36, 3) := dd225_352.2.2.2.2.2.2.2.2.2.2.2.2.2.1
theorem d225_372 : decode code 372 = .ok (.pop, 1) := dd225_352.2.2.2.2.2.2.2.2.2.2.2.2.2.2.1
theorem d225_373 : decode code 373 = .ok (.aload_n 2, 1) := dd225_352.2.2.2.2.2.2.2.2.2.2.2.2.2.2.2
theorem dd225_374 : (decode code 374 = .ok (.aload_n 0, 1)) ∧ (decode code 375 = .ok (.iload_n 3, 1)) ∧ (decode code 376 = .ok (.iconst 1, 1)) ∧ (decode code 377 = .ok (.iadd, 1)) ∧ (decode code 378 = .ok (.iaload, 1)) ∧ (decode code 379 = .ok (.invokevirtual 39, 3)) ∧ (decode code 382 = .ok (.pop, 1)) ∧ (decode code 383 = .ok (.goto 800, 3)) ∧ (decode code 386 = .ok (.aload_n 1, 1)) ∧ (decode code 387 = .ok (.aload_n 0, 1)) ∧ (decode code 388 = .ok (.iload_n 3, 1)) ∧ (decode code 389 = .ok (.iconst 1, 1)) ∧ (decode code 390 = .ok (.iadd, 1)) ∧ (decode code 391 = .ok (.iaload, 1)) ∧ (decode code 392 = .ok (.aload_n 0, 1)) ∧ (decode code 393 = .ok (.iload_n 3, 1)) := by decide +kernel
theorem d225_374 : decode code 374 = .ok (.aload_n 0, 1) := dd225_374.1
theorem d225_375 : decode code 375 = .ok (.iload_n 3, 1) := dd225_374.2.1
theorem d225_376 : decode code 376 = .ok (.iconst 1, 1) := dd225_374.2.2.1
theorem d225_377 : decode code 377 = .ok (.iadd, 1) := dd225_374.2.2.2.1
theorem d225_378 : decode code 378 = .ok (.iaload, 1) := dd225_374.2.2.2.2.1
theorem d225_379 : decode code 379 = .ok (.invokevirtual 39, 3) := dd225_374.2.2.2.2.2.1
theorem d225_382 : decode code 382 = .ok (.pop, 1) := dd225_374.2.2.2.2.2.2.1
theorem d225_383 : decode code 383 = .ok (.goto 800, 3) := dd225_374.2.2.2.2.2.2.2.1
theorem d225_386 : decode code 386 = .ok (.aload_n 1, 1) := dd225_374.2.2.2.2.2.2.2.2.1
theorem d225_387 : decode code 387 = .ok (.aload_n 0, 1) := dd225_374.2.2.2.2.2.2.2.2.2.1
theorem d225_388 : decode code 388 = .ok (.iload_n 3, 1) := dd225_374.2.2.2.2.2.2.2.2.2.2.1
theorem d225_389 : decode code 389 = .ok (.iconst 1, 1) := dd225_374.2.2.2.2.2.2.2.2.2.2.2.1
theorem d225_390 : decode code 390 = .ok (.iadd, 1) := dd225_374.2.2.2.2.2.2.2.2.2.2.2.2.1
theorem d225_391 : decode code 391 = .ok (.iaload, 1) := dd225_374.2.2.2.2.2.2.2.2.2.2.2.2.2.1
theorem d225_392 : decode code 392 = .ok (.aload_n 0, 1) := dd225_374.2.2.2.2.2.2.2.2.2.2.2.2.2.2.1
theorem d225_393 : decode code 393 = .ok (.iload_n 3, 1) := dd225_374.2.2.2.2.2.2.2.2.2.2.2.2.2.2.2
theorem dd225_394 : (decode code 394 = .ok (.iconst 2, 1)) ∧ (decode code 395 = .ok (.iadd, 1)) ∧ (decode code 396 = .ok (.iaload, 1)) ∧ (decode code 397 = .ok (.invokevirtual 40, 3)) ∧ (decode code 400 = .ok (.pop, 1)) ∧ (decode code 401 = .ok (.aload_n 2, 1)) ∧ (decode code 402 = .ok (.aload_n 0, 1)) ∧ (decode code 403 = .ok (.iload_n 3, 1)) ∧ (decode code 404 = .ok (.iconst 1, 1)) ∧ (decode code 405 = .ok (.iadd, 1)) ∧ (decode code 406 = .ok (.iaload, 1)) ∧ (decode code 407 = .ok (.aload_n 0, 1)) ∧ (decode code 408 = .ok (.iload_n 3, 1)) ∧ (decode code 409 = .ok (.iconst 2, 1)) ∧ (decode code 410 = .ok (.iadd, 1)) ∧ (decode code 411 = .ok (.iaload, 1)) := by decide +kernel
theorem d225_394 : decode code 394 = .ok (.iconst 2, 1) := dd225_394.1
theorem d225_395 : decode code 395 = .ok (.iadd, 1) := dd225_394.2.1
theorem d225_396 : decode code 396 = .ok (.iaload, 1) := dd225_394.2.2.1
theorem d225_397 : decode code 397 = .ok (.invokevirtual 40, 3) := dd225_394.2.2.2.1
theorem d225_400 : decode code 400 = .ok (.pop, 1) := dd225_394.2.2.2.2.1
theorem d225_401 : decode code 401 = .ok (.aload_n 2, 1) := dd225_394.2.2.2.2.2.1
theorem d225_402 : decode code 402 = .ok (.aload_n 0, 1) := dd225_394.2.2.2.2.2.2.1
theorem d225_403 : decode code 403 = .ok (.iload_n 3, 1) := dd225_394.2.2.2.2.2.2.2.1
theorem d225_404 : decode code 404 = .ok (.iconst 1, 1) := dd225_394.2.2.2.2.2.2.2.2.1
theorem d225_405 : decode code 405 = .ok (.iadd, 1) := dd225_394.2.2.2.2.2.2.2.2.2.1
theorem d225_406 : decode code 406 = .ok (.iaload, 1) := dd225_394.2.2.2.2.2.2.2.2.2.2.1
theorem d225_407 : decode code 407 = .ok (.aload_n 0, 1) := dd225_394.2.2.2.2.2.2.2.2.2.2.2.1
theorem d225_408 : decode code 408 = .ok (.iload_n 3, 1) := dd225_394.2.2.2.2.2.2.2.2.2.2.2.2.1
theorem d225_409 : decode code 409 = .ok (.iconst 2, 1) := dd225_394.2.2.2.2.2.2.2.2.2.2.2.2.2.1
theorem d225_410 : decode code 410 = .ok (.iadd, 1) := dd225_394.2.2.2.2.2.2.2.2.2.2.2.2.2.2.1
theorem d225_411 : decode code 411 = .ok (.iaload, 1) := dd225_394.2.2.2.2.2.2.2.2.2.2.2.2.2.2.2
theorem dd225_412 : (decode code 412 = .ok (.invokevirtual 43, 3)) ∧ (decode code 415 = .ok (.pop, 1)) ∧ (decode code 416 = .ok (.goto 767, 3)) ∧ (decode code 419 = .ok (.aload_n 1, 1)) ∧ (decode code 420 = .ok (.aload_n 0, 1)) ∧ (decode code 421 = .ok (.iload_n 3, 1)) ∧ (decode code 422 = .ok (.iconst 1, 1)) ∧ (decode code 423 = .ok (.iadd, 1)) ∧ (decode code 424 = .ok (.iaload, 1)) ∧ (decode code 425 = .ok (.invokevirtual 44, 3)) ∧ (decode code 428 = .ok (.pop, 1)) ∧ (decode code 429 = .ok (.aload_n 2, 1)) ∧ (decode code 430 = .ok (.aload_n 0, 1)) ∧ (decode code 431 = .ok (.iload_n 3, 1)) ∧ (decode code 432 = .ok (.iconst 1, 1)) ∧ (decode code 433 = .ok (.iadd, 1)) := by decide +kernel
theorem d225_412 : decode code 412 = .ok (.invokevirtual 43, 3) := dd225_412.1
theorem d225_415 : decode code 415 = .ok (.pop, 1) := dd225_412.2.1
theorem d225_416 : decode code 416 = .ok (.goto 767, 3) := dd225_412.2.2.1
theorem d225_419 : decode code 419 = .ok (.aload_n 1, 1) := dd225_412.2.2.2.1
theorem d225_420 : decode code 420 = .ok (.aload_n 0, 1) := dd225_412.2.2.2.2.1
theorem d225_421 : decode code 421 = .ok (.iload_n 3, 1) := dd225_412.2.2.2.2.2.1
theorem d225_422 : decode code 422 = .ok (.iconst 1, 1) := dd225_412.2.2.2.2.2.2.1
theorem d225_423 : decode code 423 = .ok (.iadd, 1) := dd225_412.2.2.2.2.2.2.2.1
theorem d225_424 : decode code 424 = .ok (.iaload, 1) := dd225_412.2.2.2.2.2.2.2.2.1
theorem d225_425 : decode code 425 = .ok (.invokevirtual 44, 3) := dd225_412.2.2.2.2.2.2.2.2.2.1
theorem d225_428 : decode code 428 = .ok (.pop, 1) := dd225_412.2.2.2.2.2.2.2.2.2.2.1
theorem d225_429 : decode code 429 = .ok (.aload_n 2, 1) := dd225_412.2.2.2.2.2.2.2.2.2.2.2.1
theorem d225_430 : decode code 430 = .ok (.aload_n 0, 1) := dd225_412.2.2.2.2.2.2.2.2.2.2.2.2.1
theorem d225_431 : decode code 431 = .ok (.iload_n 3, 1) := dd225_412.2.2.2.2.2.2.2.2.2.2.2.2.2.1
theorem d225_432 : decode code 432 = .ok (.iconst 1, 1) := dd225_412.2.2.2.2.2.2.2.2.2.2.2.2.2.2.1
theorem d225_433 : decode code 433 = .ok (.iadd, 1) := dd225_412.2.2.2.2.2.2.2.2.2.2.2.2.2.2.2
theorem dd225_434 : (decode code 434 = .ok (.iaload, 1)) ∧ (decode code 435 = .ok (.invokevirtual 47, 3)) ∧ (decode code 438 = .ok (.pop, 1)) ∧ (decode code 439 = .ok (.goto 744, 3)) ∧ (decode code 442 = .ok (.aload_n 1, 1)) ∧ (decode code 443 = .ok (.invokevirtual 48, 3)) ∧ (decode code 446 = .ok (.pop, 1)) ∧ (decode code 447 = .ok (.aload_n 2, 1)) ∧ (decode code 448 = .ok (.invokevirtual 52, 3)) ∧ (decode code 451 = .ok (.pop, 1)) ∧ (decode code 452 = .ok (.goto 731, 3)) ∧ (decode code 455 = .ok (.aload_n 1, 1)) ∧ (decode code 456 = .ok (.aload_n 0, 1)) ∧ (decode code 457 = .ok (.iload_n 3, 1)) ∧ (decode code 458 = .ok (.iconst 1, 1)) ∧ (decode code 459 = .ok (.iadd, 1)) := by decide +kernel
theorem d225_434 : decode code 434 = .ok (.iaload, 1) := dd225_434.1
theorem d225_435 : decode code 435 = .ok (.invokevirtual 47, 3) := dd225_434.2.1
theorem d225_438 : decode code 438 = .ok (.pop, 1) := dd225_434.2.2.1
theorem d225_439 : decode code 439 = .ok (.goto 744, 3) := dd225_434.2.2.2.1
theorem d225_442 : decode code 442 = .ok (.aload_n 1, 1) := dd225_434.2.2.2.2.1
theorem d225_443 : decode code 443 = .ok (.invokevirtual 48, 3) := dd225_434.2.2.2.2.2.1
theorem d225_446 : decode code 446 = .ok (.pop, 1) := dd225_434.2.2.2.2.2.2.1
theorem d225_447 : decode code 447 = .ok (.aload_n 2, 1) := dd225_434.2.2.2.2.2.2.2.1
theorem d225_448 : decode code 448 = .ok (.invokevirtual 52, 3) := dd225_434.2.2.2.2.2.2.2.2.1
theorem d225_451 : decode code 451 = .ok (.pop, 1) := dd225_434.2.2.2.2.2.2.2.2.2.1
theorem d225_452 : decode code 452 = .ok (.goto 731, 3) := dd225_434.2.2.2.2.2.2.2.2.2.2.1
theorem d225_455 : decode code 455 = .ok (.aload_n 1, 1) := dd225_434.2.2.2.2.2.2.2.2.2.2.2.1
theorem d225_456 : decode code 456 = .ok (.aload_n 0, 1) := dd225_434.2.2.2.2.2.2.2.2.2.2.2.2.1
theorem d225_457 : decode code 457 = .ok (.iload_n 3, 1) := dd225_434.2.2.2.2.2.2.2.2.2.2.2.2.2.1
theorem d225_458 : decode code 458 = .ok (.iconst 1, 1) := dd225_434.2.2.2.2.2.2.2.2.2.2.2.2.2.2.1
theorem d225_459 : decode code 459 = .ok (.iadd, 1) := dd225_434.2.2.2.2.2.2.2.2.2.2.2.2.2.2.2
theorem dd225_460 : (decode code 460 = .ok (.iaload, 1)) ∧ (decode code 461 = .ok (.invokevirtual 53, 3)) ∧ (decode code 464 = .ok (.pop, 1)) ∧ (decode code 465 = .ok (.aload_n 2, 1)) ∧ (decode code 466 = .ok (.aload_n 0, 1)) ∧ (decode code 467 = .ok (.iload_n 3, 1)) ∧ (decode code 468 = .ok (.iconst 1, 1)) ∧ (decode code 469 = .ok (.iadd, 1)) ∧ (decode code 470 = .ok (.iaload, 1)) ∧ (decode code 471 = .ok (.invokevirtual 56, 3)) ∧ (decode code 474 = .ok (.pop, 1)) ∧ (decode code 475 = .ok (.goto 708, 3)) ∧ (decode code 478 = .ok (.aload_n 1, 1)) ∧ (decode code 479 = .ok (.aload_n 0, 1)) ∧ (decode code 480 = .ok (.iload_n 3, 1)) ∧ (decode code 481 = .ok (.iconst 1, 1)) := by decide +kernel
theorem d225_460 : decode code 460 = .ok (.iaload, 1) := dd225_460.1
theorem d225_461 : decode code 461 = .ok (.invokevirtual 53, 3) := dd225_460.2.1
theorem d225_464 : decode code 464 = .ok (.pop, 1) := dd225_460.2.2.1
theorem d225_465 : decode code 465 = .ok (.aload_n 2, 1) := dd225_460.2.2.2.1
theorem d225_466 : decode code 466 = .ok (.aload_n 0, 1) := dd225_460.2.2.2.2.1
theorem d225_467 : decode code 467 = .ok (.iload_n 3, 1) := dd225_460.2.2.2.2.2.1
theorem d225_468 : decode code 468 = .ok (.iconst 1, 1) := dd225_460.2.2.2.2.2.2.1
theorem d225_469 : decode code 469 = .ok (.iadd, 1) := dd225_460.2.2.2.2.2.2.2.1
theorem d225_470 : decode code 470 = .ok (.iaload, 1) := dd225_460.2.2.2.2.2.2.2.2.1
theorem d225_471 : decode code 471 = .ok (.invokevirtual 56, 3) := dd225_460.2.2.2.2.2.2.2.2.2.1
theorem d225_474 : decode code 474 = .ok (.pop, 1) := dd225_460.2.2.2.2.2.2.2.2.2.2.1
theorem d225_475 : decode code 475 = .ok (.goto 708, 3) := dd225_460.2.2.2.2.2.2.2.2.2.2.2.1
theorem d225_478 : decode code 478 = .ok (.aload_n 1, 1) := dd225_460.2.2.2.2.2.2.2.2.2.2.2.2.1
theorem d225_479 : decode code 479 = .ok (.aload_n 0, 1) := dd225_460.2.2.2.2.2.2.2.2.2.2.2.2.2.1
theorem d225_480 : decode code 480 = .ok (.iload_n 3, 1) := dd225_460.2.2.2.2.2.2.2.2.2.2.2.2.2.2.1
theorem d225_481 : decode code 481 = .ok (.iconst 1, 1) := dd225_460.2.2.2.2.2.2.2.2.2.2.2.2.2.2.2
theorem dd225_482 : (decode code 482 = .ok (.iadd, 1)) ∧ (decode code 483 = .ok (.iaload, 1)) ∧ (decode code 484 = .ok (.invokevirtual 57, 3)) ∧ (decode code 487 = .ok (.pop, 1)) ∧ (decode code 488 = .ok (.aload_n 2, 1)) ∧ (decode code 489 = .ok (.aload_n 0, 1)) ∧ (decode code 490 = .ok (.iload_n 3, 1)) ∧ (decode code 491 = .ok (.iconst 1, 1)) ∧ (decode code 492 = .ok (.iadd, 1)) ∧ (decode code 493 = .ok (.iaload, 1)) ∧ (decode code 494 = .ok (.invokevirtual 60, 3)) ∧ (decode code 497 = .ok (.pop, 1)) ∧ (decode code 498 = .ok (.goto 685, 3)) ∧ (decode code 501 = .ok (.aload_n 1, 1)) ∧ (decode code 502 = .ok (.invokevirtual 61, 3)) ∧ (decode code 505 = .ok (.pop, 1)) := by decide +kernel
theorem d225_482 : decode code 482 = .ok (.iadd, 1) := dd225_482.1
theorem d225_483 : decode code 483 = .ok (.iaload, 1) := dd225_482.2.1
theorem d225_484 : decode code 484 = .ok (.invokevirtual 57, 3) := dd225_482.2.2.1
theorem d225_487 : decode code 487 = .ok (.pop, 1) := dd225_482.2.2.2.1
theorem d225_488 : decode code 488 = .ok (.aload_n 2, 1) := dd225_482.2.2.2.2.1
theorem d225_489 : decode code 489 = .ok (.aload_n 0, 1) := dd225_482.2.2.2.2.2.1
theorem d225_490 : decode code 490 = .ok (.iload_n 3, 1) := dd225_482.2.2.2.2.2.2.1
theorem d225_491 : decode code 491 = .ok (.iconst 1, 1) := dd225_482.2.2.2.2.2.2.2.1
theorem d225_492 : decode code 492 = .ok (.iadd, 1) := dd225_482.2.2.2.2.2.2.2.2.1
theorem d225_493 : decode code 493 = .ok (.iaload, 1) := dd225_482.2.2.2.2.2.2.2.2.2.1
theorem d225_494 : decode code 494 = .ok (.invokevirtual 60, 3) := dd225_482.2.2.2.2.2.2.2.2.2.2.1
theorem d225_497 : decode code 497 = .ok (.pop, 1) := dd225_482.2.2.2.2.2.2.2.2.2.2.2.1
theorem d225_498 : decode code 498 = .ok (.goto 685, 3) := dd225_482.2.2.2.2.2.2.2.2.2.2.2.2.1
theorem d225_501 : decode code 501 = .ok (.aload_n 1, 1) := dd225_482.2.2.2.2.2.2.2.2.2.2.2.2.2.1
theorem d225_502 : decode code 502 = .ok (.invokevirtual 61, 3) := dd225_482.2.2.2.2.2.2.2.2.2.2.2.2.2.2.1
theorem d225_505 : decode code 505 = .ok (.pop, 1) := dd225_482.2.2.2.2.2.2.2.2.2.2.2.2.2.2.2
theorem dd225_506 : (decode code 506 = .ok (.aload_n 2, 1)) ∧ (decode code 507 = .ok (.invokevirtual 64, 3)) ∧ (decode code 510 = .ok (.pop, 1)) ∧ (decode code 511 = .ok (.goto 672, 3)) ∧ (decode code 514 = .ok (.aload_n 1, 1)) ∧ (decode code 515 = .ok (.aload_n 0, 1)) ∧ (decode code 516 = .ok (.iload_n 3, 1)) ∧ (decode code 517 = .ok (.iconst 1, 1)) ∧ (decode code 518 = .ok (.iadd, 1)) ∧ (decode code 519 = .ok (.iaload, 1)) ∧ (decode code 520 = .ok (.invokevirtual 65, 3)) ∧ (decode code 523 = .ok (.pop, 1)) ∧ (decode code 524 = .ok (.aload_n 2, 1)) ∧ (decode code 525 = .ok (.aload_n 0, 1)) ∧ (decode code 526 = .ok (.iload_n 3, 1)) ∧ (decode code 527 = .ok (.iconst 1, 1)) := by decide +kernel
theorem d225_506 : decode code 506 = .ok (.aload_n 2, 1) := dd225_506.1
theorem d225_507 : decode code 507 = .ok (.invokevirtual 64, 3) := dd225_506.2.1
theorem d225_510 : decode code 510 = .ok (.pop, 1) := dd225_506.2.2.1
theorem d225_511 : decode code 511 = .ok (.goto 672, 3) := dd225_506.2.2.2.1
theorem d225_514 : decode code 514 = .ok (.aload_n 1, 1) := dd225_506.2.2.2.2.1
theorem d225_515 : decode code 515 = .ok (.aload_n 0, 1) := dd225_506.2.2.2.2.2.1
theorem d225_516 : decode code 516 = .ok (.iload_n 3, 1) := dd225_506.2.2.2.2.2.2.1
theorem d225_517 : decode code 517 = .ok (.iconst 1, 1) := dd225_506.2.2.2.2.2.2.2.1
theorem d225_518 : decode code 518 = .ok (.iadd, 1) := dd225_506.2.2.2.2.2.2.2.2.1
theorem d225_519 : decode code 519 = .ok (.iaload, 1) := dd225_506.2.2.2.2.2.2.2.2.2.1
theorem d225_520 : decode code 520 = .ok (.invokevirtual 65, 3) := dd225_506.2.2.2.2.2.2.2.2.2.2.1
theorem d225_523 : decode code 523 = .ok (.pop, 1) := dd225_506.2.2.2.2.2.2.2.2.2.2.2.1
theorem d225_524 : decode code 524 = .ok (.aload_n 2, 1) := dd225_506.2.2.2.2.2.2.2.2.2.2.2.2.1
theorem d225_525 : decode code 525 = .ok (.aload_n 0, 1) := dd225_506.2.2.2.2.2.2.2.2.2.2.2.2.2.1
theorem d225_526 : decode code 526 = .ok (.iload_n 3, 1) := dd225_506.2.2.2.2.2.2.2.2.2.2.2.2.2.2.1
theorem d225_527 : decode code 527 = .ok (.iconst 1, 1) := dd225_506.2.2.2.2.2.2.2.2.2.2.2.2.2.2.2
theorem dd225_528 : (decode code 528 = .ok (.iadd, 1)) ∧ (decode code 529 = .ok (.iaload, 1)) ∧ (decode code 530 = .ok (.invokevirtual 68, 3)) ∧ (decode code 533 = .ok (.pop, 1)) ∧ (decode code 534 = .ok (.goto 649, 3)) ∧ (decode code 537 = .ok (.aload_n 1, 1)) ∧ (decode code 538 = .ok (.aload_n 0, 1)) ∧ (decode code 539 = .ok (.iload_n 3, 1)) ∧ (decode code 540 = .ok (.iconst 1, 1)) ∧ (decode code 541 = .ok (.iadd, 1)) ∧ (decode code 542 = .ok (.iaload, 1)) ∧ (decode code 543 = .ok (.invokevirtual 69, 3)) ∧ (decode code 546 = .ok (.pop, 1)) ∧ (decode code 547 = .ok (.aload_n 2, 1)) ∧ (decode code 548 = .ok (.aload_n 0, 1)) ∧ (decode code 549 = .ok (.iload_n 3, 1)) := by decide +kernel
theorem d225_528 : decode code 528 = .ok (.iadd, 1) := dd225_528.1
theorem d225_529 : decode code 529 = .ok (.iaload, 1) := dd225_528.2.1
theorem d225_530 : decode code 530 = .ok (.invokevirtual 68, 3) := dd225_528.2.2.1
theorem d225_533 : decode code 533 = .ok (.pop, 1) := dd225_528.2.2.2.1
theorem d225_534 : decode code 534 = .ok (.goto 649, 3) := dd225_528.2.2.2.2.1
theorem d225_537 : decode code 537 = .ok (.aload_n 1, 1) := dd225_528.2.2.2.2.2.1
theorem d225_538 : decode code 538 = .ok (.aload_n 0, 1) := dd225_528.2.2.2.2.2.2.1
theorem d225_539 : decode code 539 = .ok (.iload_n 3, 1) := dd225_528.2.2.2.2.2.2.2.1
theorem d225_540 : decode code 540 = .ok (.iconst 1, 1) := dd225_528.2.2.2.2.2.2.2.2.1
theorem d225_541 : decode code 541 = .ok (.iadd, 1) := dd225_528.2.2.2.2.2.2.2.2.2.1
theorem d225_542 : decode code 542 = .ok (.iaload, 1) := dd225_528.2.2.2.2.2.2.2.2.2.2.1
theorem d225_543 : decode code 543 = .ok (.invokevirtual 69, 3) := dd225_528.2.2.2.2.2.2.2.2.2.2.2.1
theorem d225_546 : decode code 546 = .ok (.pop, 1) := dd225_528.2.2.2.2.2.2.2.2.2.2.2.2.1
theorem d225_547 : decode code 547 = .ok (.aload_n 2, 1) := dd225_528.2.2.2.2.2.2.2.2.2.2.2.2.2.1
theorem d225_548 : decode code 548 = .ok (.aload_n 0, 1) := dd225_528.2.2.2.2.2.2.2.2.2.2.2.2.2.2.1
theorem d225_549 : decode code 549 = .ok (.iload_n 3, 1) := dd225_528.2.2.2.2.2.2.2.2.2.2.2.2.2.2.2
theorem dd225_550 : (decode code 550 = .ok (.iconst 1, 1)) ∧ (decode code 551 = .ok (.iadd, 1)) ∧ (decode code 552 = .ok (.iaload, 1)) ∧ (decode code 553 = .ok (.invokevirtual 72, 3)) ∧ (decode code 556 = .ok (.pop, 1)) ∧ (decode code 557 = .ok (.goto 626, 3)) ∧ (decode code 560 = .ok (.aload_n 1, 1)) ∧ (decode code 561 = .ok (.aload_n 0, 1)) ∧ (decode code 562 = .ok (.iload_n 3, 1)) ∧ (decode code 563 = .ok (.iconst 1, 1)) ∧ (decode code 564 = .ok (.iadd, 1)) ∧ (decode code 565 = .ok (.iaload, 1)) ∧ (decode code 566 = .ok (.aload_n 0, 1)) ∧ (decode code 567 = .ok (.iload_n 3, 1)) ∧ (decode code 568 = .ok (.iconst 2, 1)) ∧ (decode code 569 = .ok (.iadd, 1)) := by decide +kernel
theorem d225_550 : decode code 550 = .ok (.iconst 1, 1) := dd225_550.1
theorem d225_551 : decode code 551 = .ok (.iadd, 1) := dd225_550.2.1
theorem d225_552 : decode code 552 = .ok (.iaload, 1) := dd225_550.2.2.1
theorem d225_553 : decode code 553 = .ok (.invokevirtual 72, 3) := dd225_550.2.2.2.1
theorem d225_556 : decode code 556 = .ok (.pop, 1) := dd225_550.2.2.2.2.1
theorem d225_557 : decode code 557 = .ok (.goto 626, 3) := dd225_550.2.2.2.2.2.1
theorem d225_560 : decode code 560 = .ok (.aload_n 1, 1) := dd225_550.2.2.2.2.2.2.1
theorem d225_561 : decode code 561 = .ok (.aload_n 0, 1) := dd225_550.2.2.2.2.2.2.2.1
theorem d225_562 : decode code 562 = .ok (.iload_n 3, 1) := dd225_550.2.2.2.2.2.2.2.2.1
theorem d225_563 : decode code 563 = .ok (.iconst 1, 1) := dd225_550.2.2.2.2.2.2.2.2.2.1
theorem d225_564 : decode code 564 = .ok (.iadd, 1) := dd225_550.2.2.2.2.2.2.2.2.2.2.1
theorem d225_565 : decode code 565 = .ok (.iaload, 1) := dd225_550.2.2.2.2.2.2.2.2.2.2.2.1
theorem d225_566 : decode code 566 = .ok (.aload_n 0, 1) := dd225_550.2.2.2.2.2.2.2.2.2.2.2.2.1
theorem d225_567 : decode code 567 = .ok (.iload_n 3, 1) := dd225_550.2.2.2.2.2.2.2.2.2.2.2.2.2.1
theorem d225_568 : decode code 568 = .ok (.iconst 2, 1) := dd225_550.2.2.2.2.2.2.2.2.2.2.2.2.2.2.1
theorem d225_569 : decode code 569 = .ok (.iadd, 1) := dd225_550.2.2.2.2.2.2.2.2.2.2.2.2.2.2.2
theorem dd225_570 : (decode code 570 = .ok (.iaload, 1)) ∧ (decode code 571 = .ok (.invokevirtual 73, 3)) ∧ (decode code 574 = .ok (.pop, 1)) ∧ (decode code 575 = .ok (.aload_n 2, 1)) ∧ (decode code 576 = .ok (.aload_n 0, 1)) ∧ (decode code 577 = .ok (.iload_n 3, 1)) ∧ (decode code 578 = .ok (.iconst 1, 1)) ∧ (decode code 579 = .ok (.iadd, 1)) ∧ (decode code 580 = .ok (.iaload, 1)) ∧ (decode code 581 = .ok (.aload_n 0, 1)) ∧ (decode code 582 = .ok (.iload_n 3, 1)) ∧ (decode code 583 = .ok (.iconst 2, 1)) ∧ (decode code 584 = .ok (.iadd, 1)) ∧ (decode code 585 = .ok (.iaload, 1)) ∧ (decode code 586 = .ok (.invokevirtual 76, 3)) ∧ (decode code 589 = .ok (.pop, 1)) := by decide +kernel
theorem d225_570 : decode code 570 = .ok (.iaload, 1) := dd225_570.1
theorem d225_571 : decode code 571 = .ok (.invokevirtual 73, 3) := dd225_570.2.1
theorem d225_574 : decode code 574 = .ok (.pop, 1) := dd225_570.2.2.1
theorem d225_575 : decode code 575 = .ok (.aload_n 2, 1) := dd225_570.2.2.2.1
theorem d225_576 : decode code 576 = .ok (.aload_n 0, 1) := dd225_570.2.2.2.2.1
theorem d225_577 : decode code 577 = .ok (.iload_n 3, 1) := dd225_570.2.2.2.2.2.1
theorem d225_578 : decode code 578 = .ok (.iconst 1, 1) := dd225_570.2.2.2.2.2.2.1
theorem d225_579 : decode code 579 = .ok (.iadd, 1) := dd225_570.2.2.2.2.2.2.2.1
theorem d225_580 : decode code 580 = .ok (.iaload, 1) := dd225_570.2.2.2.2.2.2.2.2.1
theorem d225_581 : decode code 581 = .ok (.aload_n 0, 1) := dd225_570.2.2.2.2.2.2.2.2.2.1
theorem d225_582 : decode code 582 = .ok (.iload_n 3, 1) := dd225_570.2.2.2.2.2.2.2.2.2.2.1
theorem d225_583 : decode code 583 = .ok (.iconst 2, 1) := dd225_570.2.2.2.2.2.2.2.2.2.2.2.1
theorem d225_584 : decode code 584 = .ok (.iadd, 1) := dd225_570.2.2.2.2.2.2.2.2.2.2.2.2.1
theorem d225_585 : decode code 585 = .ok (.iaload, 1) := dd225_570.2.2.2.2.2.2.2.2.2.2.2.2.2.1
theorem d225_586 : decode code 586 = .ok (.invokevirtual 76, 3) := dd225_570.2.2.2.2.2.2.2.2.2.2.2.2.2.2.1
theorem d225_589 : decode code 589 = .ok (.pop, 1) := dd225_570.2.2.2.2.2.2.2.2.2.2.2.2.2.2.2
theorem dd225_590 : (decode code 590 = .ok (.goto 593, 3)) ∧ (decode code 593 = .ok (.aload_n 1, 1)) ∧ (decode code 594 = .ok (.aload_n 0, 1)) ∧ (decode code 595 = .ok (.iload_n 3, 1)) ∧ (decode code 596 = .ok (.iconst 1, 1)) ∧ (decode code 597 = .ok (.iadd, 1)) ∧ (decode code 598 = .ok (.iaload, 1)) ∧ (decode code 599 = .ok (.invokevirtual 77, 3)) ∧ (decode code 602 = .ok (.pop, 1)) ∧ (decode code 603 = .ok (.aload_n 2, 1)) ∧ (decode code 604 = .ok (.aload_n 0, 1)) ∧ (decode code 605 = .ok (.iload_n 3, 1)) ∧ (decode code 606 = .ok (.iconst 1, 1)) ∧ (decode code 607 = .ok (.iadd, 1)) ∧ (decode code 608 = .ok (.iaload, 1)) ∧ (decode code 609 = .ok (.invokevirtual 80, 3)) := by decide +kernel
theorem d225_590 : decode code 590 = .ok (.goto 593, 3) := dd225_590.1
theorem d225_593 : decode code 593 = .ok (.aload_n 1, 1) := dd225_590.2.1
theorem d225_594 : decode code 594 = .ok (.aload_n 0, 1) := dd225_590.2.2.1
theorem d225_595 : decode code 595 = .ok (.iload_n 3, 1) := dd225_590.2.2.2.1
theorem d225_596 : decode code 596 = .ok (.iconst 1, 1) := dd225_590.2.2.2.2.1
theorem d225_597 : decode code 597 = .ok (.iadd, 1) := dd225_590.2.2.2.2.2.1
theorem d225_598 : decode code 598 = .ok (.iaload, 1) := dd225_590.2.2.2.2.2.2.1
theorem d225_599 : decode code 599 = .ok (.invokevirtual 77, 3) := dd225_590.2.2.2.2.2.2.2.1
theorem d225_602 : decode code 602 = .ok (.pop, 1) := dd225_590.2.2.2.2.2.2.2.2.1
theorem d225_603 : decode code 603 = .ok (.aload_n 2, 1) := dd225_590.2.2.2.2.2.2.2.2.2.1
theorem d225_604 : decode code 604 = .ok (.aload_n 0, 1) := dd225_590.2.2.2.2.2.2.2.2.2.2.1
theorem d225_605 : decode code 605 = .ok (.iload_n 3, 1) := dd225_590.2.2.2.2.2.2.2.2.2.2.2.1
theorem d225_606 : decode code 606 = .ok (.iconst 1, 1) := dd225_590.2.2.2.2.2.2.2.2.2.2.2.2.1
theorem d225_607 : decode code 607 = .ok (.iadd, 1) := dd225_590.2.2.2.2.2.2.2.2.2.2.2.2.2.1
theorem d225_608 : decode code 608 = .ok (.iaload, 1) := dd225_590.2.2.2.2.2.2.2.2.2.2.2.2.2.2.1
theorem d225_609 : decode code 609 = .ok (.invokevirtual 80, 3) := dd225_590.2.2.2.2.2.2.2.2.2.2.2.2.2.2.2
theorem dd225_612 : (decode code 612 = .ok (.pop, 1)) ∧ (decode code 613 = .ok (.goto 570, 3)) ∧ (decode code 616 = .ok (.aload_n 1, 1)) ∧ (decode code 617 = .ok (.aload_n 0, 1)) ∧ (decode code 618 = .ok (.iload_n 3, 1)) ∧ (decode code 619 = .ok (.iconst 1, 1)) ∧ (decode code 620 = .ok (.iadd, 1)) ∧ (decode code 621 = .ok (.iaload, 1)) ∧ (decode code 622 = .ok (.invokevirtual 81, 3)) ∧ (decode code 625 = .ok (.pop2, 1)) ∧ (decode code 626 = .ok (.aload_n 2, 1)) ∧ (decode code 627 = .ok (.aload_n 0, 1)) ∧ (decode code 628 = .ok (.iload_n 3, 1)) ∧ (decode code 629 = .ok (.iconst 1, 1)) ∧ (decode code 630 = .ok (.iadd, 1)) ∧ (decode code 631 = .ok (.iaload, 1)) := by decide +kernel
theorem d225_612 : decode code 612 = .ok (.pop, 1) := dd225_612.1
theorem d225_613 : decode code 613 = .ok (.goto 570, 3) := dd225_612.2.1
theorem d225_616 : decode code 616 = .ok (.aload_n 1, 1) := dd225_612.2.2.1
theorem d225_617 : decode code 617 = .ok (.aload_n 0, 1) := dd225_612.2.2.2.1
theorem d225_618 : decode code 618 = .ok (.iload_n 3, 1) := dd225_612.2.2.2.2.1
theorem d225_619 : decode code 619 = .ok (.iconst 1, 1) := dd225_612.2.2.2.2.2.1
theorem d225_620 : decode code 620 = .ok (.iadd, 1) := dd225_612.2.2.2.2.2.2.1
theorem d225_621 : decode code 621 = .ok (.iaload, 1) := dd225_612.2.2.2.2.2.2.2.1
theorem d225_622 : decode code 622 = .ok (.invokevirtual 81, 3) := dd225_612.2.2.2.2.2.2.2.2.1
theorem d225_625 : decode code 625 = .ok (.pop2, 1) := dd225_612.2.2.2.2.2.2.2.2.2.1
theorem d225_626 : decode code 626 = .ok (.aload_n 2, 1) := dd225_612.2.2.2.2.2.2.2.2.2.2.1
theorem d225_627 : decode code 627 = .ok (.aload_n 0, 1) := dd225_612.2.2.2.2.2.2.2.2.2.2.2.1
theorem d225_628 : decode code 628 = .ok (.iload_n 3, 1) := dd225_612.2.2.2.2.2.2.2.2.2.2.2.2.1
theorem d225_629 : decode code 629 = .ok (.iconst 1, 1) := dd225_612.2.2.2.2.2.2.2.2.2.2.2.2.2.1
theorem d225_630 : decode code 630 = .ok (.iadd, 1) := dd225_612.2.2.2.2.2.2.2.2.2.2.2.2.2.2.1
theorem d225_631 : decode code 631 = .ok (.iaload, 1) := dd225_612.2.2.2.2.2.2.2.2.2.2.2.2.2.2.2
theorem dd225_632 : (decode code 632 = .ok (.invokevirtual 85, 3)) ∧ (decode code 635 = .ok (.pop2, 1)) ∧ (decode code 636 = .ok (.goto 547, 3)) ∧ (decode code 639 = .ok (.aload_n 1, 1)) ∧ (decode code 640 = .ok (.invokevirtual 86, 3)) ∧ (decode code 643 = .ok (.pop, 1)) ∧ (decode code 644 = .ok (.aload_n 2, 1)) ∧ (decode code 645 = .ok (.invokevirtual 89, 3)) ∧ (decode code 648 = .ok (.pop, 1)) ∧ (decode code 649 = .ok (.goto 534, 3)) ∧ (decode code 652 = .ok (.aload_n 1, 1)) ∧ (decode code 653 = .ok (.aload_n 0, 1)) ∧ (decode code 654 = .ok (.iload_n 3, 1)) ∧ (decode code 655 = .ok (.iconst 1, 1)) ∧ (decode code 656 = .ok (.iadd, 1)) ∧ (decode code 657 = .ok (.iaload, 1)) := by decide +kernel
theorem d225_632 : decode code 632 = .ok (.invokevirtual 85, 3) := dd225_632.1
theorem d225_635 : decode code 635 = .ok (.pop2, 1) := dd225_632.2.1
theorem d225_636 : decode code 636 = .ok (.goto 547, 3) := dd225_632.2.2.1
theorem d225_639 : decode code 639 = .ok (.aload_n 1, 1) := dd225_632.2.2.2.1
theorem d225_640 : decode code 640 = .ok (.invokevirtual 86, 3) := dd225_632.2.2.2.2.1
theorem d225_643 : decode code 643 = .ok (.pop, 1) := dd225_632.2.2.2.2.2.1
theorem d225_644 : decode code 644 = .ok (.aload_n 2, 1) := dd225_632.2.2.2.2.2.2.1
theorem d225_645 : decode code 645 = .ok (.invokevirtual 89, 3) := dd225_632.2.2.2.2.2.2.2.1
theorem d225_648 : decode code 648 = .ok (.pop, 1) := dd225_632.2.2.2.2.2.2.2.2.1
theorem d225_649 : decode code 649 = .ok (.goto 534, 3) := dd225_632.2.2.2.2.2.2.2.2.2.1
theorem d225_652 : decode code 652 = .ok (.aload_n 1, 1) := dd225_632.2.2.2.2.2.2.2.2.2.2.1
theorem d225_653 : decode code 653 = .ok (.aload_n 0, 1) := dd225_632.2.2.2.2.2.2.2.2.2.2.2.1
theorem d225_654 : decode code 654 = .ok (.iload_n 3, 1) := dd225_632.2.2.2.2.2.2.2.2.2.2.2.2.1
theorem d225_655 : decode code 655 = .ok (.iconst 1, 1) := dd225_632.2.2.2.2.2.2.2.2.2.2.2.2.2.1
theorem d225_656 : decode code 656 = .ok (.iadd, 1) := dd225_632.2.2.2.2.2.2.2.2.2.2.2.2.2.2.1
theorem d225_657 : decode code 657 = .ok (.iaload, 1) := dd225_632.2.2.2.2.2.2.2.2.2.2.2.2.2.2.2
theorem dd225_658 : (decode code 658 = .ok (.invokevirtual 90, 3)) ∧ (decode code 661 = .ok (.pop, 1)) ∧ (decode code 662 = .ok (.aload_n 2, 1)) ∧ (decode code 663 = .ok (.aload_n 0, 1)) ∧ (decode code 664 = .ok (.iload_n 3, 1)) ∧ (decode code 665 = .ok (.iconst 1, 1)) ∧ (decode code 666 = .ok (.iadd, 1)) ∧ (decode code 667 = .ok (.iaload, 1)) ∧ (decode code 668 = .ok (.invokevirtual 93, 3)) ∧ (decode code 671 = .ok (.pop, 1)) ∧ (decode code 672 = .ok (.goto 511, 3)) ∧ (decode code 675 = .ok (.aload_n 1, 1)) ∧ (decode code 676 = .ok (.aload_n 0, 1)) ∧ (decode code 677 = .ok (.iload_n 3, 1)) ∧ (decode code 678 = .ok (.iconst 1, 1)) ∧ (decode code 679 = .ok (.iadd, 1)) := by decide +kernel
theorem d225_658 : decode code 658 = .ok (.invokevirtual 90, 3) := dd225_658.1
theorem d225_661 : decode code 661 = .ok (.pop, 1) := dd225_658.2.1
theorem d225_662 : decode code 662 = .ok (.aload_n 2, 1) := dd225_658.2.2.1
theorem d225_663 : decode code 663 = .ok (.aload_n 0, 1) := dd225_658.2.2.2.1
theorem d225_664 : decode code 664 = .ok (.iload_n 3, 1) := dd225_658.2.2.2.2.1
theorem d225_665 : decode code 665 = .ok (.iconst 1, 1) := dd225_658.2.2.2.2.2.1
theorem d225_666 : decode code 666 = .ok (.iadd, 1) := dd225_658.2.2.2.2.2.2.1
theorem d225_667 : decode code 667 = .ok (.iaload, 1) := dd225_658.2.2.2.2.2.2.2.1
theorem d225_668 : decode code 668 = .ok (.invokevirtual 93, 3) := dd225_658.2.2.2.2.2.2.2.2.1
theorem d225_671 : decode code 671 = .ok (.pop, 1) := dd225_658.2.2.2.2.2.2.2.2.2.1
theorem d225_672 : decode code 672 = .ok (.goto 511, 3) := dd225_658.2.2.2.2.2.2.2.2.2.2.1
theorem d225_675 : decode code 675 = .ok (.aload_n 1, 1) := dd225_658.2.2.2.2.2.2.2.2.2.2.2.1
theorem d225_676 : decode code 676 = .ok (.aload_n 0, 1) := dd225_658.2.2.2.2.2.2.2.2.2.2.2.2.1
theorem d225_677 : decode code 677 = .ok (.iload_n 3, 1) := dd225_658.2.2.2.2.2.2.2.2.2.2.2.2.2.1
theorem d225_678 : decode code 678 = .ok (.iconst 1, 1) := dd225_658.2.2.2.2.2.2.2.2.2.2.2.2.2.2.1
theorem d225_679 : decode code 679 = .ok (.iadd, 1) := dd225_658.2.2.2.2.2.2.2.2.2.2.2.2.2.2.2
theorem dd225_680 : (decode code 680 = .ok (.iaload, 1)) ∧ (decode code 681 = .ok (.invokevirtual 94, 3)) ∧ (decode code 684 = .ok (.pop, 1)) ∧ (decode code 685 = .ok (.aload_n 2, 1)) ∧ (decode code 686 = .ok (.aload_n 0, 1)) ∧ (decode code 687 = .ok (.iload_n 3, 1)) ∧ (decode code 688 = .ok (.iconst 1, 1)) ∧ (decode code 689 = .ok (.iadd, 1)) ∧ (decode code 690 = .ok (.iaload, 1)) ∧ (decode code 691 = .ok (.invokevirtual 97, 3)) ∧ (decode code 694 = .ok (.pop, 1)) ∧ (decode code 695 = .ok (.goto 488, 3)) ∧ (decode code 698 = .ok (.aload_n 1, 1)) ∧ (decode code 699 = .ok (.aload_n 0, 1)) ∧ (decode code 700 = .ok (.iload_n 3, 1)) ∧ (decode code 701 = .ok (.iconst 1, 1)) := by decide +kernel
theorem d225_680 : decode code 680 = .ok (.iaload, 1) := dd225_680.1
theorem d225_681 : decode code 681 = .ok (.invokevirtual 94, 3) := dd225_680.2.1
theorem d225_684 : decode code 684 = .ok (.pop, 1) := dd225_680.2.2.1
theorem d225_685 : decode code 685 = .ok (.aload_n 2, 1) := dd225_680.2.2.2.1
theorem d225_686 : decode code 686 = .ok (.aload_n 0, 1) := dd225_680.2.2.2.2.1
theorem d225_687 : decode code 687 = .ok (.iload_n 3, 1) := dd225_680.2.2.2.2.2.1
theorem d225_688 : decode code 688 = .ok (.iconst 1, 1) := dd225_680.2.2.2.2.2.2.1
theorem d225_689 : decode code 689 = .ok (.iadd, 1) := dd225_680.2.2.2.2.2.2.2.1
theorem d225_690 : decode code 690 = .ok (.iaload, 1) := dd225_680.2.2.2.2.2.2.2.2.1
theorem d225_691 : decode code 691 = .ok (.invokevirtual 97, 3) := dd225_680.2.2.2.2.2.2.2.2.2.1
theorem d225_694 : decode code 694 = .ok (.pop, 1) := dd225_680.2.2.2.2.2.2.2.2.2.2.1
theorem d225_695 : decode code 695 = .ok (.goto 488, 3) := dd225_680.2.2.2.2.2.2.2.2.2.2.2.1
theorem d225_698 : decode code 698 = .ok (.aload_n 1, 1) := dd225_680.2.2.2.2.2.2.2.2.2.2.2.2.1
theorem d225_699 : decode code 699 = .ok (.aload_n 0, 1) := dd225_680.2.2.2.2.2.2.2.2.2.2.2.2.2.1
theorem d225_700 : decode code 700 = .ok (.iload_n 3, 1) := dd225_680.2.2.2.2.2.2.2.2.2.2.2.2.2.2.1
theorem d225_701 : decode code 701 = .ok (.iconst 1, 1) := dd225_680.2.2.2.2.2.2.2.2.2.2.2.2.2.2.2
theorem dd225_702 : (decode code 702 = .ok (.iadd, 1)) ∧ (decode code 703 = .ok (.iaload, 1)) ∧ (decode code 704 = .ok (.invokevirtual 98, 3)) ∧ (decode code 707 = .ok (.pop, 1)) ∧ (decode code 708 = .ok (.aload_n 2, 1)) ∧ (decode code 709 = .ok (.aload_n 0, 1)) ∧ (decode code 710 = .ok (.iload_n 3, 1)) ∧ (decode code 711 = .ok (.iconst 1, 1)) ∧ (decode code 712 = .ok (.iadd, 1)) ∧ (decode code 713 = .ok (.iaload, 1)) ∧ (decode code 714 = .ok (.invokevirtual 101, 3)) ∧ (decode code 717 = .ok (.pop, 1)) ∧ (decode code 718 = .ok (.goto 465, 3)) ∧ (decode code 721 = .ok (.aload_n 1, 1)) ∧ (decode code 722 = .ok (.aload_n 0, 1)) ∧ (decode code 723 = .ok (.iload_n 3, 1)) := by decide +kernel
theorem d225_702 : decode code 702 = .ok (.iadd, 1) := dd225_702.1
theorem d225_703 : decode code 703 = .ok (.iaload, 1) := dd225_702.2.1
theorem d225_704 : decode code 704 = .ok (.invokevirtual 98, 3) := dd225_702.2.2.1
theorem d225_707 : decode code 707 = .ok (.pop, 1) := dd225_702.2.2.2.1
theorem d225_708 : decode code 708 = .ok (.aload_n 2, 1) := dd225_702.2.2.2.2.1
theorem d225_709 : decode code 709 = .ok (.aload_n 0, 1) := dd225_702.2.2.2.2.2.1
theorem d225_710 : decode code 710 = .ok (.iload_n 3, 1) := dd225_702.2.2.2.2.2.2.1
theorem d225_711 : decode code 711 = .ok (.iconst 1, 1) := dd225_702.2.2.2.2.2.2.2.1
theorem d225_712 : decode code 712 = .ok (.iadd, 1) := dd225_702.2.2.2.2.2.2.2.2.1
theorem d225_713 : decode code 713 = .ok (.iaload, 1) := dd225_702.2.2.2.2.2.2.2.2.2.1
theorem d225_714 : decode code 714 = .ok (.invokevirtual 101, 3) := dd225_702.2.2.2.2.2.2.2.2.2.2.1
theorem d225_717 : decode code 717 = .ok (.pop, 1) := dd225_702.2.2.2.2.2.2.2.2.2.2.2.1
theorem d225_718 : decode code 718 = .ok (.goto 465, 3) := dd225_702.2.2.2.2.2.2.2.2.2.2.2.2.1
theorem d225_721 : decode code 721 = .ok (.aload_n 1, 1) := dd225_702.2.2.2.2.2.2.2.2.2.2.2.2.2.1
theorem d225_722 : decode code 722 = .ok (.aload_n 0, 1) := dd225_702.2.2.2.2.2.2.2.2.2.2.2.2.2.2.1
theorem d225_723 : decode code 723 = .ok (.iload_n 3, 1) := dd225_702.2.2.2.2.2.2.2.2.2.2.2.2.2.2.2
theorem dd225_724 : (decode code 724 = .ok (.iconst 1, 1)) ∧ (decode code 725 = .ok (.iadd, 1)) ∧ (decode code 726 = .ok (.iaload, 1)) ∧ (decode code 727 = .ok (.aload_n 0, 1)) ∧ (decode code 728 = .ok (.iload_n 3, 1)) ∧ (decode code 729 = .ok (.iconst 2, 1)) ∧ (decode code 730 = .ok (.iadd, 1)) ∧ (decode code 731 = .ok (.iaload, 1)) ∧ (decode code 732 = .ok (.invokevirtual 102, 3)) ∧ (decode code 735 = .ok (.pop2, 1)) ∧ (decode code 736 = .ok (.aload_n 2, 1)) ∧ (decode code 737 = .ok (.aload_n 0, 1)) ∧ (decode code 738 = .ok (.iload_n 3, 1)) ∧ (decode code 739 = .ok (.iconst 1, 1)) ∧ (decode code 740 = .ok (.iadd, 1)) ∧ (decode code 741 = .ok (.iaload, 1)) := by decide +kernel
theorem d225_724 : decode code 724 = .ok (.iconst 1, 1) := dd225_724.1
theorem d225_725 : decode code 725 = .ok (.iadd, 1) := dd225_724.2.1
theorem d225_726 : decode code 726 = .ok (.iaload, 1) := dd225_724.2.2.1
theorem d225_727 : decode code 727 = .ok (.aload_n 0, 1) := dd225_724.2.2.2.1
theorem d225_728 : decode code 728 = .ok (.iload_n 3, 1) := dd225_724.2.2.2.2.1
theorem d225_729 : decode code 729 = .ok (.iconst 2, 1) := dd225_724.2.2.2.2.2.1
theorem d225_730 : decode code 730 = .ok (.iadd, 1) := dd225_724.2.2.2.2.2.2.1
theorem d225_731 : decode code 731 = .ok (.iaload, 1) := dd225_724.2.2.2.2.2.2.2.1
theorem d225_732 : decode code 732 = .ok (.invokevirtual 102, 3) := dd225_724.2.2.2.2.2.2.2.2.1
theorem d225_735 : decode code 735 = .ok (.pop2, 1) := dd225_724.2.2.2.2.2.2.2.2.2.1
theorem d225_736 : decode code 736 = .ok (.aload_n 2, 1) := dd225_724.2.2.2.2.2.2.2.2.2.2.1
theorem d225_737 : decode code 737 = .ok (.aload_n 0, 1) := dd225_724.2.2.2.2.2.2.2.2.2.2.2.1
theorem d225_738 : decode code 738 = .ok (.iload_n 3, 1) := dd225_724.2.2.2.2.2.2.2.2.2.2.2.2.1
theorem d225_739 : decode code 739 = .ok (.iconst 1, 1) := dd225_724.2.2.2.2.2.2.2.2.2.2.2.2.2.1
theorem d225_740 : decode code 740 = .ok (.iadd, 1) := dd225_724.2.2.2.2.2.2.2.2.2.2.2.2.2.2.1
theorem d225_741 : decode code 741 = .ok (.iaload, 1) := dd225_724.2.2.2.2.2.2.2.2.2.2.2.2.2.2.2
theorem dd225_742 : (decode code 742 = .ok (.aload_n 0, 1)) ∧ (decode code 743 = .ok (.iload_n 3, 1)) ∧ (decode code 744 = .ok (.iconst 2, 1)) ∧ (decode code 745 = .ok (.iadd, 1)) ∧ (decode code 746 = .ok (.iaload, 1)) ∧ (decode code 747 = .ok (.invokevirtual 106, 3)) ∧ (decode code 750 = .ok (.pop2, 1)) ∧ (decode code 751 = .ok (.goto 432, 3)) ∧ (decode code 754 = .ok (.aload_n 1, 1)) ∧ (decode code 755 = .ok (.aload_n 0, 1)) ∧ (decode code 756 = .ok (.iload_n 3, 1)) ∧ (decode code 757 = .ok (.iconst 1, 1)) ∧ (decode code 758 = .ok (.iadd, 1)) ∧ (decode code 759 = .ok (.iaload, 1)) ∧ (decode code 760 = .ok (.invokevirtual 107, 3)) ∧ (decode code 763 = .ok (.pop, 1)) := by decide +kernel
theorem d225_742 : decode code 742 = .ok (.aload_n 0, 1) := dd225_742.1
theorem d225_743 : decode code 743 = .ok (.iload_n 3, 1) := dd225_742.2.1
theorem d225_744 : decode code 744 = .ok (.iconst 2, 1) := dd225_742.2.2.1
theorem d225_745 : decode code 745 = .ok (.iadd, 1) := dd225_742.2.2.2.1
theorem d225_746 : decode code 746 = .ok (.iaload, 1) := dd225_742.2.2.2.2.1
theorem d225_747 : decode code 747 = .ok (.invokevirtual 106, 3) := dd225_742.2.2.2.2.2.1
theorem d225_750 : decode code 750 = .ok (.pop2, 1) := dd225_742.2.2.2.2.2.2.1
theorem d225_751 : decode code 751 = .ok (.goto 432, 3) := dd225_742.2.2.2.2.2.2.2.1
theorem d225_754 : decode code 754 = .ok (.aload_n 1, 1) := dd225_742.2.2.2.2.2.2.2.2.1
theorem d225_755 : decode code 755 = .ok (.aload_n 0, 1) := dd225_742.2.2.2.2.2.2.2.2.2.1
theorem d225_756 : decode code 756 = .ok (.iload_n 3, 1) := dd225_742.2.2.2.2.2.2.2.2.2.2.1
theorem d225_757 : decode code 757 = .ok (.iconst 1, 1) := dd225_742.2.2.2.2.2.2.2.2.2.2.2.1
theorem d225_758 : decode code 758 = .ok (.iadd, 1) := dd225_742.2.2.2.2.2.2.2.2.2.2.2.2.1
theorem d225_759 : decode code 759 = .ok (.iaload, 1) := dd225_742.2.2.2.2.2.2.2.2.2.2.2.2.2.1
theorem d225_760 : decode code 760 = .ok (.invokevirtual 107, 3) := dd225_742.2.2.2.2.2.2.2.2.2.2.2.2.2.2.1
theorem d225_763 : decode code 763 = .ok (.pop, 1) := dd225_742.2.2.2.2.2.2.2.2.2.2.2.2.2.2.2
theorem dd225_764 : (decode code 764 = .ok (.aload_n 2, 1)) ∧ (decode code 765 = .ok (.aload_n 0, 1)) ∧ (decode code 766 = .ok (.iload_n 3, 1)) ∧ (decode code 767 = .ok (.iconst 1, 1)) ∧ (decode code 768 = .ok (.iadd, 1)) ∧ (decode code 769 = .ok (.iaload, 1)) ∧ (decode code 770 = .ok (.invokevirtual 110, 3)) ∧ (decode code 773 = .ok (.pop, 1)) ∧ (decode code 774 = .ok (.goto 409, 3)) ∧ (decode code 777 = .ok (.aload_n 1, 1)) ∧ (decode code 778 = .ok (.invokevirtual 111, 3)) ∧ (decode code 781 = .ok (.pop, 1)) ∧ (decode code 782 = .ok (.aload_n 2, 1)) ∧ (decode code 783 = .ok (.invokevirtual 114, 3)) ∧ (decode code 786 = .ok (.pop, 1)) ∧ (decode code 787 = .ok (.goto 396, 3)) := by decide +kernel
theorem d225_764 : decode code 764 = .ok (.aload_n 2, 1) := dd225_764.1
theorem d225_765 : decode code 765 = .ok (.aload_n 0, 1) := dd225_764.2.1
theorem d225_766 : decode code 766 = .ok (.iload_n 3, 1) := dd225_764.2.2.1
theorem d225_767 : decode code 767 = .ok (.iconst 1, 1) := dd225_764.2.2.2.1
theorem d225_768 : decode code 768 = .ok (.iadd, 1) := dd225_764.2.2.2.2.1
theorem d225_769 : decode code 769 = .ok (.iaload, 1) := dd225_764.2.2.2.2.2.1
theorem d225_770 : decode code 770 = .ok (.invokevirtual 110, 3) := dd225_764.2.2.2.2.2.2.1
theorem d225_773 : decode code 773 = .ok (.pop, 1) := dd225_764.2.2.2.2.2.2.2.1
theorem d225_774 : decode code 774 = .ok (.goto 409, 3) := dd225_764.2.2.2.2.2.2.2.2.1
theorem d225_777 : decode code 777 = .ok (.aload_n 1, 1) := dd225_764.2.2.2.2.2.2.2.2.2.1
theorem d225_778 : decode code 778 = .ok (.invokevirtual 111, 3) := dd225_764.2.2.2.2.2.2.2.2.2.2.1
theorem d225_781 : decode code 781 = .ok (.pop, 1) := dd225_764.2.2.2.2.2.2.2.2.2.2.2.1
theorem d225_782 : decode code 782 = .ok (.aload_n 2, 1) := dd225_764.2.2.2.2.2.2.2.2.2.2.2.2.1
theorem d225_783 : decode code 783 = .ok (.invokevirtual 114, 3) := dd225_764.2.2.2.2.2.2.2.2.2.2.2.2.2.1
theorem d225_786 : decode code 786 = .ok (.pop, 1) := dd225_764.2.2.2.2.2.2.2.2.2.2.2.2.2.2.1
theorem d225_787 : decode code 787 = .ok (.goto 396, 3) := dd225_764.2.2.2.2.2.2.2.2.2.2.2.2.2.2.2
theorem dd225_790 : (decode code 790 = .ok (.aload_n 1, 1)) ∧ (decode code 791 = .ok (.aload_n 0, 1)) ∧ (decode code 792 = .ok (.iload_n 3, 1)) ∧ (decode code 793 = .ok (.iconst 1, 1)) ∧ (decode code 794 = .ok (.iadd, 1)) ∧ (decode code 795 = .ok (.iaload, 1)) ∧ (decode code 796 = .ok (.aload_n 0, 1)) ∧ (decode code 797 = .ok (.iload_n 3, 1)) ∧ (decode code 798 = .ok (.iconst 2, 1)) ∧ (decode code 799 = .ok (.iadd, 1)) ∧ (decode code 800 = .ok (.iaload, 1)) ∧ (decode code 801 = .ok (.invokevirtual 115, 3)) ∧ (decode code 804 = .ok (.pop, 1)) ∧ (decode code 805 = .ok (.aload_n 2, 1)) ∧ (decode code 806 = .ok (.aload_n 0, 1)) ∧ (decode code 807 = .ok (.iload_n 3, 1)) := by decide +kernel
theorem d225_790 : decode code 790 = .ok (.aload_n 1, 1) := dd225_790.1
theorem d225_791 : decode code 791 = .ok (.aload_n 0, 1) := dd225_790.2.1
theorem d225_792 : decode code 792 = .ok (.iload_n 3, 1) := dd225_790.2.2.1
theorem d225_793 : decode code 793 = .ok (.iconst 1, 1) := dd225_790.2.2.2.1
theorem d225_794 : decode code 794 = .ok (.iadd, 1) := dd225_790.2.2.2.2.1
theorem d225_795 : decode code 795 = .ok (.iaload, 1) := dd225_790.2.2.2.2.2.1
theorem d225_796 : decode code 796 = .ok (.aload_n 0, 1) := dd225_790.2.2.2.2.2.2.1
theorem d225_797 : decode code 797 = .ok (.iload_n 3, 1) := dd225_790.2.2.2.2.2.2.2.1
theorem d225_798 : decode code 798 = .ok (.iconst 2, 1) := dd225_790.2.2.2.2.2.2.2.2.1
theorem d225_799 : decode code 799 = .ok (.iadd, 1) := dd225_790.2.2.2.2.2.2.2.2.2.1
theorem d225_800 : decode code 800 = .ok (.iaload, 1) := dd225_790.2.2.2.2.2.2.2.2.2.2.1
theorem d225_801 : decode code 801 = .ok (.invokevirtual 115, 3) := dd225_790.2.2.2.2.2.2.2.2.2.2.2.1
theorem d225_804 : decode code 804 = .ok (.pop, 1) := dd225_790.2.2.2.2.2.2.2.2.2.2.2.2.1
theorem d225_805 : decode code 805 = .ok (.aload_n 2, 1) := dd225_790.2.2.2.2.2.2.2.2.2.2.2.2.2.1
theorem d225_806 : decode code 806 = .ok (.aload_n 0, 1) := dd225_790.2.2.2.2.2.2.2.2.2.2.2.2.2.2.1
theorem d225_807 : decode code 807 = .ok (.iload_n 3, 1) := dd225_790.2.2.2.2.2.2.2.2.2.2.2.2.2.2.2
theorem dd225_808 : (decode code 808 = .ok (.iconst 1, 1)) ∧ (decode code 809 = .ok (.iadd, 1)) ∧ (decode code 810 = .ok (.iaload, 1)) ∧ (decode code 811 = .ok (.aload_n 0, 1)) ∧ (decode code 812 = .ok (.iload_n 3, 1)) ∧ (decode code 813 = .ok (.iconst 2, 1)) ∧ (decode code 814 = .ok (.iadd, 1)) ∧ (decode code 815 = .ok (.iaload, 1)) ∧ (decode code 816 = .ok (.invokevirtual 118, 3)) ∧ (decode code 819 = .ok (.pop, 1)) ∧ (decode code 820 = .ok (.goto 363, 3)) ∧ (decode code 823 = .ok (.aload_n 1, 1)) ∧ (decode code 824 = .ok (.invokevirtual 119, 3)) ∧ (decode code 827 = .ok (.pop, 1)) ∧ (decode code 828 = .ok (.aload_n 2, 1)) ∧ (decode code 829 = .ok (.invokevirtual 122, 3)) := by decide +kernel
theorem d225_808 : decode code 808 = .ok (.iconst 1, 1) := dd225_808.1
theorem d225_809 : decode code 809 = .ok (.iadd, 1) := dd225_808.2.1
theorem d225_810 : decode code 810 = .ok (.iaload, 1) := dd225_808.2.2.1
theorem d225_811 : decode code 811 = .ok (.aload_n 0, 1) := dd225_808.2.2.2.1
theorem d225_812 : decode code 812 = .ok (.iload_n 3, 1) := dd225_808.2.2.2.2.1
theorem d225_813 : decode code 813 = .ok (.iconst 2, 1) := dd225_808.2.2.2.2.2.1
theorem d225_814 : decode code 814 = .ok (.iadd, 1) := dd225_808.2.2.2.2.2.2.1
theorem d225_815 : decode code 815 = .ok (.iaload, 1) := dd225_808.2.2.2.2.2.2.2.1
theorem d225_816 : decode code 816 = .ok (.invokevirtual 118, 3) := dd225_808.2.2.2.2.2.2.2.2.1
theorem d225_819 : decode code 819 = .ok (.pop, 1) := dd225_808.2.2.2.2.2.2.2.2.2.1
theorem d225_820 : decode code 820 = .ok (.goto 363, 3) := dd225_808.2.2.2.2.2.2.2.2.2.2.1
theorem d225_823 : decode code 823 = .ok (.aload_n 1, 1) := dd225_808.2.2.2.2.2.2.2.2.2.2.2.1
theorem d225_824 : decode code 824 = .ok (.invokevirtual 119, 3) := dd225_808.2.2.2.2.2.2.2.2.2.2.2.2.1
theorem d225_827 : decode code 827 = .ok (.pop, 1) := dd225_808.2.2.2.2.2.2.2.2.2.2.2.2.2.1
theorem d225_828 : decode code 828 = .ok (.aload_n 2, 1) := dd225_808.2.2.2.2.2.2.2.2.2.2.2.2.2.2.1
theorem d225_829 : decode code 829 = .ok (.invokevirtual 122, 3) := dd225_808.2.2.2.2.2.2.2.2.2.2.2.2.2.2.2
theorem dd225_832 : (decode code 832 = .ok (.pop, 1)) ∧ (decode code 833 = .ok (.goto 350, 3)) ∧ (decode code 836 = .ok (.aload_n 1, 1)) ∧ (decode code 837 = .ok (.invokevirtual 123, 3)) ∧ (decode code 840 = .ok (.pop, 1)) ∧ (decode code 841 = .ok (.aload_n 2, 1)) ∧ (decode code 842 = .ok (.invokevirtual 126, 3)) ∧ (decode code 845 = .ok (.pop, 1)) ∧ (decode code 846 = .ok (.goto 337, 3)) ∧ (decode code 849 = .ok (.aload_n 1, 1)) ∧ (decode code 850 = .ok (.aload_n 0, 1)) ∧ (decode code 851 = .ok (.iload_n 3, 1)) ∧ (decode code 852 = .ok (.iconst 1, 1)) ∧ (decode code 853 = .ok (.iadd, 1)) ∧ (decode code 854 = .ok (.iaload, 1)) ∧ (decode code 855 = .ok (.aload_n 0, 1)) := by decide +kernel
theorem d225_832 : decode code 832 = .ok (.pop, 1) := dd225_832.1
theorem d225_833 : decode code 833 = .ok (.goto 350, 3) := dd225_832.2.1
theorem d225_836 : decode code 836 = .ok (.aload_n 1, 1) := dd225_832.2.2.1
theorem d225_837 : decode code 837 = .ok (.invokevirtual 123, 3) := dd225_832.2.2.2.1
theorem d225_840 : decode code 840 = .ok (.pop, 1) := dd225_832.2.2.2.2.1
theorem d225_841 : decode code 841 = .ok (.aload_n 2, 1) := dd225_832.2.2.2.2.2.1
theorem d225_842 : decode code 842 = .ok (.invokevirtual 126, 3) := dd225_832.2.2.2.2.2.2.1
theorem d225_845 : decode code 845 = .ok (.pop, 1) := dd225_832.2.2.2.2.2.2.2.1
theorem d225_846 : decode code 846 = .ok (.goto 337, 3) := dd225_832.2.2.2.2.2.2.2.2.1
theorem d225_849 : decode code 849 = .ok (.aload_n 1, 1) := dd225_832.2.2.2.2.2.2.2.2.2.1
theorem d225_850 : decode code 850 = .ok (.aload_n 0, 1) := dd225_832.2.2.2.2.2.2.2.2.2.2.1
theorem d225_851 : decode code 851 = .ok (.iload_n 3, 1) := dd225_832.2.2.2.2.2.2.2.2.2.2.2.1
theorem d225_852 : decode code 852 = .ok (.iconst 1, 1) := dd225_832.2.2.2.2.2.2.2.2.2.2.2.2.1
theorem d225_853 : decode code 853 = .ok (.iadd, 1) := dd225_832.2.2.2.2.2.2.2.2.2.2.2.2.2.1
theorem d225_854 : decode code 854 = .ok (.iaload, 1) := dd225_832.2.2.2.2.2.2.2.2.2.2.2.2.2.2.1
theorem d225_855 : decode code 855 = .ok (.aload_n 0, 1) := dd225_832.2.2.2.2.2.2.2.2.2.2.2.2.2.2.2
theorem dd225_856 : (decode code 856 = .ok (.iload_n 3, 1)) ∧ (decode code 857 = .ok (.iconst 2, 1)) ∧ (decode code 858 = .ok (.iadd, 1)) ∧ (decode code 859 = .ok (.iaload, 1)) ∧ (decode code 860 = .ok (.aload_n 0, 1)) ∧ (decode code 861 = .ok (.iload_n 3, 1)) ∧ (decode code 862 = .ok (.iconst 3, 1)) ∧ (decode code 863 = .ok (.iadd, 1)) ∧ (decode code 864 = .ok (.iaload, 1)) ∧ (decode code 865 = .ok (.invokevirtual 127, 3)) ∧ (decode code 868 = .ok (.pop, 1)) ∧ (decode code 869 = .ok (.aload_n 2, 1)) ∧ (decode code 870 = .ok (.aload_n 0, 1)) ∧ (decode code 871 = .ok (.iload_n 3, 1)) ∧ (decode code 872 = .ok (.iconst 1, 1)) ∧ (decode code 873 = .ok (.iadd, 1)) := by decide +kernel
theorem d225_856 : decode code 856 = .ok (.iload_n 3, 1) := dd225_856.1
theorem d225_857 : decode code 857 = .ok (.iconst 2, 1) := dd225_856.2.1
theorem d225_858 : decode code 858 = .ok (.iadd, 1) := dd225_856.2.2.1
theorem d225_859 : decode code 859 = .ok (.iaload, 1) := dd225_856.2.2.2.1
theorem d225_860 : decode code 860 = .ok (.aload_n 0, 1) := dd225_856.2.2.2.2.1
theorem d225_861 : decode code 861 = .ok (.iload_n 3, 1) := dd225_856.2.2.2.2.2.1
theorem d225_862 : decode code 862 = .ok (.iconst 3, 1) := dd225_856.2.2.2.2.2.2.1
theorem d225_863 : decode code 863 = .ok (.iadd, 1) := dd225_856.2.2.2.2.2.2.2.1
theorem d225_864 : decode code 864 = .ok (.iaload, 1) := dd225_856.2.2.2.2.2.2.2.2.1
theorem d225_865 : decode code 865 = .ok (.invokevirtual 127, 3) := dd225_856.2.2.2.2.2.2.2.2.2.1
theorem d225_868 : decode code 868 = .ok (.pop, 1) := dd225_856.2.2.2.2.2.2.2.2.2.2.1
theorem d225_869 : decode code 869 = .ok (.aload_n 2, 1) := dd225_856.2.2.2.2.2.2.2.2.2.2.2.1
theorem d225_870 : decode code 870 = .ok (.aload_n 0, 1) := dd225_856.2.2.2.2.2.2.2.2.2.2.2.2.1
theorem d225_871 : decode code 871 = .ok (.iload_n 3, 1) := dd225_856.2.2.2.2.2.2.2.2.2.2.2.2.2.1
theorem d225_872 : decode code 872 = .ok (.iconst 1, 1) := dd225_856.2.2.2.2.2.2.2.2.2.2.2.2.2.2.1
theorem d225_873 : decode code 873 = .ok (.iadd, 1) := dd225_856.2.2.2.2.2.2.2.2.2.2.2.2.2.2.2
theorem dd225_874 : (decode code 874 = .ok (.iaload, 1)) ∧ (decode code 875 = .ok (.aload_n 0, 1)) ∧ (decode code 876 = .ok (.iload_n 3, 1)) ∧ (decode code 877 = .ok (.iconst 2, 1)) ∧ (decode code 878 = .ok (.iadd, 1)) ∧ (decode code 879 = .ok (.iaload, 1)) ∧ (decode code 880 = .ok (.aload_n 0, 1)) ∧ (decode code 881 = .ok (.iload_n 3, 1)) ∧ (decode code 882 = .ok (.iconst 3, 1)) ∧ (decode code 883 = .ok (.iadd, 1)) ∧ (decode code 884 = .ok (.iaload, 1)) ∧ (decode code 885 = .ok (.invokevirtual 130, 3)) ∧ (decode code 888 = .ok (.pop, 1)) ∧ (decode code 889 = .ok (.goto 294, 3)) ∧ (decode code 892 = .ok (.aload_n 1, 1)) ∧ (decode code 893 = .ok (.aload_n 0, 1)) := by decide +kernel
theorem d225_874 : decode code 874 = .ok (.iaload, 1) := dd225_874.1
theorem d225_875 : decode code 875 = .ok (.aload_n 0, 1) := dd225_874.2.1
theorem d225_876 : decode code 876 = .ok (.iload_n 3, 1) := dd225_874.2.2.1
theorem d225_877 : decode code 877 = .ok (.iconst 2, 1) := dd225_874.2.2.2.1
theorem d225_878 : decode code 878 = .ok (.iadd, 1) := dd225_874.2.2.2.2.1
theorem d225_879 : decode code 879 = .ok (.iaload, 1) := dd225_874.2.2.2.2.2.1
theorem d225_880 : decode code 880 = .ok (.aload_n 0, 1) := dd225_874.2.2.2.2.2.2.1
theorem d225_881 : decode code 881 = .ok (.iload_n 3, 1) := dd225_874.2.2.2.2.2.2.2.1
theorem d225_882 : decode code 882 = .ok (.iconst 3, 1) := dd225_874.2.2.2.2.2.2.2.2.1
theorem d225_883 : decode code 883 = .ok (.iadd, 1) := dd225_874.2.2.2.2.2.2.2.2.2.1
theorem d225_884 : decode code 884 = .ok (.iaload, 1) := dd225_874.2.2.2.2.2.2.2.2.2.2.1
theorem d225_885 : decode code 885 = .ok (.invokevirtual 130, 3) := dd225_874.2.2.2.2.2.2.2.2.2.2.2.1
theorem d225_888 : decode code 888 = .ok (.pop, 1) := dd225_874.2.2.2.2.2.2.2.2.2.2.2.2.1
theorem d225_889 : decode code 889 = .ok (.goto 294, 3) := dd225_874.2.2.2.2.2.2.2.2.2.2.2.2.2.1
theorem d225_892 : decode code 892 = .ok (.aload_n 1, 1) := dd225_874.2.2.2.2.2.2.2.2.2.2.2.2.2.2.1
theorem d225_893 : decode code 893 = .ok (.aload_n 0, 1) := dd225_874.2.2.2.2.2.2.2.2.2.2.2.2.2.2.2
theorem dd225_894 : (decode code 894 = .ok (.iload_n 3, 1)) ∧ (decode code 895 = .ok (.iconst 1, 1)) ∧ (decode code 896 = .ok (.iadd, 1)) ∧ (decode code 897 = .ok (.iaload, 1)) ∧ (decode code 898 = .ok (.invokevirtual 131, 3)) ∧ (decode code 901 = .ok (.pop, 1)) ∧ (decode code 902 = .ok (.aload_n 2, 1)) ∧ (decode code 903 = .ok (.aload_n 0, 1)) ∧ (decode code 904 = .ok (.iload_n 3, 1)) ∧ (decode code 905 = .ok (.iconst 1, 1)) ∧ (decode code 906 = .ok (.iadd, 1)) ∧ (decode code 907 = .ok (.iaload, 1)) ∧ (decode code 908 = .ok (.invokevirtual 134, 3)) ∧ (decode code 911 = .ok (.pop, 1)) ∧ (decode code 912 = .ok (.goto 271, 3)) ∧ (decode code 915 = .ok (.aload_n 1, 1)) := by decide +kernel
theorem d225_894 : decode code 894 = .ok (.iload_n 3, 1) := dd225_894.1
theorem d225_895 : decode code 895 = .ok (.iconst 1, 1) := dd225_894.2.1
theorem d225_896 : decode code 896 = .ok (.iadd, 1) := dd225_894.2.2.1
theorem d225_897 : decode code 897 = .ok (.iaload, 1) := dd225_894.2.2.2.1
theorem d225_898 : decode code 898 = .ok (.invokevirtual 131, 3) := dd225_894.2.2.2.2.1
theorem d225_901 : decode code 901 = .ok (.pop, 1) := dd225_894.2.2.2.2.2.1
theorem d225_902 : decode code 902 = .ok (.aload_n 2, 1) := dd225_894.2.2.2.2.2.2.1
theorem d225_903 : decode code 903 = .ok (.aload_n 0, 1) := dd225_894.2.2.2.2.2.2.2.1
theorem d225_904 : decode code 904 = .ok (.iload_n 3, 1) := dd225_894.2.2.2.2.2.2.2.2.1
theorem d225_905 : decode code 905 = .ok (.iconst 1, 1) := dd225_894.2.2.2.2.2.2.2.2.2.1
theorem d225_906 : decode code 906 = .ok (.iadd, 1) := dd225_894.2.2.2.2.2.2.2.2.2.2.1
theorem d225_907 : decode code 907 = .ok (.iaload, 1) := dd225_894.2.2.2.2.2.2.2.2.2.2.2.1
theorem d225_908 : decode code 908 = .ok (.invokevirtual 134, 3) := dd225_894.2.2.2.2.2.2.2.2.2.2.2.2.1
theorem d225_911 : decode code 911 = .ok (.pop, 1) := dd225_894.2.2.2.2.2.2.2.2.2.2.2.2.2.1
theorem d225_912 : decode code 912 = .ok (.goto 271, 3) := dd225_894.2.2.2.2.2.2.2.2.2.2.2.2.2.2.1
theorem d225_915 : decode code 915 = .ok (.aload_n 1, 1) := dd225_894.2.2.2.2.2.2.2.2.2.2.2.2.2.2.2
theorem dd225_916 : (decode code 916 = .ok (.aload_n 0, 1)) ∧ (decode code 917 = .ok (.iload_n 3, 1)) ∧ (decode code 918 = .ok (.iconst 1, 1)) ∧ (decode code 919 = .ok (.iadd, 1)) ∧ (decode code 920 = .ok (.iaload, 1)) ∧ (decode code 921 = .ok (.aload_n 0, 1)) ∧ (decode code 922 = .ok (.iload_n 3, 1)) ∧ (decode code 923 = .ok (.iconst 2, 1)) ∧ (decode code 924 = .ok (.iadd, 1)) ∧ (decode code 925 = .ok (.iaload, 1)) ∧ (decode code 926 = .ok (.invokevirtual 135, 3)) ∧ (decode code 929 = .ok (.pop, 1)) ∧ (decode code 930 = .ok (.aload_n 2, 1)) ∧ (decode code 931 = .ok (.aload_n 0, 1)) ∧ (decode code 932 = .ok (.iload_n 3, 1)) ∧ (decode code 933 = .ok (.iconst 1, 1)) := by decide +kernel
theorem d225_916 : decode code 916 = .ok (.aload_n 0, 1) := dd225_916.1
theorem d225_917 : decode code 917 = .ok (.iload_n 3, 1) := dd225_916.2.1
theorem d225_918 : decode code 918 = .ok (.iconst 1, 1) := dd225_916.2.2.1
theorem d225_919 : decode code 919 = .ok (.iadd, 1) := dd225_916.2.2.2.1
theorem d225_920 : decode code 920 = .ok (.iaload, 1) := dd225_916.2.2.2.2.1
theorem d225_921 : decode code 921 = .ok (.aload_n 0, 1) := dd225_916.2.2.2.2.2.1
theorem d225_922 : decode code 922 = .ok (.iload_n 3, 1) := dd225_916.2.2.2.2.2.2.1
theorem d225_923 : decode code 923 = .ok (.iconst 2, 1) := dd225_916.2.2.2.2.2.2.2.1
theorem d225_924 : decode code 924 = .ok (.iadd, 1) := dd225_916.2.2.2.2.2.2.2.2.1
theorem d225_925 : decode code 925 = .ok (.iaload, 1) := dd225_916.2.2.2.2.2.2.2.2.2.1
theorem d225_926 : decode code 926 = .ok (.invokevirtual 135, 3) := dd225_916.2.2.2.2.2.2.2.2.2.2.1
theorem d225_929 : decode code 929 = .ok (.pop, 1) := dd225_916.2.2.2.2.2.2.2.2.2.2.2.1
theorem d225_930 : decode code 930 = .ok (.aload_n 2, 1) := dd225_916.2.2.2.2.2.2.2.2.2.2.2.2.1
theorem d225_931 : decode code 931 = .ok (.aload_n 0, 1) := dd225_916.2.2.2.2.2.2.2.2.2.2.2.2.2.1
theorem d225_932 : decode code 932 = .ok (.iload_n 3, 1) := dd225_916.2.2.2.2.2.2.2.2.2.2.2.2.2.2.1
theorem d225_933 : decode code 933 = .ok (.iconst 1, 1) := dd225_916.2.2.2.2.2.2.2.2.2.2.2.2.2.2.2
theorem dd225_934 : (decode code 934 = .ok (.iadd, 1)) ∧ (decode code 935 = .ok (.iaload, 1)) ∧ (decode code 936 = .ok (.aload_n 0, 1)) ∧ (decode code 937 = .ok (.iload_n 3, 1)) ∧ (decode code 938 = .ok (.iconst 2, 1)) ∧ (decode code 939 = .ok (.iadd, 1)) ∧ (decode code 940 = .ok (.iaload, 1)) ∧ (decode code 941 = .ok (.invokevirtual 138, 3)) ∧ (decode code 944 = .ok (.pop, 1)) ∧ (decode code 945 = .ok (.goto 238, 3)) ∧ (decode code 948 = .ok (.aload_n 1, 1)) ∧ (decode code 949 = .ok (.aload_n 0, 1)) ∧ (decode code 950 = .ok (.iload_n 3, 1)) ∧ (decode code 951 = .ok (.iconst 1, 1)) ∧ (decode code 952 = .ok (.iadd, 1)) ∧ (decode code 953 = .ok (.iaload, 1)) := by decide +kernel
theorem d225_934 : decode code 934 = .ok (.iadd, 1) := dd225_934.1
theorem d225_935 : decode code 935 = .ok (.iaload, 1) := dd225_934.2.1
theorem d225_936 : decode code 936 = .ok (.aload_n 0, 1) := dd225_934.2.2.1
theorem d225_937 : decode code 937 = .ok (.iload_n 3, 1) := dd225_934.2.2.2.1
theorem d225_938 : decode code 938 = .ok (.iconst 2, 1) := dd225_934.2.2.2.2.1
theorem d225_939 : decode code 939 = .ok (.iadd, 1) := dd225_934.2.2.2.2.2.1
theorem d225_940 : decode code 940 = .ok (.iaload, 1) := dd225_934.2.2.2.2.2.2.1
theorem d225_941 : decode code 941 = .ok (.invokevirtual 138, 3) := dd225_934.2.2.2.2.2.2.2.1
theorem d225_944 : decode code 944 = .ok (.pop, 1) := dd225_934.2.2.2.2.2.2.2.2.1
theorem d225_945 : decode code 945 = .ok (.goto 238, 3) := dd225_934.2.2.2.2.2.2.2.2.2.1
theorem d225_948 : decode code 948 = .ok (.aload_n 1, 1) := dd225_934.2.2.2.2.2.2.2.2.2.2.1
theorem d225_949 : decode code 949 = .ok (.aload_n 0, 1) := dd225_934.2.2.2.2.2.2.2.2.2.2.2.1
theorem d225_950 : decode code 950 = .ok (.iload_n 3, 1) := dd225_934.2.2.2.2.2.2.2.2.2.2.2.2.1
theorem d225_951 : decode code 951 = .ok (.iconst 1, 1) := dd225_934.2.2.2.2.2.2.2.2.2.2.2.2.2.1
theorem d225_952 : decode code 952 = .ok (.iadd, 1) := dd225_934.2.2.2.2.2.2.2.2.2.2.2.2.2.2.1
theorem d225_953 : decode code 953 = .ok (.iaload, 1) := dd225_934.2.2.2.2.2.2.2.2.2.2.2.2.2.2.2
theorem dd225_954 : (decode code 954 = .ok (.invokevirtual 139, 3)) ∧ (decode code 957 = .ok (.pop, 1)) ∧ (decode code 958 = .ok (.aload_n 2, 1)) ∧ (decode code 959 = .ok (.aload_n 0, 1)) ∧ (decode code 960 = .ok (.iload_n 3, 1)) ∧ (decode code 961 = .ok (.iconst 1, 1)) ∧ (decode code 962 = .ok (.iadd, 1)) ∧ (decode code 963 = .ok (.iaload, 1)) ∧ (decode code 964 = .ok (.invokevirtual 142, 3)) ∧ (decode code 967 = .ok (.pop, 1)) ∧ (decode code 968 = .ok (.goto 215, 3)) ∧ (decode code 971 = .ok (.aload_n 1, 1)) ∧ (decode code 972 = .ok (.aload_n 0, 1)) ∧ (decode code 973 = .ok (.iload_n 3, 1)) ∧ (decode code 974 = .ok (.iconst 1, 1)) ∧ (decode code 975 = .ok (.iadd, 1)) := by decide +kernel
theorem d225_954 : decode code 954 = .ok (.invokevirtual 139, 3) := dd225_954.1
theorem d225_957 : decode code 957 = .ok (.pop, 1) := dd225_954.2.1
theorem d225_958 : decode code 958 = .ok (.aload_n 2, 1) := dd225_954.2.2.1
theorem d225_959 : decode code 959 = .ok (.aload_n 0, 1) := dd225_954.2.2.2.1
theorem d225_960 : decode code 960 = .ok (.iload_n 3, 1) := dd225_954.2.2.2.2.1
theorem d225_961 : decode code 961 = .ok (.iconst 1, 1) := dd225_954.2.2.2.2.2.1
theorem d225_962 : decode code 962 = .ok (.iadd, 1) := dd225_954.2.2.2.2.2.2.1
theorem d225_963 : decode code 963 = .ok (.iaload, 1) := dd225_954.2.2.2.2.2.2.2.1
theorem d225_964 : decode code 964 = .ok (.invokevirtual 142, 3) := dd225_954.2.2.2.2.2.2.2.2.1
theorem d225_967 : decode code 967 = .ok (.pop, 1) := dd225_954.2.2.2.2.2.2.2.2.2.1
theorem d225_968 : decode code 968 = .ok (.goto 215, 3) := dd225_954.2.2.2.2.2.2.2.2.2.2.1
theorem d225_971 : decode code 971 = .ok (.aload_n 1, 1) := dd225_954.2.2.2.2.2.2.2.2.2.2.2.1
theorem d225_972 : decode code 972 = .ok (.aload_n 0, 1) := dd225_954.2.2.2.2.2.2.2.2.2.2.2.2.1
theorem d225_973 : decode code 973 = .ok (.iload_n 3, 1) := dd225_954.2.2.2.2.2.2.2.2.2.2.2.2.2.1
theorem d225_974 : decode code 974 = .ok (.iconst 1, 1) := dd225_954.2.2.2.2.2.2.2.2.2.2.2.2.2.2.1
theorem d225_975 : decode code 975 = .ok (.iadd, 1) := dd225_954.2.2.2.2.2.2.2.2.2.2.2.2.2.2.2
theorem dd225_976 : (decode code 976 = .ok (.iaload, 1)) ∧ (decode code 977 = .ok (.aload_n 0, 1)) ∧ (decode code 978 = .ok (.iload_n 3, 1)) ∧ (decode code 979 = .ok (.iconst 2, 1)) ∧ (decode code 980 = .ok (.iadd, 1)) ∧ (decode code 981 = .ok (.iaload, 1)) ∧ (decode code 982 = .ok (.aload_n 0, 1)) ∧ (decode code 983 = .ok (.iload_n 3, 1)) ∧ (decode code 984 = .ok (.iconst 3, 1)) ∧ (decode code 985 = .ok (.iadd, 1)) ∧ (decode code 986 = .ok (.iaload, 1)) ∧ (decode code 987 = .ok (.invokevirtual 143, 3)) ∧ (decode code 990 = .ok (.pop, 1)) ∧ (decode code 991 = .ok (.aload_n 2, 1)) ∧ (decode code 992 = .ok (.aload_n 0, 1)) ∧ (decode code 993 = .ok (.iload_n 3, 1)) := by decide +kernel
theorem d225_976 : decode code 976 = .ok (.iaload, 1) := dd225_976.1
theorem d225_977 : decode code 977 = .ok (.aload_n 0, 1) := dd225_976.2.1
theorem d225_978 : decode code 978 = .ok (.iload_n 3, 1) := dd225_976.2.2.1
theorem d225_979 : decode code 979 = .ok (.iconst 2, 1) := dd225_976.2.2.2.1
theorem d225_980 : decode code 980 = .ok (.iadd, 1) := dd225_976.2.2.2.2.1
theorem d225_981 : decode code 981 = .ok (.iaload, 1) := dd225_976.2.2.2.2.2.1
theorem d225_982 : decode code 982 = .ok (.aload_n 0, 1) := dd225_976.2.2.2.2.2.2.1
theorem d225_983 : decode code 983 = .ok (.iload_n 3, 1) := dd225_976.2.2.2.2.2.2.2.1
theorem d225_984 : decode code 984 = .ok (.iconst 3, 1) := dd225_976.2.2.2.2.2.2.2.2.1
theorem d225_985 : decode code 985 = .ok (.iadd, 1) := dd225_976.2.2.2.2.2.2.2.2.2.1
theorem d225_986 : decode code 986 = .ok (.iaload, 1) := dd225_976.2.2.2.2.2.2.2.2.2.2.1
theorem d225_987 : decode code 987 = .ok (.invokevirtual 143, 3) := dd225_976.2.2.2.2.2.2.2.2.2.2.2.1
theorem d225_990 : decode code 990 = .ok (.pop, 1) := dd225_976.2.2.2.2.2.2.2.2.2.2.2.2.1
theorem d225_991 : decode code 991 = .ok (.aload_n 2, 1) := dd225_976.2.2.2.2.2.2.2.2.2.2.2.2.2.1
theorem d225_992 : decode code 992 = .ok (.aload_n 0, 1) := dd225_976.2.2.2.2.2.2.2.2.2.2.2.2.2.2.1
theorem d225_993 : decode code 993 = .ok (.iload_n 3, 1) := dd225_976.2.2.2.2.2.2.2.2.2.2.2.2.2.2.2
theorem dd225_994 : (decode code 994 = .ok (.iconst 1, 1)) ∧ (decode code 995 = .ok (.iadd, 1)) ∧ (decode code 996 = .ok (.iaload, 1)) ∧ (decode code 997 = .ok (.aload_n 0, 1)) ∧ (decode code 998 = .ok (.iload_n 3, 1)) ∧ (decode code 999 = .ok (.iconst 2, 1)) ∧ (decode code 1000 = .ok (.iadd, 1)) ∧ (decode code 1001 = .ok (.iaload, 1)) ∧ (decode code 1002 = .ok (.aload_n 0, 1)) ∧ (decode code 1003 = .ok (.iload_n 3, 1)) ∧ (decode code 1004 = .ok (.iconst 3, 1)) ∧ (decode code 1005 = .ok (.iadd, 1)) ∧ (decode code 1006 = .ok (.iaload, 1)) ∧ (decode code 1007 = .ok (.invokevirtual 146, 3)) ∧ (decode code 1010 = .ok (.pop, 1)) ∧ (decode code 1011 = .ok (.goto 172, 3)) := by decide +kernel
theorem d225_994 : decode code 994 = .ok (.iconst 1, 1) := dd225_994.1
theorem d225_995 : decode code 995 = .ok (.iadd, 1) := dd225_994.2.1
theorem d225_996 : decode code 996 = .ok (.iaload, 1) := dd225_994.2.2.1
theorem d225_997 : decode code 997 = .ok (.aload_n 0, 1) := dd225_994.2.2.2.1
theorem d225_998 : decode code 998 = .ok (.iload_n 3, 1) := dd225_994.2.2.2.2.1
theorem d225_999 : decode code 999 = .ok (.iconst 2, 1) := dd225_994.2.2.2.2.2.1
theorem d225_1000 : decode code 1000 = .ok (.iadd, 1) := dd225_994.2.2.2.2.2.2.1
theorem d225_1001 : decode code 1001 = .ok (.iaload, 1) := dd225_994.2.2.2.2.2.2.2.1
theorem d225_1002 : decode code 1002 = .ok (.aload_n 0, 1) := dd225_994.2.2.2.2.2.2.2.2.1
theorem d225_1003 : decode code 1003 = .ok (.iload_n 3, 1) := dd225_994.2.2.2.2.2.2.2.2.2.1
theorem d225_1004 : decode code 1004 = .ok (.iconst 3, 1) := dd225_994.2.2.2.2.2.2.2.2.2.2.1
theorem d225_1005 : decode code 1005 = .ok (.iadd, 1) := dd225_994.2.2.2.2.2.2.2.2.2.2.2.1
theorem d225_1006 : decode code 1006 = .ok (.iaload, 1) := dd225_994.2.2.2.2.2.2.2.2.2.2.2.2.1
theorem d225_1007 : decode code 1007 = .ok (.invokevirtual 146, 3) := dd225_994.2.2.2.2.2.2.2.2.2.2.2.2.2.1
theorem d225_1010 : decode code 1010 = .ok (.pop, 1) := dd225_994.2.2.2.2.2.2.2.2.2.2.2.2.2.2.1
theorem d225_1011 : decode code 1011 = .ok (.goto 172, 3) := dd225_994.2.2.2.2.2.2.2.2.2.2.2.2.2.2.2
theorem dd225_1014 : (decode code 1014 = .ok (.aload_n 1, 1)) ∧ (decode code 1015 = .ok (.aload_n 0, 1)) ∧ (decode code 1016 = .ok (.iload_n 3, 1)) ∧ (decode code 1017 = .ok (.iconst 1, 1)) ∧ (decode code 1018 = .ok (.iadd, 1)) ∧ (decode code 1019 = .ok (.iaload, 1)) ∧ (decode code 1020 = .ok (.aload_n 0, 1)) ∧ (decode code 1021 = .ok (.iload_n 3, 1)) ∧ (decode code 1022 = .ok (.iconst 2, 1)) ∧ (decode code 1023 = .ok (.iadd, 1)) ∧ (decode code 1024 = .ok (.iaload, 1)) ∧ (decode code 1025 = .ok (.aload_n 0, 1)) ∧ (decode code 1026 = .ok (.iload_n 3, 1)) ∧ (decode code 1027 = .ok (.iconst 3, 1)) ∧ (decode code 1028 = .ok (.iadd, 1)) ∧ (decode code 1029 = .ok (.iaload, 1)) := by decide +kernel
theorem d225_1014 : decode code 1014 = .ok (.aload_n 1, 1) := dd225_1014.1
theorem d225_1015 : decode code 1015 = .ok (.aload_n 0, 1) := dd225_1014.2.1
theorem d225_1016 : decode code 1016 = .ok (.iload_n 3, 1) := dd225_1014.2.2.1
theorem d225_1017 : decode code 1017 = .ok (.iconst 1, 1) := dd225_1014.2.2.2.1
theorem d225_1018 : decode code 1018 = .ok (.iadd, 1) := dd225_1014.2.2.2.2.1
theorem d225_1019 : decode code 1019 = .ok (.iaload, 1) := dd225_1014.2.2.2.2.2.1
theorem d225_1020 : decode code 1020 = .ok (.aload_n 0, 1) := dd225_1014.2.2.2.2.2.2.1
theorem d225_1021 : decode code 1021 = .ok (.iload_n 3, 1) := dd225_1014.2.2.2.2.2.2.2.1
theorem d225_1022 : decode code 1022 = .ok (.iconst 2, 1) := dd225_1014.2.2.2.2.2.2.2.2.1
theorem d225_1023 : decode code 1023 = .ok (.iadd, 1) := dd225_1014.2.2.2.2.2.2.2.2.2.1
theorem d225_1024 : decode code 1024 = .ok (.iaload, 1) := dd225_1014.2.2.2.2.2.2.2.2.2.2.1
theorem d225_1025 : decode code 1025 = .ok (.aload_n 0, 1) := dd225_1014.2.2.2.2.2.2.2.2.2.2.2.1
theorem d225_1026 : decode code 1026 = .ok (.iload_n 3, 1) := dd225_1014.2.2.2.2.2.2.2.2.2.2.2.2.1
theorem d225_1027 : decode code 1027 = .ok (.iconst 3, 1) := dd225_1014.2.2.2.2.2.2.2.2.2.2.2.2.2.1
theorem d225_1028 : decode code 1028 = .ok (.iadd, 1) := dd225_1014.2.2.2.2.2.2.2.2.2.2.2.2.2.2.1
theorem d225_1029 : decode code 1029 = .ok (.iaload, 1) := dd225_1014.2.2.2.2.2.2.2.2.2.2.2.2.2.2.2
theorem dd225_1030 : (decode code 1030 = .ok (.i2l, 1)) ∧ (decode code 1031 = .ok (.bipush 32, 2)) ∧ (decode code 1033 = .ok (.lshl, 1)) ∧ (decode code 1034 = .ok (.aload_n 0, 1)) ∧ (decode code 1035 = .ok (.iload_n 3, 1)) ∧ (decode code 1036 = .ok (.iconst 4, 1)) ∧ (decode code 1037 = .ok (.iadd, 1)) ∧ (decode code 1038 = .ok (.iaload, 1)) ∧ (decode code 1039 = .ok (.i2l, 1)) ∧ (decode code 1040 = .ok (.ldc2_w 147, 3)) ∧ (decode code 1043 = .ok (.land, 1)) ∧ (decode code 1044 = .ok (.lor, 1)) ∧ (decode code 1045 = .ok (.invokevirtual 149, 3)) ∧ (decode code 1048 = .ok (.pop, 1)) ∧ (decode code 1049 = .ok (.aload_n 2, 1)) ∧ (decode code 1050 = .ok (.aload_n 0, 1)) := by decide +kernel
theorem d225_1030 : decode code 1030 = .ok (.i2l, 1) := dd225_1030.1
theorem d225_1031 : decode code 1031 = .ok (.bipush 32, 2) := dd225_1030.2.1
theorem d225_1033 : decode code 1033 = .ok (.lshl, 1) := dd225_1030.2.2.1
theorem d225_1034 : decode code 1034 = .ok (.aload_n 0, 1) := dd225_1030.2.2.2.1
theorem d225_1035 : decode code 1035 = .ok (.iload_n 3, 1) := dd225_1030.2.2.2.2.1
theorem d225_1036 : decode code 1036 = .ok (.iconst 4, 1) := dd225_1030.2.2.2.2.2.1
theorem d225_1037 : decode code 1037 = .ok (.iadd, 1) := dd225_1030.2.2.2.2.2.2.1
theorem d225_1038 : decode code 1038 = .ok (.iaload, 1) := dd225_1030.2.2.2.2.2.2.2.1
theorem d225_1039 : decode code 1039 = .ok (.i2l, 1) := dd225_1030.2.2.2.2.2.2.2.2.1
theorem d225_1040 : decode code 1040 = .ok (.ldc2_w 147, 3) := dd225_1030.2.2.2.2.2.2.2.2.2.1
theorem d225_1043 : decode code 1043 = .ok (.land, 1) := dd225_1030.2.2.2.2.2.2.2.2.2.2.1
theorem d225_1044 : decode code 1044 = .ok (.lor, 1) := dd225_1030.2.2.2.2.2.2.2.2.2.2.2.1
theorem d225_1045 : decode code 1045 = .ok (.invokevirtual 149, 3) := dd225_1030.2.2.2.2.2.2.2.2.2.2.2.2.1
theorem d225_1048 : decode code 1048 = .ok (.pop, 1) := dd225_1030.2.2.2.2.2.2.2.2.2.2.2.2.2.1
theorem d225_1049 : decode code 1049 = .ok (.aload_n 2, 1) := dd225_1030.2.2.2.2.2.2.2.2.2.2.2.2.2.2.1
theorem d225_1050 : decode code 1050 = .ok (.aload_n 0, 1) := dd225_1030.2.2.2.2.2.2.2.2.2.2.2.2.2.2.2
theorem dd225_1051 : (decode code 1051 = .ok (.iload_n 3, 1)) ∧ (decode code 1052 = .ok (.iconst 1, 1)) ∧ (decode code 1053 = .ok (.iadd, 1)) ∧ (decode code 1054 = .ok (.iaload, 1)) ∧ (decode code 1055 = .ok (.aload_n 0, 1)) ∧ (decode code 1056 = .ok (.iload_n 3, 1)) ∧ (decode code 1057 = .ok (.iconst 2, 1)) ∧ (decode code 1058 = .ok (.iadd, 1)) ∧ (decode code 1059 = .ok (.iaload, 1)) ∧ (decode code 1060 = .ok (.aload_n 0, 1)) ∧ (decode code 1061 = .ok (.iload_n 3, 1)) ∧ (decode code 1062 = .ok (.iconst 3, 1)) ∧ (decode code 1063 = .ok (.iadd, 1)) ∧ (decode code 1064 = .ok (.iaload, 1)) ∧ (decode code 1065 = .ok (.i2l, 1)) ∧ (decode code 1066 = .ok (.bipush 32, 2)) := by decide +kernel
theorem d225_1051 : decode code 1051 = .ok (.iload_n 3, 1) := dd225_1051.1
theorem d225_1052 : decode code 1052 = .ok (.iconst 1, 1) := dd225_1051.2.1
theorem d225_1053 : decode code 1053 = .ok (.iadd, 1) := dd225_1051.2.2.1
theorem d225_1054 : decode code 1054 = .ok (.iaload, 1) := dd225_1051.2.2.2.1
theorem d225_1055 : decode code 1055 = .ok (.aload_n 0, 1) := dd225_1051.2.2.2.2.1
theorem d225_1056 : decode code 1056 = .ok (.iload_n 3, 1) := dd225_1051.2.2.2.2.2.1
theorem d225_1057 : decode code 1057 = .ok (.iconst 2, 1) := dd225_1051.2.2.2.2.2.2.1
theorem d225_1058 : decode code 1058 = .ok (.iadd, 1) := dd225_1051.2.2.2.2.2.2.2.1
theorem d225_1059 : decode code 1059 = .ok (.iaload, 1) := dd225_1051.2.2.2.2.2.2.2.2.1
theorem d225_1060 : decode code 1060 = .ok (.aload_n 0, 1) := dd225_1051.2.2.2.2.2.2.2.2.2.1
theorem d225_1061 : decode code 1061 = .ok (.iload_n 3, 1) := dd225_1051.2.2.2.2.2.2.2.2.2.2.1
theorem d225_1062 : decode code 1062 = .ok (.iconst 3, 1) := dd225_1051.2.2.2.2.2.2.2.2.2.2.2.1
theorem d225_1063 : decode code 1063 = .ok (.iadd, 1) := dd225_1051.2.2.2.2.2.2.2.2.2.2.2.2.1
theorem d225_1064 : decode code 1064 = .ok (.iaload, 1) := dd225_1051.2.2.2.2.2.2.2.2.2.2.2.2.2.1
theorem d225_1065 : decode code 1065 = .ok (.i2l, 1) := dd225_1051.2.2.2.2.2.2.2.2.2.2.2.2.2.2.1
theorem d225_1066 : decode code 1066 = .ok (.bipush 32, 2) := dd225_1051.2.2.2.2.2.2.2.2.2.2.2.2.2.2.2
theorem dd225_1068 : (decode code 1068 = .ok (.lshl, 1)) ∧ (decode code 1069 = .ok (.aload_n 0, 1)) ∧ (decode code 1070 = .ok (.iload_n 3, 1)) ∧ (decode code 1071 = .ok (.iconst 4, 1)) ∧ (decode code 1072 = .ok (.iadd, 1)) ∧ (decode code 1073 = .ok (.iaload, 1)) ∧ (decode code 1074 = .ok (.i2l, 1)) ∧ (decode code 1075 = .ok (.ldc2_w 147, 3)) ∧ (decode code 1078 = .ok (.land, 1)) ∧ (decode code 1079 = .ok (.lor, 1)) ∧ (decode code 1080 = .ok (.invokevirtual 153, 3)) ∧ (decode code 1083 = .ok (.pop, 1)) ∧ (decode code 1084 = .ok (.goto 99, 3)) ∧ (decode code 1087 = .ok (.aload_n 1, 1)) ∧ (decode code 1088 = .ok (.aload_n 0, 1)) ∧ (decode code 1089 = .ok (.iload_n 3, 1)) := by decide +kernel
theorem d225_1068 : decode code 1068 = .ok (.lshl, 1) := dd225_1068.1
theorem d225_1069 : decode code 1069 = .ok (.aload_n 0, 1) := dd225_1068.2.1
theorem d225_1070 : decode code 1070 = .ok (.iload_n 3, 1) := dd225_1068.2.2.1
theorem d225_1071 : decode code 1071 = .ok (.iconst 4, 1) := dd225_1068.2.2.2.1
theorem d225_1072 : decode code 1072 = .ok (.iadd, 1) := dd225_1068.2.2.2.2.1
theorem d225_1073 : decode code 1073 = .ok (.iaload, 1) := dd225_1068.2.2.2.2.2.1
theorem d225_1074 : decode code 1074 = .ok (.i2l, 1) := dd225_1068.2.2.2.2.2.2.1
theorem d225_1075 : decode code 1075 = .ok (.ldc2_w 147, 3) := dd225_1068.2.2.2.2.2.2.2.1
theorem d225_1078 : decode code 1078 = .ok (.land, 1) := dd225_1068.2.2.2.2.2.2.2.2.1
theorem d225_1079 : decode code 1079 = .ok (.lor, 1) := dd225_1068.2.2.2.2.2.2.2.2.2.1
theorem d225_1080 : decode code 1080 = .ok (.invokevirtual 153, 3) := dd225_1068.2.2.2.2.2.2.2.2.2.2.1
theorem d225_1083 : decode code 1083 = .ok (.pop, 1) := dd225_1068.2.2.2.2.2.2.2.2.2.2.2.1
theorem d225_1084 : decode code 1084 = .ok (.goto 99, 3) := dd225_1068.2.2.2.2.2.2.2.2.2.2.2.2.1
theorem d225_1087 : decode code 1087 = .ok (.aload_n 1, 1) := dd225_1068.2.2.2.2.2.2.2.2.2.2.2.2.2.1
theorem d225_1088 : decode code 1088 = .ok (.aload_n 0, 1) := dd225_1068.2.2.2.2.2.2.2.2.2.2.2.2.2.2.1
theorem d225_1089 : decode code 1089 = .ok (.iload_n 3, 1) := dd225_1068.2.2.2.2.2.2.2.2.2.2.2.2.2.2.2
theorem dd225_1090 : (decode code 1090 = .ok (.iconst 1, 1)) ∧ (decode code 1091 = .ok (.iadd, 1)) ∧ (decode code 1092 = .ok (.iaload, 1)) ∧ (decode code 1093 = .ok (.aload_n 0, 1)) ∧ (decode code 1094 = .ok (.iload_n 3, 1)) ∧ (decode code 1095 = .ok (.iconst 2, 1)) ∧ (decode code 1096 = .ok (.iadd, 1)) ∧ (decode code 1097 = .ok (.iaload, 1)) ∧ (decode code 1098 = .ok (.invokevirtual 154, 3)) ∧ (decode code 1101 = .ok (.pop2, 1)) ∧ (decode code 1102 = .ok (.aload_n 2, 1)) ∧ (decode code 1103 = .ok (.aload_n 0, 1)) ∧ (decode code 1104 = .ok (.iload_n 3, 1)) ∧ (decode code 1105 = .ok (.iconst 1, 1)) ∧ (decode code 1106 = .ok (.iadd, 1)) ∧ (decode code 1107 = .ok (.iaload, 1)) := by decide +kernel
theorem d225_1090 : decode code 1090 = .ok (.iconst 1, 1) := dd225_1090.1
theorem d225_1091 : decode code 1091 = .ok (.iadd, 1) := dd225_1090.2.1
theorem d225_1092 : decode code 1092 = .ok (.iaload, 1) := dd225_1090.2.2.1
theorem d225_1093 : decode code 1093 = .ok (.aload_n 0, 1) := dd225_1090.2.2.2.1
theorem d225_1094 : decode code 1094 = .ok (.iload_n 3, 1) := dd225_1090.2.2.2.2.1
theorem d225_1095 : decode code 1095 = .ok (.iconst 2, 1) := dd225_1090.2.2.2.2.2.1
theorem d225_1096 : decode code 1096 = .ok (.iadd, 1) := dd225_1090.2.2.2.2.2.2.1
theorem d225_1097 : decode code 1097 = .ok (.iaload, 1) := dd225_1090.2.2.2.2.2.2.2.1
theorem d225_1098 : decode code 1098 = .ok (.invokevirtual 154, 3) := dd225_1090.2.2.2.2.2.2.2.2.1
theorem d225_1101 : decode code 1101 = .ok (.pop2, 1) := dd225_1090.2.2.2.2.2.2.2.2.2.1
theorem d225_1102 : decode code 1102 = .ok (.aload_n 2, 1) := dd225_1090.2.2.2.2.2.2.2.2.2.2.1
theorem d225_1103 : decode code 1103 = .ok (.aload_n 0, 1) := dd225_1090.2.2.2.2.2.2.2.2.2.2.2.1
theorem d225_1104 : decode code 1104 = .ok (.iload_n 3, 1) := dd225_1090.2.2.2.2.2.2.2.2.2.2.2.2.1
theorem d225_1105 : decode code 1105 = .ok (.iconst 1, 1) := dd225_1090.2.2.2.2.2.2.2.2.2.2.2.2.2.1
theorem d225_1106 : decode code 1106 = .ok (.iadd, 1) := dd225_1090.2.2.2.2.2.2.2.2.2.2.2.2.2.2.1
theorem d225_1107 : decode code 1107 = .ok (.iaload, 1) := dd225_1090.2.2.2.2.2.2.2.2.2.2.2.2.2.2.2
theorem dd225_1108 : (decode code 1108 = .ok (.aload_n 0, 1)) ∧ (decode code 1109 = .ok (.iload_n 3, 1)) ∧ (decode code 1110 = .ok (.iconst 2, 1)) ∧ (decode code 1111 = .ok (.iadd, 1)) ∧ (decode code 1112 = .ok (.iaload, 1)) ∧ (decode code 1113 = .ok (.invokevirtual 157, 3)) ∧ (decode code 1116 = .ok (.pop2, 1)) ∧ (decode code 1117 = .ok (.goto 66, 3)) ∧ (decode code 1120 = .ok (.aload_n 1, 1)) ∧ (decode code 1121 = .ok (.aload_n 0, 1)) ∧ (decode code 1122 = .ok (.iload_n 3, 1)) ∧ (decode code 1123 = .ok (.iconst 1, 1)) ∧ (decode code 1124 = .ok (.iadd, 1)) ∧ (decode code 1125 = .ok (.iaload, 1)) ∧ (decode code 1126 = .ok (.aload_n 0, 1)) ∧ (decode code 1127 = .ok (.iload_n 3, 1)) := by decide +kernel
theorem d225_1108 : decode code 1108 = .ok (.aload_n 0, 1) := dd225_1108.1
theorem d225_1109 : decode code 1109 = .ok (.iload_n 3, 1) := dd225_1108.2.1
theorem d225_1110 : decode code 1110 = .ok (.iconst 2, 1) := dd225_1108.2.2.1
theorem d225_1111 : decode code 1111 = .ok (.iadd, 1) := dd225_1108.2.2.2.1
theorem d225_1112 : decode code 1112 = .ok (.iaload, 1) := dd225_1108.2.2.2.2.1
theorem d225_1113 : decode code 1113 = .ok (.invokevirtual 157, 3) := dd225_1108.2.2.2.2.2.1
theorem d225_1116 : decode code 1116 = .ok (.pop2, 1) := dd225_1108.2.2.2.2.2.2.1
theorem d225_1117 : decode code 1117 = .ok (.goto 66, 3) := dd225_1108.2.2.2.2.2.2.2.1
theorem d225_1120 : decode code 1120 = .ok (.aload_n 1, 1) := dd225_1108.2.2.2.2.2.2.2.2.1
theorem d225_1121 : decode code 1121 = .ok (.aload_n 0, 1) := dd225_1108.2.2.2.2.2.2.2.2.2.1
theorem d225_1122 : decode code 1122 = .ok (.iload_n 3, 1) := dd225_1108.2.2.2.2.2.2.2.2.2.2.1
theorem d225_1123 : decode code 1123 = .ok (.iconst 1, 1) := dd225_1108.2.2.2.2.2.2.2.2.2.2.2.1
theorem d225_1124 : decode code 1124 = .ok (.iadd, 1) := dd225_1108.2.2.2.2.2.2.2.2.2.2.2.2.1
theorem d225_1125 : decode code 1125 = .ok (.iaload, 1) := dd225_1108.2.2.2.2.2.2.2.2.2.2.2.2.2.1
theorem d225_1126 : decode code 1126 = .ok (.aload_n 0, 1) := dd225_1108.2.2.2.2.2.2.2.2.2.2.2.2.2.2.1
theorem d225_1127 : decode code 1127 = .ok (.iload_n 3, 1) := dd225_1108.2.2.2.2.2.2.2.2.2.2.2.2.2.2.2
theorem dd225_1128 : (decode code 1128 = .ok (.iconst 2, 1)) ∧ (decode code 1129 = .ok (.iadd, 1)) ∧ (decode code 1130 = .ok (.iaload, 1)) ∧ (decode code 1131 = .ok (.aload_n 0, 1)) ∧ (decode code 1132 = .ok (.iload_n 3, 1)) ∧ (decode code 1133 = .ok (.iconst 3, 1)) ∧ (decode code 1134 = .ok (.iadd, 1)) ∧ (decode code 1135 = .ok (.iaload, 1)) ∧ (decode code 1136 = .ok (.aload_n 0, 1)) ∧ (decode code 1137 = .ok (.iload_n 3, 1)) ∧ (decode code 1138 = .ok (.iconst 4, 1)) ∧ (decode code 1139 = .ok (.iadd, 1)) ∧ (decode code 1140 = .ok (.iaload, 1)) ∧ (decode code 1141 = .ok (.aload_n 0, 1)) ∧ (decode code 1142 = .ok (.iload_n 3, 1)) ∧ (decode code 1143 = .ok (.iconst 5, 1)) := by decide +kernel
theorem d225_1128 : decode code 1128 = .ok (.iconst 2, 1) := dd225_1128.1
theorem d225_1129 : decode code 1129 = .ok (.iadd, 1) := dd225_1128.2.1
theorem d225_1130 : decode code 1130 = .ok (.iaload, 1) := dd225_1128.2.2.1
theorem d225_1131 : decode code 1131 = .ok (.aload_n 0, 1) := dd225_1128.2.2.2.1
theorem d225_1132 : decode code 1132 = .ok (.iload_n 3, 1) := dd225_1128.2.2.2.2.1
theorem d225_1133 : decode code 1133 = .ok (.iconst 3, 1) := dd225_1128.2.2.2.2.2.1
theorem d225_1134 : decode code 1134 = .ok (.iadd, 1) := dd225_1128.2.2.2.2.2.2.1
theorem d225_1135 : decode code 1135 = .ok (.iaload, 1) := dd225_1128.2.2.2.2.2.2.2.1
theorem d225_1136 : decode code 1136 = .ok (.aload_n 0, 1) := dd225_1128.2.2.2.2.2.2.2.2.1
theorem d225_1137 : decode code 1137 = .ok (.iload_n 3, 1) := dd225_1128.2.2.2.2.2.2.2.2.2.1
theorem d225_1138 : decode code 1138 = .ok (.iconst 4, 1) := dd225_1128.2.2.2.2.2.2.2.2.2.2.1
theorem d225_1139 : decode code 1139 = .ok (.iadd, 1) := dd225_1128.2.2.2.2.2.2.2.2.2.2.2.1
theorem d225_1140 : decode code 1140 = .ok (.iaload, 1) := dd225_1128.2.2.2.2.2.2.2.2.2.2.2.2.1
theorem d225_1141 : decode code 1141 = .ok (.aload_n 0, 1) := dd225_1128.2.2.2.2.2.2.2.2.2.2.2.2.2.1
theorem d225_1142 : decode code 1142 = .ok (.iload_n 3, 1) := dd225_1128.2.2.2.2.2.2.2.2.2.2.2.2.2.2.1
theorem d225_1143 : decode code 1143 = .ok (.iconst 5, 1) := dd225_1128.2.2.2.2.2.2.2.2.2.2.2.2.2.2.2
theorem dd225_1144 : (decode code 1144 = .ok (.iadd, 1)) ∧ (decode code 1145 = .ok (.iaload, 1)) ∧ (decode code 1146 = .ok (.invokevirtual 158, 3)) ∧ (decode code 1149 = .ok (.aload_n 2, 1)) ∧ (decode code 1150 = .ok (.aload_n 0, 1)) ∧ (decode code 1151 = .ok (.iload_n 3, 1)) ∧ (decode code 1152 = .ok (.iconst 1, 1)) ∧ (decode code 1153 = .ok (.iadd, 1)) ∧ (decode code 1154 = .ok (.iaload, 1)) ∧ (decode code 1155 = .ok (.aload_n 0, 1)) ∧ (decode code 1156 = .ok (.iload_n 3, 1)) ∧ (decode code 1157 = .ok (.iconst 2, 1)) ∧ (decode code 1158 = .ok (.iadd, 1)) ∧ (decode code 1159 = .ok (.iaload, 1)) ∧ (decode code 1160 = .ok (.aload_n 0, 1)) ∧ (decode code 1161 = .ok (.iload_n 3, 1)) := by decide +kernel
theorem d225_1144 : decode code 1144 = .ok (.iadd, 1) := dd225_1144.1
theorem d225_1145 : decode code 1145 = .ok (.iaload, 1) := dd225_1144.2.1
theorem d225_1146 : decode code 1146 = .ok (.invokevirtual 158, 3) := dd225_1144.2.2.1
theorem d225_1149 : decode code 1149 = .ok (.aload_n 2, 1) := dd225_1144.2.2.2.1
theorem d225_1150 : decode code 1150 = .ok (.aload_n 0, 1) := dd225_1144.2.2.2.2.1
theorem d225_1151 : decode code 1151 = .ok (.iload_n 3, 1) := dd225_1144.2.2.2.2.2.1
theorem d225_1152 : decode code 1152 = .ok (.iconst 1, 1) := dd225_1144.2.2.2.2.2.2.1
theorem d225_1153 : decode code 1153 = .ok (.iadd, 1) := dd225_1144.2.2.2.2.2.2.2.1
theorem d225_1154 : decode code 1154 = .ok (.iaload, 1) := dd225_1144.2.2.2.2.2.2.2.2.1
theorem d225_1155 : decode code 1155 = .ok (.aload_n 0, 1) := dd225_1144.2.2.2.2.2.2.2.2.2.1
theorem d225_1156 : decode code 1156 = .ok (.iload_n 3, 1) := dd225_1144.2.2.2.2.2.2.2.2.2.2.1
theorem d225_1157 : decode code 1157 = .ok (.iconst 2, 1) := dd225_1144.2.2.2.2.2.2.2.2.2.2.2.1
theorem d225_1158 : decode code 1158 = .ok (.iadd, 1) := dd225_1144.2.2.2.2.2.2.2.2.2.2.2.2.1
theorem d225_1159 : decode code 1159 = .ok (.iaload, 1) := dd225_1144.2.2.2.2.2.2.2.2.2.2.2.2.2.1
theorem d225_1160 : decode code 1160 = .ok (.aload_n 0, 1) := dd225_1144.2.2.2.2.2.2.2.2.2.2.2.2.2.2.1
theorem d225_1161 : decode code 1161 = .ok (.iload_n 3, 1) := dd225_1144.2.2.2.2.2.2.2.2.2.2.2.2.2.2.2
theorem dd225_1162 : (decode code 1162 = .ok (.iconst 3, 1)) ∧ (decode code 1163 = .ok (.iadd, 1)) ∧ (decode code 1164 = .ok (.iaload, 1)) ∧ (decode code 1165 = .ok (.aload_n 0, 1)) ∧ (decode code 1166 = .ok (.iload_n 3, 1)) ∧ (decode code 1167 = .ok (.iconst 4, 1)) ∧ (decode code 1168 = .ok (.iadd, 1)) ∧ (decode code 1169 = .ok (.iaload, 1)) ∧ (decode code 1170 = .ok (.aload_n 0, 1)) ∧ (decode code 1171 = .ok (.iload_n 3, 1)) ∧ (decode code 1172 = .ok (.iconst 5, 1)) ∧ (decode code 1173 = .ok (.iadd, 1)) ∧ (decode code 1174 = .ok (.iaload, 1)) ∧ (decode code 1175 = .ok (.invokevirtual 162, 3)) ∧ (decode code 1178 = .ok (.if_icmp .eq 5, 3)) ∧ (decode code 1181 = .ok (.iconst 0, 1)) := by decide +kernel
theorem d225_1162 : decode code 1162 = .ok (.iconst 3, 1) := dd225_1162.1
theorem d225_1163 : decode code 1163 = .ok (.iadd, 1) := dd225_1162.2.1
theorem d225_1164 : decode code 1164 = .ok (.iaload, 1) := dd225_1162.2.2.1
theorem d225_1165 : decode code 1165 = .ok (.aload_n 0, 1) := dd225_1162.2.2.2.1
theorem d225_1166 : decode code 1166 = .ok (.iload_n 3, 1) := dd225_1162.2.2.2.2.1
theorem d225_1167 : decode code 1167 = .ok (.iconst 4, 1) := dd225_1162.2.2.2.2.2.1
theorem d225_1168 : decode code 1168 = .ok (.iadd, 1) := dd225_1162.2.2.2.2.2.2.1
theorem d225_1169 : decode code 1169 = .ok (.iaload, 1) := dd225_1162.2.2.2.2.2.2.2.1
theorem d225_1170 : decode code 1170 = .ok (.aload_n 0, 1) := dd225_1162.2.2.2.2.2.2.2.2.1
theorem d225_1171 : decode code 1171 = .ok (.iload_n 3, 1) := dd225_1162.2.2.2.2.2.2.2.2.2.1
theorem d225_1172 : decode code 1172 = .ok (.iconst 5, 1) := dd225_1162.2.2.2.2.2.2.2.2.2.2.1
theorem d225_1173 : decode code 1173 = .ok (.iadd, 1) := dd225_1162.2.2.2.2.2.2.2.2.2.2.2.1
theorem d225_1174 : decode code 1174 = .ok (.iaload, 1) := dd225_1162.2.2.2.2.2.2.2.2.2.2.2.2.1
theorem d225_1175 : decode code 1175 = .ok (.invokevirtual 162, 3) := dd225_1162.2.2.2.2.2.2.2.2.2.2.2.2.2.1
theorem d225_1178 : decode code 1178 = .ok (.if_icmp .eq 5, 3) := dd225_1162.2.2.2.2.2.2.2.2.2.2.2.2.2.2.1
theorem d225_1181 : decode code 1181 = .ok (.iconst 0, 1) := dd225_1162.2.2.2.2.2.2.2.2.2.2.2.2.2.2.2
theorem dd225_1182 : (decode code 1182 = .ok (.ireturn, 1)) ∧ (decode code 1183 = .ok (.iinc 3 6, 3)) ∧ (decode code 1186 = .ok (.goto (-1168), 3)) ∧ (decode code 1189 = .ok (.iconst 1, 1)) ∧ (decode code 1190 = .ok (.ireturn, 1)) := by decide +kernel
theorem d225_1182 : decode code 1182 = .ok (.ireturn, 1) := dd225_1182.1
theorem d225_1183 : decode code 1183 = .ok (.iinc 3 6, 3) := dd225_1182.2.1
theorem d225_1186 : decode code 1186 = .ok (.goto (-1168), 3) := dd225_1182.2.2.1
theorem d225_1189 : decode code 1189 = .ok (.iconst 1, 1) := dd225_1182.2.2.2.1
theorem d225_1190 : decode code 1190 = .ok (.ireturn, 1) := dd225_1182.2.2.2.2
theorem b225_0 {d : Nat} {S : mm_S} (h0 : decide (mm_n S < 1000000) = true) : mm_ex d 225 0 [.ref mm_SC, .null, .null, .null] [] S =
    mm_ex d 225 3 [.ref mm_SC, .null, .null, .null] [.ref (mm_n S)] (mm_nw S 11 (mm_NF 11)) :=
  (mx_new t225 d225_0 (k := 11) (n := mm_NF 11) nw17_7 rfl h0)
theorem b225_3 {d : Nat} {S : mm_S} {p0 : Nat} (h0 : (decide (p0 < mm_n S) && decide (mm_K S p0 < 13)) = true) : mm_ex (d + 1) 225 3 [.ref mm_SC, .null, .null, .null] [.ref p0] S =
    mm_bd (mm_cl d 72 [.ref p0] S) (fun v S2 => mm_ex (d + 1) 225 7 [.ref mm_SC, .null, .null, .null] (v.toList ++ [.ref p0]) S2) :=
  Eq.trans (mx_dupr t225 d225_3) <|
  (mx_spec (st := [.ref p0]) t225 [] d225_4 oin17_9 sp17_9 rfl (Nat.le_of_ble_eq_true rfl) (Nat.le_of_ble_eq_true rfl) h0)
theorem b225_7 {d : Nat} {S : mm_S} {p0 : Nat} (h0 : decide (mm_n S < 1000000) = true) : mm_ex d 225 7 [.ref mm_SC, .null, .null, .null] [.ref p0] S =
    mm_ex d 225 11 [.ref mm_SC, .ref p0, .null, .null] [.ref (mm_n S)] (mm_nw S 12 (mm_NF 12)) :=
  Eq.trans (mx_astore_n t225 d225_7 (ls' := [.ref mm_SC, .ref p0, .null, .null]) rfl rfl) <|
  (mx_new t225 d225_8 (k := 12) (n := mm_NF 12) nw17_10 rfl h0)
theorem b225_11 {d : Nat} {S : mm_S} {a1 : Nat} {p0 : Nat} (h0 : (decide (p0 < mm_n S) && decide (mm_K S p0 < 13)) = true) : mm_ex (d + 1) 225 11 [.ref mm_SC, .ref a1, .null, .null] [.ref p0] S =
    mm_bd (mm_cl d 127 [.ref p0] S) (fun v S2 => mm_ex (d + 1) 225 15 [.ref mm_SC, .ref a1, .null, .null] (v.toList ++ [.ref p0]) S2) :=
  Eq.trans (mx_dupr t225 d225_11) <|
  (mx_spec (st := [.ref p0]) t225 [] d225_12 oin17_12 sp17_12 rfl (Nat.le_of_ble_eq_true rfl) (Nat.le_of_ble_eq_true rfl) h0)
theorem b225_15 {d : Nat} {S : mm_S} {a1 : Nat} {p0 : Nat} : mm_ex d 225 15 [.ref mm_SC, .ref a1, .null, .null] [.ref p0] S =
    mm_ex d 225 18 [.ref mm_SC, .ref a1, .ref p0, .int (nI 0)] [] S :=
  Eq.trans (mx_astore_n t225 d225_15 (ls' := [.ref mm_SC, .ref a1, .ref p0, .null]) rfl rfl) <|
  Eq.trans (mx_iconst t225 d225_16 (v := nI 0) rfl) <|
  (mx_istore_n t225 d225_17 (ls' := [.ref mm_SC, .ref a1, .ref p0, .int (nI 0)]) rfl rfl)
theorem b225_18 {d : Nat} {S : mm_S} {a1 : Nat} {a2 : Nat} {x3 : Int32} (h0 : (decide (mm_SC < mm_n S) && decide (13 ≤ mm_K S mm_SC) && decide (mm_K S mm_SC < 19)) = false) : mm_ex d 225 18 [.ref mm_SC, .ref a1, .ref a2, .int x3] [] S =
    if ((nI (mm_N S mm_SC)) - (nI 6)) < x3 then mm_ex d 225 1189 [.ref mm_SC, .ref a1, .ref a2, .int x3] [] S else mm_ex d 225 27 [.ref mm_SC, .ref a1, .ref a2, .int x3] [] S :=
  Eq.trans (mx_iload_n t225 d225_18 (x := x3) rfl) <|
  Eq.trans (mx_aload_n t225 d225_19 (x := mm_SC) rfl) <|
  Eq.trans (mx_alenS t225 d225_20 h0 rfl) <|
  Eq.trans (mx_bipush t225 d225_21 (v := nI 6) rfl) <|
  Eq.trans (mx_isub t225 d225_23) <|
  (mx_cgt t225 d225_24 (tgt := 1189) (by decide))
theorem b225_27 {d : Nat} {S : mm_S} {a1 : Nat} {a2 : Nat} {x3 : Int32} (h0 : mm_arr S mm_SC 13 = false) (h1 : mm_inb x3 (mm_N S mm_SC) = true) : mm_ex d 225 27 [.ref mm_SC, .ref a1, .ref a2, .int x3] [] S =
    mm_ex d 225 33 [.ref mm_SC, .ref a1, .ref a2, .int x3] [.int ((mm_M S mm_SC (x3).toNatClampNeg) &&& (nI 63))] S :=
  Eq.trans (mx_aload_n t225 d225_27 (x := mm_SC) rfl) <|
  Eq.trans (mx_iload_n t225 d225_28 (x := x3) rfl) <|
  Eq.trans (mx_isc t225 d225_29 h0 rfl h1) <|
  Eq.trans (mx_bipush t225 d225_30 (v := nI 63) rfl) <|
  (mx_iand t225 d225_32)
theorem sw_c {α : Type} {X a b : α} {c : Prop} [Decidable c] (h1 : c → X = a) (h2 : ¬ c → X = b) : X = ite c a b := by
  by_cases h : c
  · rw [if_pos h]; exact h1 h
  · rw [if_neg h]; exact h2 h
theorem sw_z {x : Int32} : x.toInt < 0 ∨ ((0 : Nat) : Int) ≤ x.toInt := by omega
theorem sw_s {x : Int32} {n : Nat} {k : Int32} (hk : k.toInt = (n : Int)) (h : x.toInt < 0 ∨ (n : Int) ≤ x.toInt) (e : ¬ x = k) : x.toInt < 0 ∨ ((n + 1 : Nat) : Int) ≤ x.toInt := by
  have g := mm_ni32 e
  rw [hk] at g
  omega
theorem sw_e {x : Int32} {n : Nat} {hi : Int} (hk : hi + 1 = (n : Int)) (h : x.toInt < 0 ∨ (n : Int) ≤ x.toInt) : x.toInt < 0 ∨ hi < x.toInt := by omega
theorem b225_33 {d : Nat} {S : mm_S} {a1 : Nat} {a2 : Nat} {x3 : Int32} {p0 : Int32} : mm_ex d 225 33 [.ref mm_SC, .ref a1, .ref a2, .int x3] [.int p0] S =
    if p0 = nI 0 then mm_ex d 225 188 [.ref mm_SC, .ref a1, .ref a2, .int x3] [] S else if p0 = nI 1 then mm_ex d 225 231 [.ref mm_SC, .ref a1, .ref a2, .int x3] [] S else if p0 = nI 2 then mm_ex d 225 264 [.ref mm_SC, .ref a1, .ref a2, .int x3] [] S else if p0 = nI 3 then mm_ex d 225 287 [.ref mm_SC, .ref a1, .ref a2, .int x3] [] S else if p0 = nI 4 then mm_ex d 225 320 [.ref mm_SC, .ref a1, .ref a2, .int x3] [] S else if p0 = nI 5 then mm_ex d 225 363 [.ref mm_SC, .ref a1, .ref a2, .int x3] [] S else if p0 = nI 6 then mm_ex d 225 386 [.ref mm_SC, .ref a1, .ref a2, .int x3] [] S else if p0 = nI 7 then mm_ex d 225 419 [.ref mm_SC, .ref a1, .ref a2, .int x3] [] S else if p0 = nI 8 then mm_ex d 225 442 [.ref mm_SC, .ref a1, .ref a2, .int x3] [] S else if p0 = nI 9 then mm_ex d 225 455 [.ref mm_SC, .ref a1, .ref a2, .int x3] [] S else if p0 = nI 10 then mm_ex d 225 478 [.ref mm_SC, .ref a1, .ref a2, .int x3] [] S else if p0 = nI 11 then mm_ex d 225 501 [.ref mm_SC, .ref a1, .ref a2, .int x3] [] S else if p0 = nI 12 then mm_ex d 225 514 [.ref mm_SC, .ref a1, .ref a2, .int x3] [] S else if p0 = nI 13 then mm_ex d 225 537 [.ref mm_SC, .ref a1, .ref a2, .int x3] [] S else if p0 = nI 14 then mm_ex d 225 560 [.ref mm_SC, .ref a1, .ref a2, .int x3] [] S else if p0 = nI 15 then mm_ex d 225 593 [.ref mm_SC, .ref a1, .ref a2, .int x3] [] S else if p0 = nI 16 then mm_ex d 225 616 [.ref mm_SC, .ref a1, .ref a2, .int x3] [] S else if p0 = nI 17 then mm_ex d 225 639 [.ref mm_SC, .ref a1, .ref a2, .int x3] [] S else if p0 = nI 18 then mm_ex d 225 652 [.ref mm_SC, .ref a1, .ref a2, .int x3] [] S else if p0 = nI 19 then mm_ex d 225 675 [.ref mm_SC, .ref a1, .ref a2, .int x3] [] S else if p0 = nI 20 then mm_ex d 225 698 [.ref mm_SC, .ref a1, .ref a2, .int x3] [] S else if p0 = nI 21 then mm_ex d 225 721 [.ref mm_SC, .ref a1, .ref a2, .int x3] [] S else if p0 = nI 22 then mm_ex d 225 754 [.ref mm_SC, .ref a1, .ref a2, .int x3] [] S else if p0 = nI 23 then mm_ex d 225 777 [.ref mm_SC, .ref a1, .ref a2, .int x3] [] S else if p0 = nI 24 then mm_ex d 225 790 [.ref mm_SC, .ref a1, .ref a2, .int x3] [] S else if p0 = nI 25 then mm_ex d 225 823 [.ref mm_SC, .ref a1, .ref a2, .int x3] [] S else if p0 = nI 26 then mm_ex d 225 836 [.ref mm_SC, .ref a1, .ref a2, .int x3] [] S else if p0 = nI 27 then mm_ex d 225 849 [.ref mm_SC, .ref a1, .ref a2, .int x3] [] S else if p0 = nI 28 then mm_ex d 225 892 [.ref mm_SC, .ref a1, .ref a2, .int x3] [] S else if p0 = nI 29 then mm_ex d 225 915 [.ref mm_SC, .ref a1, .ref a2, .int x3] [] S else if p0 = nI 30 then mm_ex d 225 948 [.ref mm_SC, .ref a1, .ref a2, .int x3] [] S else if p0 = nI 31 then mm_ex d 225 971 [.ref mm_SC, .ref a1, .ref a2, .int x3] [] S else if p0 = nI 32 then mm_ex d 225 1014 [.ref mm_SC, .ref a1, .ref a2, .int x3] [] S else if p0 = nI 33 then mm_ex d 225 1087 [.ref mm_SC, .ref a1, .ref a2, .int x3] [] S else if p0 = nI 34 then mm_ex d 225 1120 [.ref mm_SC, .ref a1, .ref a2, .int x3] [] S else mm_ex d 225 1183 [.ref mm_SC, .ref a1, .ref a2, .int x3] [] S := by
  refine sw_c (fun e => by subst e; exact mx_tswI t225 d225_33 (by decide) (off := 155) (by decide) (by decide)) fun e0 => ?_
  refine sw_c (fun e => by subst e; exact mx_tswI t225 d225_33 (by decide) (off := 198) (by decide) (by decide)) fun e1 => ?_
  refine sw_c (fun e => by subst e; exact mx_tswI t225 d225_33 (by decide) (off := 231) (by decide) (by decide)) fun e2 => ?_
  refine sw_c (fun e => by subst e; exact mx_tswI t225 d225_33 (by decide) (off := 254) (by decide) (by decide)) fun e3 => ?_
  refine sw_c (fun e => by subst e; exact mx_tswI t225 d225_33 (by decide) (off := 287) (by decide) (by decide)) fun e4 => ?_
  refine sw_c (fun e => by subst e; exact mx_tswI t225 d225_33 (by decide) (off := 330) (by decide) (by decide)) fun e5 => ?_
  refine sw_c (fun e => by subst e; exact mx_tswI t225 d225_33 (by decide) (off := 353) (by decide) (by decide)) fun e6 => ?_
  refine sw_c (fun e => by subst e; exact mx_tswI t225 d225_33 (by decide) (off := 386) (by decide) (by decide)) fun e7 => ?_
  refine sw_c (fun e => by subst e; exact mx_tswI t225 d225_33 (by decide) (off := 409) (by decide) (by decide)) fun e8 => ?_
  refine sw_c (fun e => by subst e; exact mx_tswI t225 d225_33 (by decide) (off := 422) (by decide) (by decide)) fun e9 => ?_
  refine sw_c (fun e => by subst e; exact mx_tswI t225 d225_33 (by decide) (off := 445) (by decide) (by decide)) fun e10 => ?_
  refine sw_c (fun e => by subst e; exact mx_tswI t225 d225_33 (by decide) (off := 468) (by decide) (by decide)) fun e11 => ?_
  refine sw_c (fun e => by subst e; exact mx_tswI t225 d225_33 (by decide) (off := 481) (by decide) (by decide)) fun e12 => ?_
  refine sw_c (fun e => by subst e; exact mx_tswI t225 d225_33 (by decide) (off := 504) (by decide) (by decide)) fun e13 => ?_
  refine sw_c (fun e => by subst e; exact mx_tswI t225 d225_33 (by decide) (off := 527) (by decide) (by decide)) fun e14 => ?_
  refine sw_c (fun e => by subst e; exact mx_tswI t225 d225_33 (by decide) (off := 560) (by decide) (by decide)) fun e15 => ?_
  refine sw_c (fun e => by subst e; exact mx_tswI t225 d225_33 (by decide) (off := 583) (by decide) (by decide)) fun e16 => ?_
  refine sw_c (fun e => by subst e; exact mx_tswI t225 d225_33 (by decide) (off := 606) (by decide) (by decide)) fun e17 => ?_
  refine sw_c (fun e => by subst e; exact mx_tswI t225 d225_33 (by decide) (off := 619) (by decide) (by decide)) fun e18 => ?_
  refine sw_c (fun e => by subst e; exact mx_tswI t225 d225_33 (by decide) (off := 642) (by decide) (by decide)) fun e19 => ?_
  refine sw_c (fun e => by subst e; exact mx_tswI t225 d225_33 (by decide) (off := 665) (by decide) (by decide)) fun e20 => ?_
  refine sw_c (fun e => by subst e; exact mx_tswI t225 d225_33 (by decide) (off := 688) (by decide) (by decide)) fun e21 => ?_
  refine sw_c (fun e => by subst e; exact mx_tswI t225 d225_33 (by decide) (off := 721) (by decide) (by decide)) fun e22 => ?_
  refine sw_c (fun e => by subst e; exact mx_tswI t225 d225_33 (by decide) (off := 744) (by decide) (by decide)) fun e23 => ?_
  refine sw_c (fun e => by subst e; exact mx_tswI t225 d225_33 (by decide) (off := 757) (by decide) (by decide)) fun e24 => ?_
  refine sw_c (fun e => by subst e; exact mx_tswI t225 d225_33 (by decide) (off := 790) (by decide) (by decide)) fun e25 => ?_
  refine sw_c (fun e => by subst e; exact mx_tswI t225 d225_33 (by decide) (off := 803) (by decide) (by decide)) fun e26 => ?_
  refine sw_c (fun e => by subst e; exact mx_tswI t225 d225_33 (by decide) (off := 816) (by decide) (by decide)) fun e27 => ?_
  refine sw_c (fun e => by subst e; exact mx_tswI t225 d225_33 (by decide) (off := 859) (by decide) (by decide)) fun e28 => ?_
  refine sw_c (fun e => by subst e; exact mx_tswI t225 d225_33 (by decide) (off := 882) (by decide) (by decide)) fun e29 => ?_
  refine sw_c (fun e => by subst e; exact mx_tswI t225 d225_33 (by decide) (off := 915) (by decide) (by decide)) fun e30 => ?_
  refine sw_c (fun e => by subst e; exact mx_tswI t225 d225_33 (by decide) (off := 938) (by decide) (by decide)) fun e31 => ?_
  refine sw_c (fun e => by subst e; exact mx_tswI t225 d225_33 (by decide) (off := 981) (by decide) (by decide)) fun e32 => ?_
  refine sw_c (fun e => by subst e; exact mx_tswI t225 d225_33 (by decide) (off := 1054) (by decide) (by decide)) fun e33 => ?_
  refine sw_c (fun e => by subst e; exact mx_tswI t225 d225_33 (by decide) (off := 1087) (by decide) (by decide)) fun e34 => ?_
  exact mx_tswD t225 d225_33 (sw_e (by decide) (sw_s (n := 34) (k := nI 34) (by decide) (sw_s (n := 33) (k := nI 33) (by decide) (sw_s (n := 32) (k := nI 32) (by decide) (sw_s (n := 31) (k := nI 31) (by decide) (sw_s (n := 30) (k := nI 30) (by decide) (sw_s (n := 29) (k := nI 29) (by decide) (sw_s (n := 28) (k := nI 28) (by decide) (sw_s (n := 27) (k := nI 27) (by decide) (sw_s (n := 26) (k := nI 26) (by decide) (sw_s (n := 25) (k := nI 25) (by decide) (sw_s (n := 24) (k := nI 24) (by decide) (sw_s (n := 23) (k := nI 23) (by decide) (sw_s (n := 22) (k := nI 22) (by decide) (sw_s (n := 21) (k := nI 21) (by decide) (sw_s (n := 20) (k := nI 20) (by decide) (sw_s (n := 19) (k := nI 19) (by decide) (sw_s (n := 18) (k := nI 18) (by decide) (sw_s (n := 17) (k := nI 17) (by decide) (sw_s (n := 16) (k := nI 16) (by decide) (sw_s (n := 15) (k := nI 15) (by decide) (sw_s (n := 14) (k := nI 14) (by decide) (sw_s (n := 13) (k := nI 13) (by decide) (sw_s (n := 12) (k := nI 12) (by decide) (sw_s (n := 11) (k := nI 11) (by decide) (sw_s (n := 10) (k := nI 10) (by decide) (sw_s (n := 9) (k := nI 9) (by decide) (sw_s (n := 8) (k := nI 8) (by decide) (sw_s (n := 7) (k := nI 7) (by decide) (sw_s (n := 6) (k := nI 6) (by decide) (sw_s (n := 5) (k := nI 5) (by decide) (sw_s (n := 4) (k := nI 4) (by decide) (sw_s (n := 3) (k := nI 3) (by decide) (sw_s (n := 2) (k := nI 2) (by decide) (sw_s (n := 1) (k := nI 1) (by decide) (sw_s (n := 0) (k := nI 0) (by decide) sw_z e0) e1) e2) e3) e4) e5) e6) e7) e8) e9) e10) e11) e12) e13) e14) e15) e16) e17) e18) e19) e20) e21) e22) e23) e24) e25) e26) e27) e28) e29) e30) e31) e32) e33) e34)) (by decide)
theorem b225_188 {d : Nat} {S : mm_S} {a1 : Nat} {a2 : Nat} {x3 : Int32} (h0 : mm_arr S mm_SC 13 = false) (h1 : mm_inb (x3 + (nI 1)) (mm_N S mm_SC) = true) (h2 : mm_inb (x3 + (nI 2)) (mm_N S mm_SC) = true) (h3 : mm_inb (x3 + (nI 3)) (mm_N S mm_SC) = true) (h4 : mm_rk S a1 = 11) : mm_ex (d + 1) 225 188 [.ref mm_SC, .ref a1, .ref a2, .int x3] [] S =
    mm_bd (mm_cl d 73 [.ref a1, .int (mm_M S mm_SC (x3 + (nI 1)).toNatClampNeg), .int (mm_M S mm_SC (x3 + (nI 2)).toNatClampNeg), .int (mm_M S mm_SC (x3 + (nI 3)).toNatClampNeg)] S) (fun v S2 => mm_ex (d + 1) 225 207 [.ref mm_SC, .ref a1, .ref a2, .int x3] (v.toList ++ []) S2) :=
  Eq.trans (mx_aload_n t225 d225_188 (x := a1) rfl) <|
  Eq.trans (mx_aload_n t225 d225_189 (x := mm_SC) rfl) <|
  Eq.trans (mx_iload_n t225 d225_190 (x := x3) rfl) <|
  Eq.trans (mx_iconst t225 d225_191 (v := nI 1) rfl) <|
  Eq.trans (mx_iadd t225 d225_192) <|
  Eq.trans (mx_isc t225 d225_193 h0 rfl h1) <|
  Eq.trans (mx_aload_n t225 d225_194 (x := mm_SC) rfl) <|
  Eq.trans (mx_iload_n t225 d225_195 (x := x3) rfl) <|
  Eq.trans (mx_iconst t225 d225_196 (v := nI 2) rfl) <|
  Eq.trans (mx_iadd t225 d225_197) <|
  Eq.trans (mx_isc t225 d225_198 h0 rfl h2) <|
  Eq.trans (mx_aload_n t225 d225_199 (x := mm_SC) rfl) <|
  Eq.trans (mx_iload_n t225 d225_200 (x := x3) rfl) <|
  Eq.trans (mx_iconst t225 d225_201 (v := nI 3) rfl) <|
  Eq.trans (mx_iadd t225 d225_202) <|
  Eq.trans (mx_isc t225 d225_203 h0 rfl h3) <|
  (mx_virt (st := []) (k := 11) t225 [.int (mm_M S mm_SC (x3 + (nI 1)).toNatClampNeg), .int (mm_M S mm_SC (x3 + (nI 2)).toNatClampNeg), .int (mm_M S mm_SC (x3 + (nI 3)).toNatClampNeg)] d225_204 vt17_13 rfl rfl (Nat.le_of_ble_eq_true rfl) (Nat.le_of_ble_eq_true rfl) h4)
theorem b225_207 {d : Nat} {S : mm_S} {a1 : Nat} {a2 : Nat} {x3 : Int32} {p0 : Int32} (h0 : mm_arr S mm_SC 13 = false) (h1 : mm_inb (x3 + (nI 1)) (mm_N S mm_SC) = true) (h2 : mm_inb (x3 + (nI 2)) (mm_N S mm_SC) = true) (h3 : mm_inb (x3 + (nI 3)) (mm_N S mm_SC) = true) (h4 : mm_rk S a2 = 12) : mm_ex (d + 1) 225 207 [.ref mm_SC, .ref a1, .ref a2, .int x3] [.int p0] S =
    mm_bd (mm_cl d 131 [.ref a2, .int (mm_M S mm_SC (x3 + (nI 1)).toNatClampNeg), .int (mm_M S mm_SC (x3 + (nI 2)).toNatClampNeg), .int (mm_M S mm_SC (x3 + (nI 3)).toNatClampNeg)] S) (fun v S2 => mm_ex (d + 1) 225 227 [.ref mm_SC, .ref a1, .ref a2, .int x3] (v.toList ++ []) S2) :=
  Eq.trans (mx_popi t225 d225_207) <|
  Eq.trans (mx_aload_n t225 d225_208 (x := a2) rfl) <|
  Eq.trans (mx_aload_n t225 d225_209 (x := mm_SC) rfl) <|
  Eq.trans (mx_iload_n t225 d225_210 (x := x3) rfl) <|
  Eq.trans (mx_iconst t225 d225_211 (v := nI 1) rfl) <|
  Eq.trans (mx_iadd t225 d225_212) <|
  Eq.trans (mx_isc t225 d225_213 h0 rfl h1) <|
  Eq.trans (mx_aload_n t225 d225_214 (x := mm_SC) rfl) <|
  Eq.trans (mx_iload_n t225 d225_215 (x := x3) rfl) <|
  Eq.trans (mx_iconst t225 d225_216 (v := nI 2) rfl) <|
  Eq.trans (mx_iadd t225 d225_217) <|
  Eq.trans (mx_isc t225 d225_218 h0 rfl h2) <|
  Eq.trans (mx_aload_n t225 d225_219 (x := mm_SC) rfl) <|
  Eq.trans (mx_iload_n t225 d225_220 (x := x3) rfl) <|
  Eq.trans (mx_iconst t225 d225_221 (v := nI 3) rfl) <|
  Eq.trans (mx_iadd t225 d225_222) <|
  Eq.trans (mx_isc t225 d225_223 h0 rfl h3) <|
  (mx_virt (st := []) (k := 12) t225 [.int (mm_M S mm_SC (x3 + (nI 1)).toNatClampNeg), .int (mm_M S mm_SC (x3 + (nI 2)).toNatClampNeg), .int (mm_M S mm_SC (x3 + (nI 3)).toNatClampNeg)] d225_224 vt17_17 rfl rfl (Nat.le_of_ble_eq_true rfl) (Nat.le_of_ble_eq_true rfl) h4)
theorem b225_227 {d : Nat} {S : mm_S} {a1 : Nat} {a2 : Nat} {x3 : Int32} {p0 : Int32} : mm_ex d 225 227 [.ref mm_SC, .ref a1, .ref a2, .int x3] [.int p0] S =
    mm_ex d 225 18 [.ref mm_SC, .ref a1, .ref a2, .int (x3 + nI 6)] [] S :=
  Eq.trans (mx_popi t225 d225_227) <|
  Eq.trans (mx_goto t225 d225_228 (tgt := 1183) (by decide)) <|
  Eq.trans (mx_iinc t225 d225_1183 (x := x3) (v := nI 6) (ls' := [.ref mm_SC, .ref a1, .ref a2, .int (x3 + nI 6)]) rfl rfl rfl rfl) <|
  (mx_goto t225 d225_1186 (tgt := 18) (by decide))
theorem b225_231 {d : Nat} {S : mm_S} {a1 : Nat} {a2 : Nat} {x3 : Int32} (h0 : mm_arr S mm_SC 13 = false) (h1 : mm_inb (x3 + (nI 1)) (mm_N S mm_SC) = true) (h2 : mm_inb (x3 + (nI 2)) (mm_N S mm_SC) = true) (h3 : mm_rk S a1 = 11) : mm_ex (d + 1) 225 231 [.ref mm_SC, .ref a1, .ref a2, .int x3] [] S =
    mm_bd (mm_cl d 74 [.ref a1, .int (mm_M S mm_SC (x3 + (nI 1)).toNatClampNeg), .int (mm_M S mm_SC (x3 + (nI 2)).toNatClampNeg)] S) (fun v S2 => mm_ex (d + 1) 225 245 [.ref mm_SC, .ref a1, .ref a2, .int x3] (v.toList ++ []) S2) :=
  Eq.trans (mx_aload_n t225 d225_231 (x := a1) rfl) <|
  Eq.trans (mx_aload_n t225 d225_232 (x := mm_SC) rfl) <|
  Eq.trans (mx_iload_n t225 d225_233 (x := x3) rfl) <|
  Eq.trans (mx_iconst t225 d225_234 (v := nI 1) rfl) <|
  Eq.trans (mx_iadd t225 d225_235) <|
  Eq.trans (mx_isc t225 d225_236 h0 rfl h1) <|
  Eq.trans (mx_aload_n t225 d225_237 (x := mm_SC) rfl) <|
  Eq.trans (mx_iload_n t225 d225_238 (x := x3) rfl) <|
  Eq.trans (mx_iconst t225 d225_239 (v := nI 2) rfl) <|
  Eq.trans (mx_iadd t225 d225_240) <|
  Eq.trans (mx_isc t225 d225_241 h0 rfl h2) <|
  (mx_virt (st := []) (k := 11) t225 [.int (mm_M S mm_SC (x3 + (nI 1)).toNatClampNeg), .int (mm_M S mm_SC (x3 + (nI 2)).toNatClampNeg)] d225_242 vt17_18 rfl rfl (Nat.le_of_ble_eq_true rfl) (Nat.le_of_ble_eq_true rfl) h3)
theorem b225_245 {d : Nat} {S : mm_S} {a1 : Nat} {a2 : Nat} {x3 : Int32} {p0 : Int32} (h0 : mm_arr S mm_SC 13 = false) (h1 : mm_inb (x3 + (nI 1)) (mm_N S mm_SC) = true) (h2 : mm_inb (x3 + (nI 2)) (mm_N S mm_SC) = true) (h3 : mm_rk S a2 = 12) : mm_ex (d + 1) 225 245 [.ref mm_SC, .ref a1, .ref a2, .int x3] [.int p0] S =
    mm_bd (mm_cl d 132 [.ref a2, .int (mm_M S mm_SC (x3 + (nI 1)).toNatClampNeg), .int (mm_M S mm_SC (x3 + (nI 2)).toNatClampNeg)] S) (fun v S2 => mm_ex (d + 1) 225 260 [.ref mm_SC, .ref a1, .ref a2, .int x3] (v.toList ++ []) S2) :=
  Eq.trans (mx_popi t225 d225_245) <|
  Eq.trans (mx_aload_n t225 d225_246 (x := a2) rfl) <|
  Eq.trans (mx_aload_n t225 d225_247 (x := mm_SC) rfl) <|
  Eq.trans (mx_iload_n t225 d225_248 (x := x3) rfl) <|
  Eq.trans (mx_iconst t225 d225_249 (v := nI 1) rfl) <|
  Eq.trans (mx_iadd t225 d225_250) <|
  Eq.trans (mx_isc t225 d225_251 h0 rfl h1) <|
  Eq.trans (mx_aload_n t225 d225_252 (x := mm_SC) rfl) <|
  Eq.trans (mx_iload_n t225 d225_253 (x := x3) rfl) <|
  Eq.trans (mx_iconst t225 d225_254 (v := nI 2) rfl) <|
  Eq.trans (mx_iadd t225 d225_255) <|
  Eq.trans (mx_isc t225 d225_256 h0 rfl h2) <|
  (mx_virt (st := []) (k := 12) t225 [.int (mm_M S mm_SC (x3 + (nI 1)).toNatClampNeg), .int (mm_M S mm_SC (x3 + (nI 2)).toNatClampNeg)] d225_257 vt17_22 rfl rfl (Nat.le_of_ble_eq_true rfl) (Nat.le_of_ble_eq_true rfl) h3)
theorem b225_260 {d : Nat} {S : mm_S} {a1 : Nat} {a2 : Nat} {x3 : Int32} {p0 : Int32} : mm_ex d 225 260 [.ref mm_SC, .ref a1, .ref a2, .int x3] [.int p0] S =
    mm_ex d 225 18 [.ref mm_SC, .ref a1, .ref a2, .int (x3 + nI 6)] [] S :=
  Eq.trans (mx_popi t225 d225_260) <|
  Eq.trans (mx_goto t225 d225_261 (tgt := 1183) (by decide)) <|
  Eq.trans (mx_iinc t225 d225_1183 (x := x3) (v := nI 6) (ls' := [.ref mm_SC, .ref a1, .ref a2, .int (x3 + nI 6)]) rfl rfl rfl rfl) <|
  (mx_goto t225 d225_1186 (tgt := 18) (by decide))
theorem b225_264 {d : Nat} {S : mm_S} {a1 : Nat} {a2 : Nat} {x3 : Int32} (h0 : mm_arr S mm_SC 13 = false) (h1 : mm_inb (x3 + (nI 1)) (mm_N S mm_SC) = true) (h2 : mm_rk S a1 = 11) : mm_ex (d + 1) 225 264 [.ref mm_SC, .ref a1, .ref a2, .int x3] [] S =
    mm_bd (mm_cl d 75 [.ref a1, .int (mm_M S mm_SC (x3 + (nI 1)).toNatClampNeg)] S) (fun v S2 => mm_ex (d + 1) 225 273 [.ref mm_SC, .ref a1, .ref a2, .int x3] (v.toList ++ []) S2) :=
  Eq.trans (mx_aload_n t225 d225_264 (x := a1) rfl) <|
  Eq.trans (mx_aload_n t225 d225_265 (x := mm_SC) rfl) <|
  Eq.trans (mx_iload_n t225 d225_266 (x := x3) rfl) <|
  Eq.trans (mx_iconst t225 d225_267 (v := nI 1) rfl) <|
  Eq.trans (mx_iadd t225 d225_268) <|
  Eq.trans (mx_isc t225 d225_269 h0 rfl h1) <|
  (mx_virt (st := []) (k := 11) t225 [.int (mm_M S mm_SC (x3 + (nI 1)).toNatClampNeg)] d225_270 vt17_23 rfl rfl (Nat.le_of_ble_eq_true rfl) (Nat.le_of_ble_eq_true rfl) h2)
theorem b225_273 {d : Nat} {S : mm_S} {a1 : Nat} {a2 : Nat} {x3 : Int32} {p0 : Int32} (h0 : mm_arr S mm_SC 13 = false) (h1 : mm_inb (x3 + (nI 1)) (mm_N S mm_SC) = true) (h2 : mm_rk S a2 = 12) : mm_ex (d + 1) 225 273 [.ref mm_SC, .ref a1, .ref a2, .int x3] [.int p0] S =
    mm_bd (mm_cl d 133 [.ref a2, .int (mm_M S mm_SC (x3 + (nI 1)).toNatClampNeg)] S) (fun v S2 => mm_ex (d + 1) 225 283 [.ref mm_SC, .ref a1, .ref a2, .int x3] (v.toList ++ []) S2) :=
  Eq.trans (mx_popi t225 d225_273) <|
  Eq.trans (mx_aload_n t225 d225_274 (x := a2) rfl) <|
  Eq.trans (mx_aload_n t225 d225_275 (x := mm_SC) rfl) <|
  Eq.trans (mx_iload_n t225 d225_276 (x := x3) rfl) <|
  Eq.trans (mx_iconst t225 d225_277 (v := nI 1) rfl) <|
  Eq.trans (mx_iadd t225 d225_278) <|
  Eq.trans (mx_isc t225 d225_279 h0 rfl h1) <|
  (mx_virt (st := []) (k := 12) t225 [.int (mm_M S mm_SC (x3 + (nI 1)).toNatClampNeg)] d225_280 vt17_27 rfl rfl (Nat.le_of_ble_eq_true rfl) (Nat.le_of_ble_eq_true rfl) h2)
theorem b225_283 {d : Nat} {S : mm_S} {a1 : Nat} {a2 : Nat} {x3 : Int32} {p0 : Int32} : mm_ex d 225 283 [.ref mm_SC, .ref a1, .ref a2, .int x3] [.int p0] S =
    mm_ex d 225 18 [.ref mm_SC, .ref a1, .ref a2, .int (x3 + nI 6)] [] S :=
  Eq.trans (mx_popi t225 d225_283) <|
  Eq.trans (mx_goto t225 d225_284 (tgt := 1183) (by decide)) <|
  Eq.trans (mx_iinc t225 d225_1183 (x := x3) (v := nI 6) (ls' := [.ref mm_SC, .ref a1, .ref a2, .int (x3 + nI 6)]) rfl rfl rfl rfl) <|
  (mx_goto t225 d225_1186 (tgt := 18) (by decide))
theorem b225_287 {d : Nat} {S : mm_S} {a1 : Nat} {a2 : Nat} {x3 : Int32} (h0 : mm_arr S mm_SC 13 = false) (h1 : mm_inb (x3 + (nI 1)) (mm_N S mm_SC) = true) (h2 : mm_inb (x3 + (nI 2)) (mm_N S mm_SC) = true) (h3 : mm_rk S a1 = 11) : mm_ex (d + 1) 225 287 [.ref mm_SC, .ref a1, .ref a2, .int x3] [] S =
    mm_bd (mm_cl d 76 [.ref a1, .int (mm_M S mm_SC (x3 + (nI 1)).toNatClampNeg), .int (mm_M S mm_SC (x3 + (nI 2)).toNatClampNeg)] S) (fun v S2 => mm_ex (d + 1) 225 301 [.ref mm_SC, .ref a1, .ref a2, .int x3] (v.toList ++ []) S2) :=
  Eq.trans (mx_aload_n t225 d225_287 (x := a1) rfl) <|
  Eq.trans (mx_aload_n t225 d225_288 (x := mm_SC) rfl) <|
  Eq.trans (mx_iload_n t225 d225_289 (x := x3) rfl) <|
  Eq.trans (mx_iconst t225 d225_290 (v := nI 1) rfl) <|
  Eq.trans (mx_iadd t225 d225_291) <|
  Eq.trans (mx_isc t225 d225_292 h0 rfl h1) <|
  Eq.trans (mx_aload_n t225 d225_293 (x := mm_SC) rfl) <|
  Eq.trans (mx_iload_n t225 d225_294 (x := x3) rfl) <|
  Eq.trans (mx_iconst t225 d225_295 (v := nI 2) rfl) <|
  Eq.trans (mx_iadd t225 d225_296) <|
  Eq.trans (mx_isc t225 d225_297 h0 rfl h2) <|
  (mx_virt (st := []) (k := 11) t225 [.int (mm_M S mm_SC (x3 + (nI 1)).toNatClampNeg), .int (mm_M S mm_SC (x3 + (nI 2)).toNatClampNeg)] d225_298 vt17_28 rfl rfl (Nat.le_of_ble_eq_true rfl) (Nat.le_of_ble_eq_true rfl) h3)
theorem b225_301 {d : Nat} {S : mm_S} {a1 : Nat} {a2 : Nat} {x3 : Int32} {p0 : Int32} (h0 : mm_arr S mm_SC 13 = false) (h1 : mm_inb (x3 + (nI 1)) (mm_N S mm_SC) = true) (h2 : mm_inb (x3 + (nI 2)) (mm_N S mm_SC) = true) (h3 : mm_rk S a2 = 12) : mm_ex (d + 1) 225 301 [.ref mm_SC, .ref a1, .ref a2, .int x3] [.int p0] S =
    mm_bd (mm_cl d 134 [.ref a2, .int (mm_M S mm_SC (x3 + (nI 1)).toNatClampNeg), .int (mm_M S mm_SC (x3 + (nI 2)).toNatClampNeg)] S) (fun v S2 => mm_ex (d + 1) 225 316 [.ref mm_SC, .ref a1, .ref a2, .int x3] (v.toList ++ []) S2) :=
  Eq.trans (mx_popi t225 d225_301) <|
  Eq.trans (mx_aload_n t225 d225_302 (x := a2) rfl) <|
  Eq.trans (mx_aload_n t225 d225_303 (x := mm_SC) rfl) <|
  Eq.trans (mx_iload_n t225 d225_304 (x := x3) rfl) <|
  Eq.trans (mx_iconst t225 d225_305 (v := nI 1) rfl) <|
  Eq.trans (mx_iadd t225 d225_306) <|
  Eq.trans (mx_isc t225 d225_307 h0 rfl h1) <|
  Eq.trans (mx_aload_n t225 d225_308 (x := mm_SC) rfl) <|
  Eq.trans (mx_iload_n t225 d225_309 (x := x3) rfl) <|
  Eq.trans (mx_iconst t225 d225_310 (v := nI 2) rfl) <|
  Eq.trans (mx_iadd t225 d225_311) <|
  Eq.trans (mx_isc t225 d225_312 h0 rfl h2) <|
  (mx_virt (st := []) (k := 12) t225 [.int (mm_M S mm_SC (x3 + (nI 1)).toNatClampNeg), .int (mm_M S mm_SC (x3 + (nI 2)).toNatClampNeg)] d225_313 vt17_31 rfl rfl (Nat.le_of_ble_eq_true rfl) (Nat.le_of_ble_eq_true rfl) h3)
theorem b225_316 {d : Nat} {S : mm_S} {a1 : Nat} {a2 : Nat} {x3 : Int32} {p0 : Int32} : mm_ex d 225 316 [.ref mm_SC, .ref a1, .ref a2, .int x3] [.int p0] S =
    mm_ex d 225 18 [.ref mm_SC, .ref a1, .ref a2, .int (x3 + nI 6)] [] S :=
  Eq.trans (mx_popi t225 d225_316) <|
  Eq.trans (mx_goto t225 d225_317 (tgt := 1183) (by decide)) <|
  Eq.trans (mx_iinc t225 d225_1183 (x := x3) (v := nI 6) (ls' := [.ref mm_SC, .ref a1, .ref a2, .int (x3 + nI 6)]) rfl rfl rfl rfl) <|
  (mx_goto t225 d225_1186 (tgt := 18) (by decide))
theorem b225_320 {d : Nat} {S : mm_S} {a1 : Nat} {a2 : Nat} {x3 : Int32} (h0 : mm_arr S mm_SC 13 = false) (h1 : mm_inb (x3 + (nI 1)) (mm_N S mm_SC) = true) (h2 : mm_inb (x3 + (nI 2)) (mm_N S mm_SC) = true) (h3 : mm_inb (x3 + (nI 3)) (mm_N S mm_SC) = true) (h4 : mm_rk S a1 = 11) : mm_ex (d + 1) 225 320 [.ref mm_SC, .ref a1, .ref a2, .int x3] [] S =
    mm_bd (mm_cl d 77 [.ref a1, .int (mm_M S mm_SC (x3 + (nI 1)).toNatClampNeg), .int (mm_M S mm_SC (x3 + (nI 2)).toNatClampNeg), .int (mm_M S mm_SC (x3 + (nI 3)).toNatClampNeg)] S) (fun v S2 => mm_ex (d + 1) 225 339 [.ref mm_SC, .ref a1, .ref a2, .int x3] (v.toList ++ []) S2) :=
  Eq.trans (mx_aload_n t225 d225_320 (x := a1) rfl) <|
  Eq.trans (mx_aload_n t225 d225_321 (x := mm_SC) rfl) <|
  Eq.trans (mx_iload_n t225 d225_322 (x := x3) rfl) <|
  Eq.trans (mx_iconst t225 d225_323 (v := nI 1) rfl) <|
  Eq.trans (mx_iadd t225 d225_324) <|
  Eq.trans (mx_isc t225 d225_325 h0 rfl h1) <|
  Eq.trans (mx_aload_n t225 d225_326 (x := mm_SC) rfl) <|
  Eq.trans (mx_iload_n t225 d225_327 (x := x3) rfl) <|
  Eq.trans (mx_iconst t225 d225_328 (v := nI 2) rfl) <|
  Eq.trans (mx_iadd t225 d225_329) <|
  Eq.trans (mx_isc t225 d225_330 h0 rfl h2) <|
  Eq.trans (mx_aload_n t225 d225_331 (x := mm_SC) rfl) <|
  Eq.trans (mx_iload_n t225 d225_332 (x := x3) rfl) <|
  Eq.trans (mx_iconst t225 d225_333 (v := nI 3) rfl) <|
  Eq.trans (mx_iadd t225 d225_334) <|
  Eq.trans (mx_isc t225 d225_335 h0 rfl h3) <|
  (mx_virt (st := []) (k := 11) t225 [.int (mm_M S mm_SC (x3 + (nI 1)).toNatClampNeg), .int (mm_M S mm_SC (x3 + (nI 2)).toNatClampNeg), .int (mm_M S mm_SC (x3 + (nI 3)).toNatClampNeg)] d225_336 vt17_32 rfl rfl (Nat.le_of_ble_eq_true rfl) (Nat.le_of_ble_eq_true rfl) h4)
theorem b225_339 {d : Nat} {S : mm_S} {a1 : Nat} {a2 : Nat} {x3 : Int32} {p0 : Int32} (h0 : mm_arr S mm_SC 13 = false) (h1 : mm_inb (x3 + (nI 1)) (mm_N S mm_SC) = true) (h2 : mm_inb (x3 + (nI 2)) (mm_N S mm_SC) = true) (h3 : mm_inb (x3 + (nI 3)) (mm_N S mm_SC) = true) (h4 : mm_rk S a2 = 12) : mm_ex (d + 1) 225 339 [.ref mm_SC, .ref a1, .ref a2, .int x3] [.int p0] S =
    mm_bd (mm_cl d 135 [.ref a2, .int (mm_M S mm_SC (x3 + (nI 1)).toNatClampNeg), .int (mm_M S mm_SC (x3 + (nI 2)).toNatClampNeg), .int (mm_M S mm_SC (x3 + (nI 3)).toNatClampNeg)] S) (fun v S2 => mm_ex (d + 1) 225 359 [.ref mm_SC, .ref a1, .ref a2, .int x3] (v.toList ++ []) S2) :=
  Eq.trans (mx_popi t225 d225_339) <|
  Eq.trans (mx_aload_n t225 d225_340 (x := a2) rfl) <|
  Eq.trans (mx_aload_n t225 d225_341 (x := mm_SC) rfl) <|
  Eq.trans (mx_iload_n t225 d225_342 (x := x3) rfl) <|
  Eq.trans (mx_iconst t225 d225_343 (v := nI 1) rfl) <|
  Eq.trans (mx_iadd t225 d225_344) <|
  Eq.trans (mx_isc t225 d225_345 h0 rfl h1) <|
  Eq.trans (mx_aload_n t225 d225_346 (x := mm_SC) rfl) <|
  Eq.trans (mx_iload_n t225 d225_347 (x := x3) rfl) <|
  Eq.trans (mx_iconst t225 d225_348 (v := nI 2) rfl) <|
  Eq.trans (mx_iadd t225 d225_349) <|
  Eq.trans (mx_isc t225 d225_350 h0 rfl h2) <|
  Eq.trans (mx_aload_n t225 d225_351 (x := mm_SC) rfl) <|
  Eq.trans (mx_iload_n t225 d225_352 (x := x3) rfl) <|
  Eq.trans (mx_iconst t225 d225_353 (v := nI 3) rfl) <|
  Eq.trans (mx_iadd t225 d225_354) <|
  Eq.trans (mx_isc t225 d225_355 h0 rfl h3) <|
  (mx_virt (st := []) (k := 12) t225 [.int (mm_M S mm_SC (x3 + (nI 1)).toNatClampNeg), .int (mm_M S mm_SC (x3 + (nI 2)).toNatClampNeg), .int (mm_M S mm_SC (x3 + (nI 3)).toNatClampNeg)] d225_356 vt17_35 rfl rfl (Nat.le_of_ble_eq_true rfl) (Nat.le_of_ble_eq_true rfl) h4)
theorem b225_359 {d : Nat} {S : mm_S} {a1 : Nat} {a2 : Nat} {x3 : Int32} {p0 : Int32} : mm_ex d 225 359 [.ref mm_SC, .ref a1, .ref a2, .int x3] [.int p0] S =
    mm_ex d 225 18 [.ref mm_SC, .ref a1, .ref a2, .int (x3 + nI 6)] [] S :=
  Eq.trans (mx_popi t225 d225_359) <|
  Eq.trans (mx_goto t225 d225_360 (tgt := 1183) (by decide)) <|
  Eq.trans (mx_iinc t225 d225_1183 (x := x3) (v := nI 6) (ls' := [.ref mm_SC, .ref a1, .ref a2, .int (x3 + nI 6)]) rfl rfl rfl rfl) <|
  (mx_goto t225 d225_1186 (tgt := 18) (by decide))
theorem b225_363 {d : Nat} {S : mm_S} {a1 : Nat} {a2 : Nat} {x3 : Int32} (h0 : mm_arr S mm_SC 13 = false) (h1 : mm_inb (x3 + (nI 1)) (mm_N S mm_SC) = true) (h2 : mm_rk S a1 = 11) : mm_ex (d + 1) 225 363 [.ref mm_SC, .ref a1, .ref a2, .int x3] [] S =
    mm_bd (mm_cl d 78 [.ref a1, .int (mm_M S mm_SC (x3 + (nI 1)).toNatClampNeg)] S) (fun v S2 => mm_ex (d + 1) 225 372 [.ref mm_SC, .ref a1, .ref a2, .int x3] (v.toList ++ []) S2) :=
  Eq.trans (mx_aload_n t225 d225_363 (x := a1) rfl) <|
  Eq.trans (mx_aload_n t225 d225_364 (x := mm_SC) rfl) <|
  Eq.trans (mx_iload_n t225 d225_365 (x := x3) rfl) <|
  Eq.trans (mx_iconst t225 d225_366 (v := nI 1) rfl) <|
  Eq.trans (mx_iadd t225 d225_367) <|
  Eq.trans (mx_isc t225 d225_368 h0 rfl h1) <|
  (mx_virt (st := []) (k := 11) t225 [.int (mm_M S mm_SC (x3 + (nI 1)).toNatClampNeg)] d225_369 vt17_36 rfl rfl (Nat.le_of_ble_eq_true rfl) (Nat.le_of_ble_eq_true rfl) h2)
theorem b225_372 {d : Nat} {S : mm_S} {a1 : Nat} {a2 : Nat} {x3 : Int32} {p0 : Int32} (h0 : mm_arr S mm_SC 13 = false) (h1 : mm_inb (x3 + (nI 1)) (mm_N S mm_SC) = true) (h2 : mm_rk S a2 = 12) : mm_ex (d + 1) 225 372 [.ref mm_SC, .ref a1, .ref a2, .int x3] [.int p0] S =
    mm_bd (mm_cl d 136 [.ref a2, .int (mm_M S mm_SC (x3 + (nI 1)).toNatClampNeg)] S) (fun v S2 => mm_ex (d + 1) 225 382 [.ref mm_SC, .ref a1, .ref a2, .int x3] (v.toList ++ []) S2) :=
  Eq.trans (mx_popi t225 d225_372) <|
  Eq.trans (mx_aload_n t225 d225_373 (x := a2) rfl) <|
  Eq.trans (mx_aload_n t225 d225_374 (x := mm_SC) rfl) <|
  Eq.trans (mx_iload_n t225 d225_375 (x := x3) rfl) <|
  Eq.trans (mx_iconst t225 d225_376 (v := nI 1) rfl) <|
  Eq.trans (mx_iadd t225 d225_377) <|
  Eq.trans (mx_isc t225 d225_378 h0 rfl h1) <|
  (mx_virt (st := []) (k := 12) t225 [.int (mm_M S mm_SC (x3 + (nI 1)).toNatClampNeg)] d225_379 vt17_39 rfl rfl (Nat.le_of_ble_eq_true rfl) (Nat.le_of_ble_eq_true rfl) h2)
theorem b225_382 {d : Nat} {S : mm_S} {a1 : Nat} {a2 : Nat} {x3 : Int32} {p0 : Int32} : mm_ex d 225 382 [.ref mm_SC, .ref a1, .ref a2, .int x3] [.int p0] S =
    mm_ex d 225 18 [.ref mm_SC, .ref a1, .ref a2, .int (x3 + nI 6)] [] S :=
  Eq.trans (mx_popi t225 d225_382) <|
  Eq.trans (mx_goto t225 d225_383 (tgt := 1183) (by decide)) <|
  Eq.trans (mx_iinc t225 d225_1183 (x := x3) (v := nI 6) (ls' := [.ref mm_SC, .ref a1, .ref a2, .int (x3 + nI 6)]) rfl rfl rfl rfl) <|
  (mx_goto t225 d225_1186 (tgt := 18) (by decide))
theorem b225_386 {d : Nat} {S : mm_S} {a1 : Nat} {a2 : Nat} {x3 : Int32} (h0 : mm_arr S mm_SC 13 = false) (h1 : mm_inb (x3 + (nI 1)) (mm_N S mm_SC) = true) (h2 : mm_inb (x3 + (nI 2)) (mm_N S mm_SC) = true) (h3 : mm_rk S a1 = 11) : mm_ex (d + 1) 225 386 [.ref mm_SC, .ref a1, .ref a2, .int x3] [] S =
    mm_bd (mm_cl d 79 [.ref a1, .int (mm_M S mm_SC (x3 + (nI 1)).toNatClampNeg), .int (mm_M S mm_SC (x3 + (nI 2)).toNatClampNeg)] S) (fun v S2 => mm_ex (d + 1) 225 400 [.ref mm_SC, .ref a1, .ref a2, .int x3] (v.toList ++ []) S2) :=
  Eq.trans (mx_aload_n t225 d225_386 (x := a1) rfl) <|
  Eq.trans (mx_aload_n t225 d225_387 (x := mm_SC) rfl) <|
  Eq.trans (mx_iload_n t225 d225_388 (x := x3) rfl) <|
  Eq.trans (mx_iconst t225 d225_389 (v := nI 1) rfl) <|
  Eq.trans (mx_iadd t225 d225_390) <|
  Eq.trans (mx_isc t225 d225_391 h0 rfl h1) <|
  Eq.trans (mx_aload_n t225 d225_392 (x := mm_SC) rfl) <|
  Eq.trans (mx_iload_n t225 d225_393 (x := x3) rfl) <|
  Eq.trans (mx_iconst t225 d225_394 (v := nI 2) rfl) <|
  Eq.trans (mx_iadd t225 d225_395) <|
  Eq.trans (mx_isc t225 d225_396 h0 rfl h2) <|
  (mx_virt (st := []) (k := 11) t225 [.int (mm_M S mm_SC (x3 + (nI 1)).toNatClampNeg), .int (mm_M S mm_SC (x3 + (nI 2)).toNatClampNeg)] d225_397 vt17_40 rfl rfl (Nat.le_of_ble_eq_true rfl) (Nat.le_of_ble_eq_true rfl) h3)
theorem b225_400 {d : Nat} {S : mm_S} {a1 : Nat} {a2 : Nat} {x3 : Int32} {p0 : Int32} (h0 : mm_arr S mm_SC 13 = false) (h1 : mm_inb (x3 + (nI 1)) (mm_N S mm_SC) = true) (h2 : mm_inb (x3 + (nI 2)) (mm_N S mm_SC) = true) (h3 : mm_rk S a2 = 12) : mm_ex (d + 1) 225 400 [.ref mm_SC, .ref a1, .ref a2, .int x3] [.int p0] S =
    mm_bd (mm_cl d 137 [.ref a2, .int (mm_M S mm_SC (x3 + (nI 1)).toNatClampNeg), .int (mm_M S mm_SC (x3 + (nI 2)).toNatClampNeg)] S) (fun v S2 => mm_ex (d + 1) 225 415 [.ref mm_SC, .ref a1, .ref a2, .int x3] (v.toList ++ []) S2) :=
  Eq.trans (mx_popi t225 d225_400) <|
  Eq.trans (mx_aload_n t225 d225_401 (x := a2) rfl) <|
  Eq.trans (mx_aload_n t225 d225_402 (x := mm_SC) rfl) <|
  Eq.trans (mx_iload_n t225 d225_403 (x := x3) rfl) <|
  Eq.trans (mx_iconst t225 d225_404 (v := nI 1) rfl) <|
  Eq.trans (mx_iadd t225 d225_405) <|
  Eq.trans (mx_isc t225 d225_406 h0 rfl h1) <|
  Eq.trans (mx_aload_n t225 d225_407 (x := mm_SC) rfl) <|
  Eq.trans (mx_iload_n t225 d225_408 (x := x3) rfl) <|
  Eq.trans (mx_iconst t225 d225_409 (v := nI 2) rfl) <|
  Eq.trans (mx_iadd t225 d225_410) <|
  Eq.trans (mx_isc t225 d225_411 h0 rfl h2) <|
  (mx_virt (st := []) (k := 12) t225 [.int (mm_M S mm_SC (x3 + (nI 1)).toNatClampNeg), .int (mm_M S mm_SC (x3 + (nI 2)).toNatClampNeg)] d225_412 vt17_43 rfl rfl (Nat.le_of_ble_eq_true rfl) (Nat.le_of_ble_eq_true rfl) h3)
theorem b225_415 {d : Nat} {S : mm_S} {a1 : Nat} {a2 : Nat} {x3 : Int32} {p0 : Int32} : mm_ex d 225 415 [.ref mm_SC, .ref a1, .ref a2, .int x3] [.int p0] S =
    mm_ex d 225 18 [.ref mm_SC, .ref a1, .ref a2, .int (x3 + nI 6)] [] S :=
  Eq.trans (mx_popi t225 d225_415) <|
  Eq.trans (mx_goto t225 d225_416 (tgt := 1183) (by decide)) <|
  Eq.trans (mx_iinc t225 d225_1183 (x := x3) (v := nI 6) (ls' := [.ref mm_SC, .ref a1, .ref a2, .int (x3 + nI 6)]) rfl rfl rfl rfl) <|
  (mx_goto t225 d225_1186 (tgt := 18) (by decide))
theorem b225_419 {d : Nat} {S : mm_S} {a1 : Nat} {a2 : Nat} {x3 : Int32} (h0 : mm_arr S mm_SC 13 = false) (h1 : mm_inb (x3 + (nI 1)) (mm_N S mm_SC) = true) (h2 : mm_rk S a1 = 11) : mm_ex (d + 1) 225 419 [.ref mm_SC, .ref a1, .ref a2, .int x3] [] S =
    mm_bd (mm_cl d 80 [.ref a1, .int (mm_M S mm_SC (x3 + (nI 1)).toNatClampNeg)] S) (fun v S2 => mm_ex (d + 1) 225 428 [.ref mm_SC, .ref a1, .ref a2, .int x3] (v.toList ++ []) S2) :=
  Eq.trans (mx_aload_n t225 d225_419 (x := a1) rfl) <|
  Eq.trans (mx_aload_n t225 d225_420 (x := mm_SC) rfl) <|
  Eq.trans (mx_iload_n t225 d225_421 (x := x3) rfl) <|
  Eq.trans (mx_iconst t225 d225_422 (v := nI 1) rfl) <|
  Eq.trans (mx_iadd t225 d225_423) <|
  Eq.trans (mx_isc t225 d225_424 h0 rfl h1) <|
  (mx_virt (st := []) (k := 11) t225 [.int (mm_M S mm_SC (x3 + (nI 1)).toNatClampNeg)] d225_425 vt17_44 rfl rfl (Nat.le_of_ble_eq_true rfl) (Nat.le_of_ble_eq_true rfl) h2)
theorem b225_428 {d : Nat} {S : mm_S} {a1 : Nat} {a2 : Nat} {x3 : Int32} {p0 : Int32} (h0 : mm_arr S mm_SC 13 = false) (h1 : mm_inb (x3 + (nI 1)) (mm_N S mm_SC) = true) (h2 : mm_rk S a2 = 12) : mm_ex (d + 1) 225 428 [.ref mm_SC, .ref a1, .ref a2, .int x3] [.int p0] S =
    mm_bd (mm_cl d 138 [.ref a2, .int (mm_M S mm_SC (x3 + (nI 1)).toNatClampNeg)] S) (fun v S2 => mm_ex (d + 1) 225 438 [.ref mm_SC, .ref a1, .ref a2, .int x3] (v.toList ++ []) S2) :=
  Eq.trans (mx_popi t225 d225_428) <|
  Eq.trans (mx_aload_n t225 d225_429 (x := a2) rfl) <|
  Eq.trans (mx_aload_n t225 d225_430 (x := mm_SC) rfl) <|
  Eq.trans (mx_iload_n t225 d225_431 (x := x3) rfl) <|
  Eq.trans (mx_iconst t225 d225_432 (v := nI 1) rfl) <|
  Eq.trans (mx_iadd t225 d225_433) <|
  Eq.trans (mx_isc t225 d225_434 h0 rfl h1) <|
  (mx_virt (st := []) (k := 12) t225 [.int (mm_M S mm_SC (x3 + (nI 1)).toNatClampNeg)] d225_435 vt17_47 rfl rfl (Nat.le_of_ble_eq_true rfl) (Nat.le_of_ble_eq_true rfl) h2)
theorem b225_438 {d : Nat} {S : mm_S} {a1 : Nat} {a2 : Nat} {x3 : Int32} {p0 : Int32} : mm_ex d 225 438 [.ref mm_SC, .ref a1, .ref a2, .int x3] [.int p0] S =
    mm_ex d 225 18 [.ref mm_SC, .ref a1, .ref a2, .int (x3 + nI 6)] [] S :=
  Eq.trans (mx_popi t225 d225_438) <|
  Eq.trans (mx_goto t225 d225_439 (tgt := 1183) (by decide)) <|
  Eq.trans (mx_iinc t225 d225_1183 (x := x3) (v := nI 6) (ls' := [.ref mm_SC, .ref a1, .ref a2, .int (x3 + nI 6)]) rfl rfl rfl rfl) <|
  (mx_goto t225 d225_1186 (tgt := 18) (by decide))
theorem b225_442 {d : Nat} {S : mm_S} {a1 : Nat} {a2 : Nat} {x3 : Int32} (h0 : mm_rk S a1 = 11) : mm_ex (d + 1) 225 442 [.ref mm_SC, .ref a1, .ref a2, .int x3] [] S =
    mm_bd (mm_cl d 81 [.ref a1] S) (fun v S2 => mm_ex (d + 1) 225 446 [.ref mm_SC, .ref a1, .ref a2, .int x3] (v.toList ++ []) S2) :=
  Eq.trans (mx_aload_n t225 d225_442 (x := a1) rfl) <|
  (mx_virt (st := []) (k := 11) t225 [] d225_443 vt17_48 rfl rfl (Nat.le_of_ble_eq_true rfl) (Nat.le_of_ble_eq_true rfl) h0)
theorem b225_446 {d : Nat} {S : mm_S} {a1 : Nat} {a2 : Nat} {x3 : Int32} {p0 : Int32} (h0 : mm_rk S a2 = 12) : mm_ex (d + 1) 225 446 [.ref mm_SC, .ref a1, .ref a2, .int x3] [.int p0] S =
    mm_bd (mm_cl d 152 [.ref a2] S) (fun v S2 => mm_ex (d + 1) 225 451 [.ref mm_SC, .ref a1, .ref a2, .int x3] (v.toList ++ []) S2) :=
  Eq.trans (mx_popi t225 d225_446) <|
  Eq.trans (mx_aload_n t225 d225_447 (x := a2) rfl) <|
  (mx_virt (st := []) (k := 12) t225 [] d225_448 vt17_52 rfl rfl (Nat.le_of_ble_eq_true rfl) (Nat.le_of_ble_eq_true rfl) h0)
theorem b225_451 {d : Nat} {S : mm_S} {a1 : Nat} {a2 : Nat} {x3 : Int32} {p0 : Int32} : mm_ex d 225 451 [.ref mm_SC, .ref a1, .ref a2, .int x3] [.int p0] S =
    mm_ex d 225 18 [.ref mm_SC, .ref a1, .ref a2, .int (x3 + nI 6)] [] S :=
  Eq.trans (mx_popi t225 d225_451) <|
  Eq.trans (mx_goto t225 d225_452 (tgt := 1183) (by decide)) <|
  Eq.trans (mx_iinc t225 d225_1183 (x := x3) (v := nI 6) (ls' := [.ref mm_SC, .ref a1, .ref a2, .int (x3 + nI 6)]) rfl rfl rfl rfl) <|
  (mx_goto t225 d225_1186 (tgt := 18) (by decide))
theorem b225_455 {d : Nat} {S : mm_S} {a1 : Nat} {a2 : Nat} {x3 : Int32} (h0 : mm_arr S mm_SC 13 = false) (h1 : mm_inb (x3 + (nI 1)) (mm_N S mm_SC) = true) (h2 : mm_rk S a1 = 11) : mm_ex (d + 1) 225 455 [.ref mm_SC, .ref a1, .ref a2, .int x3] [] S =
    mm_bd (mm_cl d 82 [.ref a1, .int (mm_M S mm_SC (x3 + (nI 1)).toNatClampNeg)] S) (fun v S2 => mm_ex (d + 1) 225 464 [.ref mm_SC, .ref a1, .ref a2, .int x3] (v.toList ++ []) S2) :=
  Eq.trans (mx_aload_n t225 d225_455 (x := a1) rfl) <|
  Eq.trans (mx_aload_n t225 d225_456 (x := mm_SC) rfl) <|
  Eq.trans (mx_iload_n t225 d225_457 (x := x3) rfl) <|
  Eq.trans (mx_iconst t225 d225_458 (v := nI 1) rfl) <|
  Eq.trans (mx_iadd t225 d225_459) <|
  Eq.trans (mx_isc t225 d225_460 h0 rfl h1) <|
  (mx_virt (st := []) (k := 11) t225 [.int (mm_M S mm_SC (x3 + (nI 1)).toNatClampNeg)] d225_461 vt17_53 rfl rfl (Nat.le_of_ble_eq_true rfl) (Nat.le_of_ble_eq_true rfl) h2)
theorem b225_464 {d : Nat} {S : mm_S} {a1 : Nat} {a2 : Nat} {x3 : Int32} {p0 : Int32} (h0 : mm_arr S mm_SC 13 = false) (h1 : mm_inb (x3 + (nI 1)) (mm_N S mm_SC) = true) (h2 : mm_rk S a2 = 12) : mm_ex (d + 1) 225 464 [.ref mm_SC, .ref a1, .ref a2, .int x3] [.int p0] S =
    mm_bd (mm_cl d 159 [.ref a2, .int (mm_M S mm_SC (x3 + (nI 1)).toNatClampNeg)] S) (fun v S2 => mm_ex (d + 1) 225 474 [.ref mm_SC, .ref a1, .ref a2, .int x3] (v.toList ++ []) S2) :=
  Eq.trans (mx_popi t225 d225_464) <|
  Eq.trans (mx_aload_n t225 d225_465 (x := a2) rfl) <|
  Eq.trans (mx_aload_n t225 d225_466 (x := mm_SC) rfl) <|
  Eq.trans (mx_iload_n t225 d225_467 (x := x3) rfl) <|
  Eq.trans (mx_iconst t225 d225_468 (v := nI 1) rfl) <|
  Eq.trans (mx_iadd t225 d225_469) <|
  Eq.trans (mx_isc t225 d225_470 h0 rfl h1) <|
  (mx_virt (st := []) (k := 12) t225 [.int (mm_M S mm_SC (x3 + (nI 1)).toNatClampNeg)] d225_471 vt17_56 rfl rfl (Nat.le_of_ble_eq_true rfl) (Nat.le_of_ble_eq_true rfl) h2)
theorem b225_474 {d : Nat} {S : mm_S} {a1 : Nat} {a2 : Nat} {x3 : Int32} {p0 : Int32} : mm_ex d 225 474 [.ref mm_SC, .ref a1, .ref a2, .int x3] [.int p0] S =
    mm_ex d 225 18 [.ref mm_SC, .ref a1, .ref a2, .int (x3 + nI 6)] [] S :=
  Eq.trans (mx_popi t225 d225_474) <|
  Eq.trans (mx_goto t225 d225_475 (tgt := 1183) (by decide)) <|
  Eq.trans (mx_iinc t225 d225_1183 (x := x3) (v := nI 6) (ls' := [.ref mm_SC, .ref a1, .ref a2, .int (x3 + nI 6)]) rfl rfl rfl rfl) <|
  (mx_goto t225 d225_1186 (tgt := 18) (by decide))
theorem b225_478 {d : Nat} {S : mm_S} {a1 : Nat} {a2 : Nat} {x3 : Int32} (h0 : mm_arr S mm_SC 13 = false) (h1 : mm_inb (x3 + (nI 1)) (mm_N S mm_SC) = true) (h2 : mm_rk S a1 = 11) : mm_ex (d + 1) 225 478 [.ref mm_SC, .ref a1, .ref a2, .int x3] [] S =
    mm_bd (mm_cl d 83 [.ref a1, .int (mm_M S mm_SC (x3 + (nI 1)).toNatClampNeg)] S) (fun v S2 => mm_ex (d + 1) 225 487 [.ref mm_SC, .ref a1, .ref a2, .int x3] (v.toList ++ []) S2) :=
  Eq.trans (mx_aload_n t225 d225_478 (x := a1) rfl) <|
  Eq.trans (mx_aload_n t225 d225_479 (x := mm_SC) rfl) <|
  Eq.trans (mx_iload_n t225 d225_480 (x := x3) rfl) <|
  Eq.trans (mx_iconst t225 d225_481 (v := nI 1) rfl) <|
  Eq.trans (mx_iadd t225 d225_482) <|
  Eq.trans (mx_isc t225 d225_483 h0 rfl h1) <|
  (mx_virt (st := []) (k := 11) t225 [.int (mm_M S mm_SC (x3 + (nI 1)).toNatClampNeg)] d225_484 vt17_57 rfl rfl (Nat.le_of_ble_eq_true rfl) (Nat.le_of_ble_eq_true rfl) h2)
theorem b225_487 {d : Nat} {S : mm_S} {a1 : Nat} {a2 : Nat} {x3 : Int32} {p0 : Int32} (h0 : mm_arr S mm_SC 13 = false) (h1 : mm_inb (x3 + (nI 1)) (mm_N S mm_SC) = true) (h2 : mm_rk S a2 = 12) : mm_ex (d + 1) 225 487 [.ref mm_SC, .ref a1, .ref a2, .int x3] [.int p0] S =
    mm_bd (mm_cl d 167 [.ref a2, .int (mm_M S mm_SC (x3 + (nI 1)).toNatClampNeg)] S) (fun v S2 => mm_ex (d + 1) 225 497 [.ref mm_SC, .ref a1, .ref a2, .int x3] (v.toList ++ []) S2) :=
  Eq.trans (mx_popi t225 d225_487) <|
  Eq.trans (mx_aload_n t225 d225_488 (x := a2) rfl) <|
  Eq.trans (mx_aload_n t225 d225_489 (x := mm_SC) rfl) <|
  Eq.trans (mx_iload_n t225 d225_490 (x := x3) rfl) <|
  Eq.trans (mx_iconst t225 d225_491 (v := nI 1) rfl) <|
  Eq.trans (mx_iadd t225 d225_492) <|
  Eq.trans (mx_isc t225 d225_493 h0 rfl h1) <|
  (mx_virt (st := []) (k := 12) t225 [.int (mm_M S mm_SC (x3 + (nI 1)).toNatClampNeg)] d225_494 vt17_60 rfl rfl (Nat.le_of_ble_eq_true rfl) (Nat.le_of_ble_eq_true rfl) h2)
theorem b225_497 {d : Nat} {S : mm_S} {a1 : Nat} {a2 : Nat} {x3 : Int32} {p0 : Int32} : mm_ex d 225 497 [.ref mm_SC, .ref a1, .ref a2, .int x3] [.int p0] S =
    mm_ex d 225 18 [.ref mm_SC, .ref a1, .ref a2, .int (x3 + nI 6)] [] S :=
  Eq.trans (mx_popi t225 d225_497) <|
  Eq.trans (mx_goto t225 d225_498 (tgt := 1183) (by decide)) <|
  Eq.trans (mx_iinc t225 d225_1183 (x := x3) (v := nI 6) (ls' := [.ref mm_SC, .ref a1, .ref a2, .int (x3 + nI 6)]) rfl rfl rfl rfl) <|
  (mx_goto t225 d225_1186 (tgt := 18) (by decide))
theorem b225_501 {d : Nat} {S : mm_S} {a1 : Nat} {a2 : Nat} {x3 : Int32} (h0 : mm_rk S a1 = 11) : mm_ex (d + 1) 225 501 [.ref mm_SC, .ref a1, .ref a2, .int x3] [] S =
    mm_bd (mm_cl d 84 [.ref a1] S) (fun v S2 => mm_ex (d + 1) 225 505 [.ref mm_SC, .ref a1, .ref a2, .int x3] (v.toList ++ []) S2) :=
  Eq.trans (mx_aload_n t225 d225_501 (x := a1) rfl) <|
  (mx_virt (st := []) (k := 11) t225 [] d225_502 vt17_61 rfl rfl (Nat.le_of_ble_eq_true rfl) (Nat.le_of_ble_eq_true rfl) h0)
theorem b225_505 {d : Nat} {S : mm_S} {a1 : Nat} {a2 : Nat} {x3 : Int32} {p0 : Int32} (h0 : mm_rk S a2 = 12) : mm_ex (d + 1) 225 505 [.ref mm_SC, .ref a1, .ref a2, .int x3] [.int p0] S =
    mm_bd (mm_cl d 170 [.ref a2] S) (fun v S2 => mm_ex (d + 1) 225 510 [.ref mm_SC, .ref a1, .ref a2, .int x3] (v.toList ++ []) S2) :=
  Eq.trans (mx_popi t225 d225_505) <|
  Eq.trans (mx_aload_n t225 d225_506 (x := a2) rfl) <|
  (mx_virt (st := []) (k := 12) t225 [] d225_507 vt17_64 rfl rfl (Nat.le_of_ble_eq_true rfl) (Nat.le_of_ble_eq_true rfl) h0)
theorem b225_510 {d : Nat} {S : mm_S} {a1 : Nat} {a2 : Nat} {x3 : Int32} {p0 : Int32} : mm_ex d 225 510 [.ref mm_SC, .ref a1, .ref a2, .int x3] [.int p0] S =
    mm_ex d 225 18 [.ref mm_SC, .ref a1, .ref a2, .int (x3 + nI 6)] [] S :=
  Eq.trans (mx_popi t225 d225_510) <|
  Eq.trans (mx_goto t225 d225_511 (tgt := 1183) (by decide)) <|
  Eq.trans (mx_iinc t225 d225_1183 (x := x3) (v := nI 6) (ls' := [.ref mm_SC, .ref a1, .ref a2, .int (x3 + nI 6)]) rfl rfl rfl rfl) <|
  (mx_goto t225 d225_1186 (tgt := 18) (by decide))
theorem b225_514 {d : Nat} {S : mm_S} {a1 : Nat} {a2 : Nat} {x3 : Int32} (h0 : mm_arr S mm_SC 13 = false) (h1 : mm_inb (x3 + (nI 1)) (mm_N S mm_SC) = true) (h2 : mm_rk S a1 = 11) : mm_ex (d + 1) 225 514 [.ref mm_SC, .ref a1, .ref a2, .int x3] [] S =
    mm_bd (mm_cl d 85 [.ref a1, .int (mm_M S mm_SC (x3 + (nI 1)).toNatClampNeg)] S) (fun v S2 => mm_ex (d + 1) 225 523 [.ref mm_SC, .ref a1, .ref a2, .int x3] (v.toList ++ []) S2) :=
  Eq.trans (mx_aload_n t225 d225_514 (x := a1) rfl) <|
  Eq.trans (mx_aload_n t225 d225_515 (x := mm_SC) rfl) <|
  Eq.trans (mx_iload_n t225 d225_516 (x := x3) rfl) <|
  Eq.trans (mx_iconst t225 d225_517 (v := nI 1) rfl) <|
  Eq.trans (mx_iadd t225 d225_518) <|
  Eq.trans (mx_isc t225 d225_519 h0 rfl h1) <|
  (mx_virt (st := []) (k := 11) t225 [.int (mm_M S mm_SC (x3 + (nI 1)).toNatClampNeg)] d225_520 vt17_65 rfl rfl (Nat.le_of_ble_eq_true rfl) (Nat.le_of_ble_eq_true rfl) h2)
theorem b225_523 {d : Nat} {S : mm_S} {a1 : Nat} {a2 : Nat} {x3 : Int32} {p0 : Int32} (h0 : mm_arr S mm_SC 13 = false) (h1 : mm_inb (x3 + (nI 1)) (mm_N S mm_SC) = true) (h2 : mm_rk S a2 = 12) : mm_ex (d + 1) 225 523 [.ref mm_SC, .ref a1, .ref a2, .int x3] [.int p0] S =
    mm_bd (mm_cl d 175 [.ref a2, .int (mm_M S mm_SC (x3 + (nI 1)).toNatClampNeg)] S) (fun v S2 => mm_ex (d + 1) 225 533 [.ref mm_SC, .ref a1, .ref a2, .int x3] (v.toList ++ []) S2) :=
  Eq.trans (mx_popi t225 d225_523) <|
  Eq.trans (mx_aload_n t225 d225_524 (x := a2) rfl) <|
  Eq.trans (mx_aload_n t225 d225_525 (x := mm_SC) rfl) <|
  Eq.trans (mx_iload_n t225 d225_526 (x := x3) rfl) <|
  Eq.trans (mx_iconst t225 d225_527 (v := nI 1) rfl) <|
  Eq.trans (mx_iadd t225 d225_528) <|
  Eq.trans (mx_isc t225 d225_529 h0 rfl h1) <|
  (mx_virt (st := []) (k := 12) t225 [.int (mm_M S mm_SC (x3 + (nI 1)).toNatClampNeg)] d225_530 vt17_68 rfl rfl (Nat.le_of_ble_eq_true rfl) (Nat.le_of_ble_eq_true rfl) h2)
theorem b225_533 {d : Nat} {S : mm_S} {a1 : Nat} {a2 : Nat} {x3 : Int32} {p0 : Int32} : mm_ex d 225 533 [.ref mm_SC, .ref a1, .ref a2, .int x3] [.int p0] S =
    mm_ex d 225 18 [.ref mm_SC, .ref a1, .ref a2, .int (x3 + nI 6)] [] S :=
  Eq.trans (mx_popi t225 d225_533) <|
  Eq.trans (mx_goto t225 d225_534 (tgt := 1183) (by decide)) <|
  Eq.trans (mx_iinc t225 d225_1183 (x := x3) (v := nI 6) (ls' := [.ref mm_SC, .ref a1, .ref a2, .int (x3 + nI 6)]) rfl rfl rfl rfl) <|
  (mx_goto t225 d225_1186 (tgt := 18) (by decide))
theorem b225_537 {d : Nat} {S : mm_S} {a1 : Nat} {a2 : Nat} {x3 : Int32} (h0 : mm_arr S mm_SC 13 = false) (h1 : mm_inb (x3 + (nI 1)) (mm_N S mm_SC) = true) (h2 : mm_rk S a1 = 11) : mm_ex (d + 1) 225 537 [.ref mm_SC, .ref a1, .ref a2, .int x3] [] S =
    mm_bd (mm_cl d 86 [.ref a1, .int (mm_M S mm_SC (x3 + (nI 1)).toNatClampNeg)] S) (fun v S2 => mm_ex (d + 1) 225 546 [.ref mm_SC, .ref a1, .ref a2, .int x3] (v.toList ++ []) S2) :=
  Eq.trans (mx_aload_n t225 d225_537 (x := a1) rfl) <|
  Eq.trans (mx_aload_n t225 d225_538 (x := mm_SC) rfl) <|
  Eq.trans (mx_iload_n t225 d225_539 (x := x3) rfl) <|
  Eq.trans (mx_iconst t225 d225_540 (v := nI 1) rfl) <|
  Eq.trans (mx_iadd t225 d225_541) <|
  Eq.trans (mx_isc t225 d225_542 h0 rfl h1) <|
  (mx_virt (st := []) (k := 11) t225 [.int (mm_M S mm_SC (x3 + (nI 1)).toNatClampNeg)] d225_543 vt17_69 rfl rfl (Nat.le_of_ble_eq_true rfl) (Nat.le_of_ble_eq_true rfl) h2)
theorem b225_546 {d : Nat} {S : mm_S} {a1 : Nat} {a2 : Nat} {x3 : Int32} {p0 : Int32} (h0 : mm_arr S mm_SC 13 = false) (h1 : mm_inb (x3 + (nI 1)) (mm_N S mm_SC) = true) (h2 : mm_rk S a2 = 12) : mm_ex (d + 1) 225 546 [.ref mm_SC, .ref a1, .ref a2, .int x3] [.int p0] S =
    mm_bd (mm_cl d 176 [.ref a2, .int (mm_M S mm_SC (x3 + (nI 1)).toNatClampNeg)] S) (fun v S2 => mm_ex (d + 1) 225 556 [.ref mm_SC, .ref a1, .ref a2, .int x3] (v.toList ++ []) S2) :=
  Eq.trans (mx_popi t225 d225_546) <|
  Eq.trans (mx_aload_n t225 d225_547 (x := a2) rfl) <|
  Eq.trans (mx_aload_n t225 d225_548 (x := mm_SC) rfl) <|
  Eq.trans (mx_iload_n t225 d225_549 (x := x3) rfl) <|
  Eq.trans (mx_iconst t225 d225_550 (v := nI 1) rfl) <|
  Eq.trans (mx_iadd t225 d225_551) <|
  Eq.trans (mx_isc t225 d225_552 h0 rfl h1) <|
  (mx_virt (st := []) (k := 12) t225 [.int (mm_M S mm_SC (x3 + (nI 1)).toNatClampNeg)] d225_553 vt17_72 rfl rfl (Nat.le_of_ble_eq_true rfl) (Nat.le_of_ble_eq_true rfl) h2)
theorem b225_556 {d : Nat} {S : mm_S} {a1 : Nat} {a2 : Nat} {x3 : Int32} {p0 : Int32} : mm_ex d 225 556 [.ref mm_SC, .ref a1, .ref a2, .int x3] [.int p0] S =
    mm_ex d 225 18 [.ref mm_SC, .ref a1, .ref a2, .int (x3 + nI 6)] [] S :=
  Eq.trans (mx_popi t225 d225_556) <|
  Eq.trans (mx_goto t225 d225_557 (tgt := 1183) (by decide)) <|
  Eq.trans (mx_iinc t225 d225_1183 (x := x3) (v := nI 6) (ls' := [.ref mm_SC, .ref a1, .ref a2, .int (x3 + nI 6)]) rfl rfl rfl rfl) <|
  (mx_goto t225 d225_1186 (tgt := 18) (by decide))
theorem b225_560 {d : Nat} {S : mm_S} {a1 : Nat} {a2 : Nat} {x3 : Int32} (h0 : mm_arr S mm_SC 13 = false) (h1 : mm_inb (x3 + (nI 1)) (mm_N S mm_SC) = true) (h2 : mm_inb (x3 + (nI 2)) (mm_N S mm_SC) = true) (h3 : mm_rk S a1 = 11) : mm_ex (d + 1) 225 560 [.ref mm_SC, .ref a1, .ref a2, .int x3] [] S =
    mm_bd (mm_cl d 87 [.ref a1, .int (mm_M S mm_SC (x3 + (nI 1)).toNatClampNeg), .int (mm_M S mm_SC (x3 + (nI 2)).toNatClampNeg)] S) (fun v S2 => mm_ex (d + 1) 225 574 [.ref mm_SC, .ref a1, .ref a2, .int x3] (v.toList ++ []) S2) :=
  Eq.trans (mx_aload_n t225 d225_560 (x := a1) rfl) <|
  Eq.trans (mx_aload_n t225 d225_561 (x := mm_SC) rfl) <|
  Eq.trans (mx_iload_n t225 d225_562 (x := x3) rfl) <|
  Eq.trans (mx_iconst t225 d225_563 (v := nI 1) rfl) <|
  Eq.trans (mx_iadd t225 d225_564) <|
  Eq.trans (mx_isc t225 d225_565 h0 rfl h1) <|
  Eq.trans (mx_aload_n t225 d225_566 (x := mm_SC) rfl) <|
  Eq.trans (mx_iload_n t225 d225_567 (x := x3) rfl) <|
  Eq.trans (mx_iconst t225 d225_568 (v := nI 2) rfl) <|
  Eq.trans (mx_iadd t225 d225_569) <|
  Eq.trans (mx_isc t225 d225_570 h0 rfl h2) <|
  (mx_virt (st := []) (k := 11) t225 [.int (mm_M S mm_SC (x3 + (nI 1)).toNatClampNeg), .int (mm_M S mm_SC (x3 + (nI 2)).toNatClampNeg)] d225_571 vt17_73 rfl rfl (Nat.le_of_ble_eq_true rfl) (Nat.le_of_ble_eq_true rfl) h3)
theorem b225_574 {d : Nat} {S : mm_S} {a1 : Nat} {a2 : Nat} {x3 : Int32} {p0 : Int32} (h0 : mm_arr S mm_SC 13 = false) (h1 : mm_inb (x3 + (nI 1)) (mm_N S mm_SC) = true) (h2 : mm_inb (x3 + (nI 2)) (mm_N S mm_SC) = true) (h3 : mm_rk S a2 = 12) : mm_ex (d + 1) 225 574 [.ref mm_SC, .ref a1, .ref a2, .int x3] [.int p0] S =
    mm_bd (mm_cl d 179 [.ref a2, .int (mm_M S mm_SC (x3 + (nI 1)).toNatClampNeg), .int (mm_M S mm_SC (x3 + (nI 2)).toNatClampNeg)] S) (fun v S2 => mm_ex (d + 1) 225 589 [.ref mm_SC, .ref a1, .ref a2, .int x3] (v.toList ++ []) S2) :=
  Eq.trans (mx_popi t225 d225_574) <|
  Eq.trans (mx_aload_n t225 d225_575 (x := a2) rfl) <|
  Eq.trans (mx_aload_n t225 d225_576 (x := mm_SC) rfl) <|
  Eq.trans (mx_iload_n t225 d225_577 (x := x3) rfl) <|
  Eq.trans (mx_iconst t225 d225_578 (v := nI 1) rfl) <|
  Eq.trans (mx_iadd t225 d225_579) <|
  Eq.trans (mx_isc t225 d225_580 h0 rfl h1) <|
  Eq.trans (mx_aload_n t225 d225_581 (x := mm_SC) rfl) <|
  Eq.trans (mx_iload_n t225 d225_582 (x := x3) rfl) <|
  Eq.trans (mx_iconst t225 d225_583 (v := nI 2) rfl) <|
  Eq.trans (mx_iadd t225 d225_584) <|
  Eq.trans (mx_isc t225 d225_585 h0 rfl h2) <|
  (mx_virt (st := []) (k := 12) t225 [.int (mm_M S mm_SC (x3 + (nI 1)).toNatClampNeg), .int (mm_M S mm_SC (x3 + (nI 2)).toNatClampNeg)] d225_586 vt17_76 rfl rfl (Nat.le_of_ble_eq_true rfl) (Nat.le_of_ble_eq_true rfl) h3)
theorem b225_589 {d : Nat} {S : mm_S} {a1 : Nat} {a2 : Nat} {x3 : Int32} {p0 : Int32} : mm_ex d 225 589 [.ref mm_SC, .ref a1, .ref a2, .int x3] [.int p0] S =
    mm_ex d 225 18 [.ref mm_SC, .ref a1, .ref a2, .int (x3 + nI 6)] [] S :=
  Eq.trans (mx_popi t225 d225_589) <|
  Eq.trans (mx_goto t225 d225_590 (tgt := 1183) (by decide)) <|
  Eq.trans (mx_iinc t225 d225_1183 (x := x3) (v := nI 6) (ls' := [.ref mm_SC, .ref a1, .ref a2, .int (x3 + nI 6)]) rfl rfl rfl rfl) <|
  (mx_goto t225 d225_1186 (tgt := 18) (by decide))
theorem b225_593 {d : Nat} {S : mm_S} {a1 : Nat} {a2 : Nat} {x3 : Int32} (h0 : mm_arr S mm_SC 13 = false) (h1 : mm_inb (x3 + (nI 1)) (mm_N S mm_SC) = true) (h2 : mm_rk S a1 = 11) : mm_ex (d + 1) 225 593 [.ref mm_SC, .ref a1, .ref a2, .int x3] [] S =
    mm_bd (mm_cl d 88 [.ref a1, .int (mm_M S mm_SC (x3 + (nI 1)).toNatClampNeg)] S) (fun v S2 => mm_ex (d + 1) 225 602 [.ref mm_SC, .ref a1, .ref a2, .int x3] (v.toList ++ []) S2) :=
  Eq.trans (mx_aload_n t225 d225_593 (x := a1) rfl) <|
  Eq.trans (mx_aload_n t225 d225_594 (x := mm_SC) rfl) <|
  Eq.trans (mx_iload_n t225 d225_595 (x := x3) rfl) <|
  Eq.trans (mx_iconst t225 d225_596 (v := nI 1) rfl) <|
  Eq.trans (mx_iadd t225 d225_597) <|
  Eq.trans (mx_isc t225 d225_598 h0 rfl h1) <|
  (mx_virt (st := []) (k := 11) t225 [.int (mm_M S mm_SC (x3 + (nI 1)).toNatClampNeg)] d225_599 vt17_77 rfl rfl (Nat.le_of_ble_eq_true rfl) (Nat.le_of_ble_eq_true rfl) h2)
theorem b225_602 {d : Nat} {S : mm_S} {a1 : Nat} {a2 : Nat} {x3 : Int32} {p0 : Int32} (h0 : mm_arr S mm_SC 13 = false) (h1 : mm_inb (x3 + (nI 1)) (mm_N S mm_SC) = true) (h2 : mm_rk S a2 = 12) : mm_ex (d + 1) 225 602 [.ref mm_SC, .ref a1, .ref a2, .int x3] [.int p0] S =
    mm_bd (mm_cl d 180 [.ref a2, .int (mm_M S mm_SC (x3 + (nI 1)).toNatClampNeg)] S) (fun v S2 => mm_ex (d + 1) 225 612 [.ref mm_SC, .ref a1, .ref a2, .int x3] (v.toList ++ []) S2) :=
  Eq.trans (mx_popi t225 d225_602) <|
  Eq.trans (mx_aload_n t225 d225_603 (x := a2) rfl) <|
  Eq.trans (mx_aload_n t225 d225_604 (x := mm_SC) rfl) <|
  Eq.trans (mx_iload_n t225 d225_605 (x := x3) rfl) <|
  Eq.trans (mx_iconst t225 d225_606 (v := nI 1) rfl) <|
  Eq.trans (mx_iadd t225 d225_607) <|
  Eq.trans (mx_isc t225 d225_608 h0 rfl h1) <|
  (mx_virt (st := []) (k := 12) t225 [.int (mm_M S mm_SC (x3 + (nI 1)).toNatClampNeg)] d225_609 vt17_80 rfl rfl (Nat.le_of_ble_eq_true rfl) (Nat.le_of_ble_eq_true rfl) h2)
theorem b225_612 {d : Nat} {S : mm_S} {a1 : Nat} {a2 : Nat} {x3 : Int32} {p0 : Int32} : mm_ex d 225 612 [.ref mm_SC, .ref a1, .ref a2, .int x3] [.int p0] S =
    mm_ex d 225 18 [.ref mm_SC, .ref a1, .ref a2, .int (x3 + nI 6)] [] S :=
  Eq.trans (mx_popi t225 d225_612) <|
  Eq.trans (mx_goto t225 d225_613 (tgt := 1183) (by decide)) <|
  Eq.trans (mx_iinc t225 d225_1183 (x := x3) (v := nI 6) (ls' := [.ref mm_SC, .ref a1, .ref a2, .int (x3 + nI 6)]) rfl rfl rfl rfl) <|
  (mx_goto t225 d225_1186 (tgt := 18) (by decide))
theorem b225_616 {d : Nat} {S : mm_S} {a1 : Nat} {a2 : Nat} {x3 : Int32} (h0 : mm_arr S mm_SC 13 = false) (h1 : mm_inb (x3 + (nI 1)) (mm_N S mm_SC) = true) (h2 : mm_rk S a1 = 11) : mm_ex (d + 1) 225 616 [.ref mm_SC, .ref a1, .ref a2, .int x3] [] S =
    mm_bd (mm_cl d 89 [.ref a1, .int (mm_M S mm_SC (x3 + (nI 1)).toNatClampNeg)] S) (fun v S2 => mm_ex (d + 1) 225 625 [.ref mm_SC, .ref a1, .ref a2, .int x3] (v.toList ++ []) S2) :=
  Eq.trans (mx_aload_n t225 d225_616 (x := a1) rfl) <|
  Eq.trans (mx_aload_n t225 d225_617 (x := mm_SC) rfl) <|
  Eq.trans (mx_iload_n t225 d225_618 (x := x3) rfl) <|
  Eq.trans (mx_iconst t225 d225_619 (v := nI 1) rfl) <|
  Eq.trans (mx_iadd t225 d225_620) <|
  Eq.trans (mx_isc t225 d225_621 h0 rfl h1) <|
  (mx_virt (st := []) (k := 11) t225 [.int (mm_M S mm_SC (x3 + (nI 1)).toNatClampNeg)] d225_622 vt17_81 rfl rfl (Nat.le_of_ble_eq_true rfl) (Nat.le_of_ble_eq_true rfl) h2)
theorem b225_625 {d : Nat} {S : mm_S} {a1 : Nat} {a2 : Nat} {x3 : Int32} {p0 : Int64} (h0 : mm_arr S mm_SC 13 = false) (h1 : mm_inb (x3 + (nI 1)) (mm_N S mm_SC) = true) (h2 : mm_rk S a2 = 12) : mm_ex (d + 1) 225 625 [.ref mm_SC, .ref a1, .ref a2, .int x3] [.long p0] S =
    mm_bd (mm_cl d 182 [.ref a2, .int (mm_M S mm_SC (x3 + (nI 1)).toNatClampNeg)] S) (fun v S2 => mm_ex (d + 1) 225 635 [.ref mm_SC, .ref a1, .ref a2, .int x3] (v.toList ++ []) S2) :=
  Eq.trans (mx_pop2l t225 d225_625) <|
  Eq.trans (mx_aload_n t225 d225_626 (x := a2) rfl) <|
  Eq.trans (mx_aload_n t225 d225_627 (x := mm_SC) rfl) <|
  Eq.trans (mx_iload_n t225 d225_628 (x := x3) rfl) <|
  Eq.trans (mx_iconst t225 d225_629 (v := nI 1) rfl) <|
  Eq.trans (mx_iadd t225 d225_630) <|
  Eq.trans (mx_isc t225 d225_631 h0 rfl h1) <|
  (mx_virt (st := []) (k := 12) t225 [.int (mm_M S mm_SC (x3 + (nI 1)).toNatClampNeg)] d225_632 vt17_85 rfl rfl (Nat.le_of_ble_eq_true rfl) (Nat.le_of_ble_eq_true rfl) h2)
theorem b225_635 {d : Nat} {S : mm_S} {a1 : Nat} {a2 : Nat} {x3 : Int32} {p0 : Int64} : mm_ex d 225 635 [.ref mm_SC, .ref a1, .ref a2, .int x3] [.long p0] S =
    mm_ex d 225 18 [.ref mm_SC, .ref a1, .ref a2, .int (x3 + nI 6)] [] S :=
  Eq.trans (mx_pop2l t225 d225_635) <|
  Eq.trans (mx_goto t225 d225_636 (tgt := 1183) (by decide)) <|
  Eq.trans (mx_iinc t225 d225_1183 (x := x3) (v := nI 6) (ls' := [.ref mm_SC, .ref a1, .ref a2, .int (x3 + nI 6)]) rfl rfl rfl rfl) <|
  (mx_goto t225 d225_1186 (tgt := 18) (by decide))
theorem b225_639 {d : Nat} {S : mm_S} {a1 : Nat} {a2 : Nat} {x3 : Int32} (h0 : mm_rk S a1 = 11) : mm_ex (d + 1) 225 639 [.ref mm_SC, .ref a1, .ref a2, .int x3] [] S =
    mm_bd (mm_cl d 90 [.ref a1] S) (fun v S2 => mm_ex (d + 1) 225 643 [.ref mm_SC, .ref a1, .ref a2, .int x3] (v.toList ++ []) S2) :=
  Eq.trans (mx_aload_n t225 d225_639 (x := a1) rfl) <|
  (mx_virt (st := []) (k := 11) t225 [] d225_640 vt17_86 rfl rfl (Nat.le_of_ble_eq_true rfl) (Nat.le_of_ble_eq_true rfl) h0)
theorem b225_643 {d : Nat} {S : mm_S} {a1 : Nat} {a2 : Nat} {x3 : Int32} {p0 : Int32} (h0 : mm_rk S a2 = 12) : mm_ex (d + 1) 225 643 [.ref mm_SC, .ref a1, .ref a2, .int x3] [.int p0] S =
    mm_bd (mm_cl d 183 [.ref a2] S) (fun v S2 => mm_ex (d + 1) 225 648 [.ref mm_SC, .ref a1, .ref a2, .int x3] (v.toList ++ []) S2) :=
  Eq.trans (mx_popi t225 d225_643) <|
  Eq.trans (mx_aload_n t225 d225_644 (x := a2) rfl) <|
  (mx_virt (st := []) (k := 12) t225 [] d225_645 vt17_89 rfl rfl (Nat.le_of_ble_eq_true rfl) (Nat.le_of_ble_eq_true rfl) h0)
theorem b225_648 {d : Nat} {S : mm_S} {a1 : Nat} {a2 : Nat} {x3 : Int32} {p0 : Int32} : mm_ex d 225 648 [.ref mm_SC, .ref a1, .ref a2, .int x3] [.int p0] S =
    mm_ex d 225 18 [.ref mm_SC, .ref a1, .ref a2, .int (x3 + nI 6)] [] S :=
  Eq.trans (mx_popi t225 d225_648) <|
  Eq.trans (mx_goto t225 d225_649 (tgt := 1183) (by decide)) <|
  Eq.trans (mx_iinc t225 d225_1183 (x := x3) (v := nI 6) (ls' := [.ref mm_SC, .ref a1, .ref a2, .int (x3 + nI 6)]) rfl rfl rfl rfl) <|
  (mx_goto t225 d225_1186 (tgt := 18) (by decide))
theorem b225_652 {d : Nat} {S : mm_S} {a1 : Nat} {a2 : Nat} {x3 : Int32} (h0 : mm_arr S mm_SC 13 = false) (h1 : mm_inb (x3 + (nI 1)) (mm_N S mm_SC) = true) (h2 : mm_rk S a1 = 11) : mm_ex (d + 1) 225 652 [.ref mm_SC, .ref a1, .ref a2, .int x3] [] S =
    mm_bd (mm_cl d 91 [.ref a1, .int (mm_M S mm_SC (x3 + (nI 1)).toNatClampNeg)] S) (fun v S2 => mm_ex (d + 1) 225 661 [.ref mm_SC, .ref a1, .ref a2, .int x3] (v.toList ++ []) S2) :=
  Eq.trans (mx_aload_n t225 d225_652 (x := a1) rfl) <|
  Eq.trans (mx_aload_n t225 d225_653 (x := mm_SC) rfl) <|
  Eq.trans (mx_iload_n t225 d225_654 (x := x3) rfl) <|
  Eq.trans (mx_iconst t225 d225_655 (v := nI 1) rfl) <|
  Eq.trans (mx_iadd t225 d225_656) <|
  Eq.trans (mx_isc t225 d225_657 h0 rfl h1) <|
  (mx_virt (st := []) (k := 11) t225 [.int (mm_M S mm_SC (x3 + (nI 1)).toNatClampNeg)] d225_658 vt17_90 rfl rfl (Nat.le_of_ble_eq_true rfl) (Nat.le_of_ble_eq_true rfl) h2)
theorem b225_661 {d : Nat} {S : mm_S} {a1 : Nat} {a2 : Nat} {x3 : Int32} {p0 : Int32} (h0 : mm_arr S mm_SC 13 = false) (h1 : mm_inb (x3 + (nI 1)) (mm_N S mm_SC) = true) (h2 : mm_rk S a2 = 12) : mm_ex (d + 1) 225 661 [.ref mm_SC, .ref a1, .ref a2, .int x3] [.int p0] S =
    mm_bd (mm_cl d 184 [.ref a2, .int (mm_M S mm_SC (x3 + (nI 1)).toNatClampNeg)] S) (fun v S2 => mm_ex (d + 1) 225 671 [.ref mm_SC, .ref a1, .ref a2, .int x3] (v.toList ++ []) S2) :=
  Eq.trans (mx_popi t225 d225_661) <|
  Eq.trans (mx_aload_n t225 d225_662 (x := a2) rfl) <|
  Eq.trans (mx_aload_n t225 d225_663 (x := mm_SC) rfl) <|
  Eq.trans (mx_iload_n t225 d225_664 (x := x3) rfl) <|
  Eq.trans (mx_iconst t225 d225_665 (v := nI 1) rfl) <|
  Eq.trans (mx_iadd t225 d225_666) <|
  Eq.trans (mx_isc t225 d225_667 h0 rfl h1) <|
  (mx_virt (st := []) (k := 12) t225 [.int (mm_M S mm_SC (x3 + (nI 1)).toNatClampNeg)] d225_668 vt17_93 rfl rfl (Nat.le_of_ble_eq_true rfl) (Nat.le_of_ble_eq_true rfl) h2)
theorem b225_671 {d : Nat} {S : mm_S} {a1 : Nat} {a2 : Nat} {x3 : Int32} {p0 : Int32} : mm_ex d 225 671 [.ref mm_SC, .ref a1, .ref a2, .int x3] [.int p0] S =
    mm_ex d 225 18 [.ref mm_SC, .ref a1, .ref a2, .int (x3 + nI 6)] [] S :=
  Eq.trans (mx_popi t225 d225_671) <|
  Eq.trans (mx_goto t225 d225_672 (tgt := 1183) (by decide)) <|
  Eq.trans (mx_iinc t225 d225_1183 (x := x3) (v := nI 6) (ls' := [.ref mm_SC, .ref a1, .ref a2, .int (x3 + nI 6)]) rfl rfl rfl rfl) <|
  (mx_goto t225 d225_1186 (tgt := 18) (by decide))
theorem b225_675 {d : Nat} {S : mm_S} {a1 : Nat} {a2 : Nat} {x3 : Int32} (h0 : mm_arr S mm_SC 13 = false) (h1 : mm_inb (x3 + (nI 1)) (mm_N S mm_SC) = true) (h2 : mm_rk S a1 = 11) : mm_ex (d + 1) 225 675 [.ref mm_SC, .ref a1, .ref a2, .int x3] [] S =
    mm_bd (mm_cl d 92 [.ref a1, .int (mm_M S mm_SC (x3 + (nI 1)).toNatClampNeg)] S) (fun v S2 => mm_ex (d + 1) 225 684 [.ref mm_SC, .ref a1, .ref a2, .int x3] (v.toList ++ []) S2) :=
  Eq.trans (mx_aload_n t225 d225_675 (x := a1) rfl) <|
  Eq.trans (mx_aload_n t225 d225_676 (x := mm_SC) rfl) <|
  Eq.trans (mx_iload_n t225 d225_677 (x := x3) rfl) <|
  Eq.trans (mx_iconst t225 d225_678 (v := nI 1) rfl) <|
  Eq.trans (mx_iadd t225 d225_679) <|
  Eq.trans (mx_isc t225 d225_680 h0 rfl h1) <|
  (mx_virt (st := []) (k := 11) t225 [.int (mm_M S mm_SC (x3 + (nI 1)).toNatClampNeg)] d225_681 vt17_94 rfl rfl (Nat.le_of_ble_eq_true rfl) (Nat.le_of_ble_eq_true rfl) h2)
theorem b225_684 {d : Nat} {S : mm_S} {a1 : Nat} {a2 : Nat} {x3 : Int32} {p0 : Int32} (h0 : mm_arr S mm_SC 13 = false) (h1 : mm_inb (x3 + (nI 1)) (mm_N S mm_SC) = true) (h2 : mm_rk S a2 = 12) : mm_ex (d + 1) 225 684 [.ref mm_SC, .ref a1, .ref a2, .int x3] [.int p0] S =
    mm_bd (mm_cl d 186 [.ref a2, .int (mm_M S mm_SC (x3 + (nI 1)).toNatClampNeg)] S) (fun v S2 => mm_ex (d + 1) 225 694 [.ref mm_SC, .ref a1, .ref a2, .int x3] (v.toList ++ []) S2) :=
  Eq.trans (mx_popi t225 d225_684) <|
  Eq.trans (mx_aload_n t225 d225_685 (x := a2) rfl) <|
  Eq.trans (mx_aload_n t225 d225_686 (x := mm_SC) rfl) <|
  Eq.trans (mx_iload_n t225 d225_687 (x := x3) rfl) <|
  Eq.trans (mx_iconst t225 d225_688 (v := nI 1) rfl) <|
  Eq.trans (mx_iadd t225 d225_689) <|
  Eq.trans (mx_isc t225 d225_690 h0 rfl h1) <|
  (mx_virt (st := []) (k := 12) t225 [.int (mm_M S mm_SC (x3 + (nI 1)).toNatClampNeg)] d225_691 vt17_97 rfl rfl (Nat.le_of_ble_eq_true rfl) (Nat.le_of_ble_eq_true rfl) h2)
theorem b225_694 {d : Nat} {S : mm_S} {a1 : Nat} {a2 : Nat} {x3 : Int32} {p0 : Int32} : mm_ex d 225 694 [.ref mm_SC, .ref a1, .ref a2, .int x3] [.int p0] S =
    mm_ex d 225 18 [.ref mm_SC, .ref a1, .ref a2, .int (x3 + nI 6)] [] S :=
  Eq.trans (mx_popi t225 d225_694) <|
  Eq.trans (mx_goto t225 d225_695 (tgt := 1183) (by decide)) <|
  Eq.trans (mx_iinc t225 d225_1183 (x := x3) (v := nI 6) (ls' := [.ref mm_SC, .ref a1, .ref a2, .int (x3 + nI 6)]) rfl rfl rfl rfl) <|
  (mx_goto t225 d225_1186 (tgt := 18) (by decide))
theorem b225_698 {d : Nat} {S : mm_S} {a1 : Nat} {a2 : Nat} {x3 : Int32} (h0 : mm_arr S mm_SC 13 = false) (h1 : mm_inb (x3 + (nI 1)) (mm_N S mm_SC) = true) (h2 : mm_rk S a1 = 11) : mm_ex (d + 1) 225 698 [.ref mm_SC, .ref a1, .ref a2, .int x3] [] S =
    mm_bd (mm_cl d 93 [.ref a1, .int (mm_M S mm_SC (x3 + (nI 1)).toNatClampNeg)] S) (fun v S2 => mm_ex (d + 1) 225 707 [.ref mm_SC, .ref a1, .ref a2, .int x3] (v.toList ++ []) S2) :=
  Eq.trans (mx_aload_n t225 d225_698 (x := a1) rfl) <|
  Eq.trans (mx_aload_n t225 d225_699 (x := mm_SC) rfl) <|
  Eq.trans (mx_iload_n t225 d225_700 (x := x3) rfl) <|
  Eq.trans (mx_iconst t225 d225_701 (v := nI 1) rfl) <|
  Eq.trans (mx_iadd t225 d225_702) <|
  Eq.trans (mx_isc t225 d225_703 h0 rfl h1) <|
  (mx_virt (st := []) (k := 11) t225 [.int (mm_M S mm_SC (x3 + (nI 1)).toNatClampNeg)] d225_704 vt17_98 rfl rfl (Nat.le_of_ble_eq_true rfl) (Nat.le_of_ble_eq_true rfl) h2)
theorem b225_707 {d : Nat} {S : mm_S} {a1 : Nat} {a2 : Nat} {x3 : Int32} {p0 : Int32} (h0 : mm_arr S mm_SC 13 = false) (h1 : mm_inb (x3 + (nI 1)) (mm_N S mm_SC) = true) (h2 : mm_rk S a2 = 12) : mm_ex (d + 1) 225 707 [.ref mm_SC, .ref a1, .ref a2, .int x3] [.int p0] S =
    mm_bd (mm_cl d 187 [.ref a2, .int (mm_M S mm_SC (x3 + (nI 1)).toNatClampNeg)] S) (fun v S2 => mm_ex (d + 1) 225 717 [.ref mm_SC, .ref a1, .ref a2, .int x3] (v.toList ++ []) S2) :=
  Eq.trans (mx_popi t225 d225_707) <|
  Eq.trans (mx_aload_n t225 d225_708 (x := a2) rfl) <|
  Eq.trans (mx_aload_n t225 d225_709 (x := mm_SC) rfl) <|
  Eq.trans (mx_iload_n t225 d225_710 (x := x3) rfl) <|
  Eq.trans (mx_iconst t225 d225_711 (v := nI 1) rfl) <|
  Eq.trans (mx_iadd t225 d225_712) <|
  Eq.trans (mx_isc t225 d225_713 h0 rfl h1) <|
  (mx_virt (st := []) (k := 12) t225 [.int (mm_M S mm_SC (x3 + (nI 1)).toNatClampNeg)] d225_714 vt17_101 rfl rfl (Nat.le_of_ble_eq_true rfl) (Nat.le_of_ble_eq_true rfl) h2)
theorem b225_717 {d : Nat} {S : mm_S} {a1 : Nat} {a2 : Nat} {x3 : Int32} {p0 : Int32} : mm_ex d 225 717 [.ref mm_SC, .ref a1, .ref a2, .int x3] [.int p0] S =
    mm_ex d 225 18 [.ref mm_SC, .ref a1, .ref a2, .int (x3 + nI 6)] [] S :=
  Eq.trans (mx_popi t225 d225_717) <|
  Eq.trans (mx_goto t225 d225_718 (tgt := 1183) (by decide)) <|
  Eq.trans (mx_iinc t225 d225_1183 (x := x3) (v := nI 6) (ls' := [.ref mm_SC, .ref a1, .ref a2, .int (x3 + nI 6)]) rfl rfl rfl rfl) <|
  (mx_goto t225 d225_1186 (tgt := 18) (by decide))
theorem b225_721 {d : Nat} {S : mm_S} {a1 : Nat} {a2 : Nat} {x3 : Int32} (h0 : mm_arr S mm_SC 13 = false) (h1 : mm_inb (x3 + (nI 1)) (mm_N S mm_SC) = true) (h2 : mm_inb (x3 + (nI 2)) (mm_N S mm_SC) = true) (h3 : mm_rk S a1 = 11) : mm_ex (d + 1) 225 721 [.ref mm_SC, .ref a1, .ref a2, .int x3] [] S =
    mm_bd (mm_cl d 94 [.ref a1, .int (mm_M S mm_SC (x3 + (nI 1)).toNatClampNeg), .int (mm_M S mm_SC (x3 + (nI 2)).toNatClampNeg)] S) (fun v S2 => mm_ex (d + 1) 225 735 [.ref mm_SC, .ref a1, .ref a2, .int x3] (v.toList ++ []) S2) :=
  Eq.trans (mx_aload_n t225 d225_721 (x := a1) rfl) <|
  Eq.trans (mx_aload_n t225 d225_722 (x := mm_SC) rfl) <|
  Eq.trans (mx_iload_n t225 d225_723 (x := x3) rfl) <|
  Eq.trans (mx_iconst t225 d225_724 (v := nI 1) rfl) <|
  Eq.trans (mx_iadd t225 d225_725) <|
  Eq.trans (mx_isc t225 d225_726 h0 rfl h1) <|
  Eq.trans (mx_aload_n t225 d225_727 (x := mm_SC) rfl) <|
  Eq.trans (mx_iload_n t225 d225_728 (x := x3) rfl) <|
  Eq.trans (mx_iconst t225 d225_729 (v := nI 2) rfl) <|
  Eq.trans (mx_iadd t225 d225_730) <|
  Eq.trans (mx_isc t225 d225_731 h0 rfl h2) <|
  (mx_virt (st := []) (k := 11) t225 [.int (mm_M S mm_SC (x3 + (nI 1)).toNatClampNeg), .int (mm_M S mm_SC (x3 + (nI 2)).toNatClampNeg)] d225_732 vt17_102 rfl rfl (Nat.le_of_ble_eq_true rfl) (Nat.le_of_ble_eq_true rfl) h3)
theorem b225_735 {d : Nat} {S : mm_S} {a1 : Nat} {a2 : Nat} {x3 : Int32} {p0 : Int64} (h0 : mm_arr S mm_SC 13 = false) (h1 : mm_inb (x3 + (nI 1)) (mm_N S mm_SC) = true) (h2 : mm_inb (x3 + (nI 2)) (mm_N S mm_SC) = true) (h3 : mm_rk S a2 = 12) : mm_ex (d + 1) 225 735 [.ref mm_SC, .ref a1, .ref a2, .int x3] [.long p0] S =
    mm_bd (mm_cl d 191 [.ref a2, .int (mm_M S mm_SC (x3 + (nI 1)).toNatClampNeg), .int (mm_M S mm_SC (x3 + (nI 2)).toNatClampNeg)] S) (fun v S2 => mm_ex (d + 1) 225 750 [.ref mm_SC, .ref a1, .ref a2, .int x3] (v.toList ++ []) S2) :=
  Eq.trans (mx_pop2l t225 d225_735) <|
  Eq.trans (mx_aload_n t225 d225_736 (x := a2) rfl) <|
  Eq.trans (mx_aload_n t225 d225_737 (x := mm_SC) rfl) <|
  Eq.trans (mx_iload_n t225 d225_738 (x := x3) rfl) <|
  Eq.trans (mx_iconst t225 d225_739 (v := nI 1) rfl) <|
  Eq.trans (mx_iadd t225 d225_740) <|
  Eq.trans (mx_isc t225 d225_741 h0 rfl h1) <|
  Eq.trans (mx_aload_n t225 d225_742 (x := mm_SC) rfl) <|
  Eq.trans (mx_iload_n t225 d225_743 (x := x3) rfl) <|
  Eq.trans (mx_iconst t225 d225_744 (v := nI 2) rfl) <|
  Eq.trans (mx_iadd t225 d225_745) <|
  Eq.trans (mx_isc t225 d225_746 h0 rfl h2) <|
  (mx_virt (st := []) (k := 12) t225 [.int (mm_M S mm_SC (x3 + (nI 1)).toNatClampNeg), .int (mm_M S mm_SC (x3 + (nI 2)).toNatClampNeg)] d225_747 vt17_106 rfl rfl (Nat.le_of_ble_eq_true rfl) (Nat.le_of_ble_eq_true rfl) h3)
theorem b225_750 {d : Nat} {S : mm_S} {a1 : Nat} {a2 : Nat} {x3 : Int32} {p0 : Int64} : mm_ex d 225 750 [.ref mm_SC, .ref a1, .ref a2, .int x3] [.long p0] S =
    mm_ex d 225 18 [.ref mm_SC, .ref a1, .ref a2, .int (x3 + nI 6)] [] S :=
  Eq.trans (mx_pop2l t225 d225_750) <|
  Eq.trans (mx_goto t225 d225_751 (tgt := 1183) (by decide)) <|
  Eq.trans (mx_iinc t225 d225_1183 (x := x3) (v := nI 6) (ls' := [.ref mm_SC, .ref a1, .ref a2, .int (x3 + nI 6)]) rfl rfl rfl rfl) <|
  (mx_goto t225 d225_1186 (tgt := 18) (by decide))
theorem b225_754 {d : Nat} {S : mm_S} {a1 : Nat} {a2 : Nat} {x3 : Int32} (h0 : mm_arr S mm_SC 13 = false) (h1 : mm_inb (x3 + (nI 1)) (mm_N S mm_SC) = true) (h2 : mm_rk S a1 = 11) : mm_ex (d + 1) 225 754 [.ref mm_SC, .ref a1, .ref a2, .int x3] [] S =
    mm_bd (mm_cl d 95 [.ref a1, .int (mm_M S mm_SC (x3 + (nI 1)).toNatClampNeg)] S) (fun v S2 => mm_ex (d + 1) 225 763 [.ref mm_SC, .ref a1, .ref a2, .int x3] (v.toList ++ []) S2) :=
  Eq.trans (mx_aload_n t225 d225_754 (x := a1) rfl) <|
  Eq.trans (mx_aload_n t225 d225_755 (x := mm_SC) rfl) <|
  Eq.trans (mx_iload_n t225 d225_756 (x := x3) rfl) <|
  Eq.trans (mx_iconst t225 d225_757 (v := nI 1) rfl) <|
  Eq.trans (mx_iadd t225 d225_758) <|
  Eq.trans (mx_isc t225 d225_759 h0 rfl h1) <|
  (mx_virt (st := []) (k := 11) t225 [.int (mm_M S mm_SC (x3 + (nI 1)).toNatClampNeg)] d225_760 vt17_107 rfl rfl (Nat.le_of_ble_eq_true rfl) (Nat.le_of_ble_eq_true rfl) h2)
theorem b225_763 {d : Nat} {S : mm_S} {a1 : Nat} {a2 : Nat} {x3 : Int32} {p0 : Int32} (h0 : mm_arr S mm_SC 13 = false) (h1 : mm_inb (x3 + (nI 1)) (mm_N S mm_SC) = true) (h2 : mm_rk S a2 = 12) : mm_ex (d + 1) 225 763 [.ref mm_SC, .ref a1, .ref a2, .int x3] [.int p0] S =
    mm_bd (mm_cl d 192 [.ref a2, .int (mm_M S mm_SC (x3 + (nI 1)).toNatClampNeg)] S) (fun v S2 => mm_ex (d + 1) 225 773 [.ref mm_SC, .ref a1, .ref a2, .int x3] (v.toList ++ []) S2) :=
  Eq.trans (mx_popi t225 d225_763) <|
  Eq.trans (mx_aload_n t225 d225_764 (x := a2) rfl) <|
  Eq.trans (mx_aload_n t225 d225_765 (x := mm_SC) rfl) <|
  Eq.trans (mx_iload_n t225 d225_766 (x := x3) rfl) <|
  Eq.trans (mx_iconst t225 d225_767 (v := nI 1) rfl) <|
  Eq.trans (mx_iadd t225 d225_768) <|
  Eq.trans (mx_isc t225 d225_769 h0 rfl h1) <|
  (mx_virt (st := []) (k := 12) t225 [.int (mm_M S mm_SC (x3 + (nI 1)).toNatClampNeg)] d225_770 vt17_110 rfl rfl (Nat.le_of_ble_eq_true rfl) (Nat.le_of_ble_eq_true rfl) h2)
theorem b225_773 {d : Nat} {S : mm_S} {a1 : Nat} {a2 : Nat} {x3 : Int32} {p0 : Int32} : mm_ex d 225 773 [.ref mm_SC, .ref a1, .ref a2, .int x3] [.int p0] S =
    mm_ex d 225 18 [.ref mm_SC, .ref a1, .ref a2, .int (x3 + nI 6)] [] S :=
  Eq.trans (mx_popi t225 d225_773) <|
  Eq.trans (mx_goto t225 d225_774 (tgt := 1183) (by decide)) <|
  Eq.trans (mx_iinc t225 d225_1183 (x := x3) (v := nI 6) (ls' := [.ref mm_SC, .ref a1, .ref a2, .int (x3 + nI 6)]) rfl rfl rfl rfl) <|
  (mx_goto t225 d225_1186 (tgt := 18) (by decide))
theorem b225_777 {d : Nat} {S : mm_S} {a1 : Nat} {a2 : Nat} {x3 : Int32} (h0 : mm_rk S a1 = 11) : mm_ex (d + 1) 225 777 [.ref mm_SC, .ref a1, .ref a2, .int x3] [] S =
    mm_bd (mm_cl d 96 [.ref a1] S) (fun v S2 => mm_ex (d + 1) 225 781 [.ref mm_SC, .ref a1, .ref a2, .int x3] (v.toList ++ []) S2) :=
  Eq.trans (mx_aload_n t225 d225_777 (x := a1) rfl) <|
  (mx_virt (st := []) (k := 11) t225 [] d225_778 vt17_111 rfl rfl (Nat.le_of_ble_eq_true rfl) (Nat.le_of_ble_eq_true rfl) h0)
theorem b225_781 {d : Nat} {S : mm_S} {a1 : Nat} {a2 : Nat} {x3 : Int32} {p0 : Int32} (h0 : mm_rk S a2 = 12) : mm_ex (d + 1) 225 781 [.ref mm_SC, .ref a1, .ref a2, .int x3] [.int p0] S =
    mm_bd (mm_cl d 193 [.ref a2] S) (fun v S2 => mm_ex (d + 1) 225 786 [.ref mm_SC, .ref a1, .ref a2, .int x3] (v.toList ++ []) S2) :=
  Eq.trans (mx_popi t225 d225_781) <|
  Eq.trans (mx_aload_n t225 d225_782 (x := a2) rfl) <|
  (mx_virt (st := []) (k := 12) t225 [] d225_783 vt17_114 rfl rfl (Nat.le_of_ble_eq_true rfl) (Nat.le_of_ble_eq_true rfl) h0)
theorem b225_786 {d : Nat} {S : mm_S} {a1 : Nat} {a2 : Nat} {x3 : Int32} {p0 : Int32} : mm_ex d 225 786 [.ref mm_SC, .ref a1, .ref a2, .int x3] [.int p0] S =
    mm_ex d 225 18 [.ref mm_SC, .ref a1, .ref a2, .int (x3 + nI 6)] [] S :=
  Eq.trans (mx_popi t225 d225_786) <|
  Eq.trans (mx_goto t225 d225_787 (tgt := 1183) (by decide)) <|
  Eq.trans (mx_iinc t225 d225_1183 (x := x3) (v := nI 6) (ls' := [.ref mm_SC, .ref a1, .ref a2, .int (x3 + nI 6)]) rfl rfl rfl rfl) <|
  (mx_goto t225 d225_1186 (tgt := 18) (by decide))
theorem b225_790 {d : Nat} {S : mm_S} {a1 : Nat} {a2 : Nat} {x3 : Int32} (h0 : mm_arr S mm_SC 13 = false) (h1 : mm_inb (x3 + (nI 1)) (mm_N S mm_SC) = true) (h2 : mm_inb (x3 + (nI 2)) (mm_N S mm_SC) = true) (h3 : mm_rk S a1 = 11) : mm_ex (d + 1) 225 790 [.ref mm_SC, .ref a1, .ref a2, .int x3] [] S =
    mm_bd (mm_cl d 97 [.ref a1, .int (mm_M S mm_SC (x3 + (nI 1)).toNatClampNeg), .int (mm_M S mm_SC (x3 + (nI 2)).toNatClampNeg)] S) (fun v S2 => mm_ex (d + 1) 225 804 [.ref mm_SC, .ref a1, .ref a2, .int x3] (v.toList ++ []) S2) :=
  Eq.trans (mx_aload_n t225 d225_790 (x := a1) rfl) <|
  Eq.trans (mx_aload_n t225 d225_791 (x := mm_SC) rfl) <|
  Eq.trans (mx_iload_n t225 d225_792 (x := x3) rfl) <|
  Eq.trans (mx_iconst t225 d225_793 (v := nI 1) rfl) <|
  Eq.trans (mx_iadd t225 d225_794) <|
  Eq.trans (mx_isc t225 d225_795 h0 rfl h1) <|
  Eq.trans (mx_aload_n t225 d225_796 (x := mm_SC) rfl) <|
  Eq.trans (mx_iload_n t225 d225_797 (x := x3) rfl) <|
  Eq.trans (mx_iconst t225 d225_798 (v := nI 2) rfl) <|
  Eq.trans (mx_iadd t225 d225_799) <|
  Eq.trans (mx_isc t225 d225_800 h0 rfl h2) <|
  (mx_virt (st := []) (k := 11) t225 [.int (mm_M S mm_SC (x3 + (nI 1)).toNatClampNeg), .int (mm_M S mm_SC (x3 + (nI 2)).toNatClampNeg)] d225_801 vt17_115 rfl rfl (Nat.le_of_ble_eq_true rfl) (Nat.le_of_ble_eq_true rfl) h3)
theorem b225_804 {d : Nat} {S : mm_S} {a1 : Nat} {a2 : Nat} {x3 : Int32} {p0 : Int32} (h0 : mm_arr S mm_SC 13 = false) (h1 : mm_inb (x3 + (nI 1)) (mm_N S mm_SC) = true) (h2 : mm_inb (x3 + (nI 2)) (mm_N S mm_SC) = true) (h3 : mm_rk S a2 = 12) : mm_ex (d + 1) 225 804 [.ref mm_SC, .ref a1, .ref a2, .int x3] [.int p0] S =
    mm_bd (mm_cl d 195 [.ref a2, .int (mm_M S mm_SC (x3 + (nI 1)).toNatClampNeg), .int (mm_M S mm_SC (x3 + (nI 2)).toNatClampNeg)] S) (fun v S2 => mm_ex (d + 1) 225 819 [.ref mm_SC, .ref a1, .ref a2, .int x3] (v.toList ++ []) S2) :=
  Eq.trans (mx_popi t225 d225_804) <|
  Eq.trans (mx_aload_n t225 d225_805 (x := a2) rfl) <|
  Eq.trans (mx_aload_n t225 d225_806 (x := mm_SC) rfl) <|
  Eq.trans (mx_iload_n t225 d225_807 (x := x3) rfl) <|
  Eq.trans (mx_iconst t225 d225_808 (v := nI 1) rfl) <|
  Eq.trans (mx_iadd t225 d225_809) <|
  Eq.trans (mx_isc t225 d225_810 h0 rfl h1) <|
  Eq.trans (mx_aload_n t225 d225_811 (x := mm_SC) rfl) <|
  Eq.trans (mx_iload_n t225 d225_812 (x := x3) rfl) <|
  Eq.trans (mx_iconst t225 d225_813 (v := nI 2) rfl) <|
  Eq.trans (mx_iadd t225 d225_814) <|
  Eq.trans (mx_isc t225 d225_815 h0 rfl h2) <|
  (mx_virt (st := []) (k := 12) t225 [.int (mm_M S mm_SC (x3 + (nI 1)).toNatClampNeg), .int (mm_M S mm_SC (x3 + (nI 2)).toNatClampNeg)] d225_816 vt17_118 rfl rfl (Nat.le_of_ble_eq_true rfl) (Nat.le_of_ble_eq_true rfl) h3)
theorem b225_819 {d : Nat} {S : mm_S} {a1 : Nat} {a2 : Nat} {x3 : Int32} {p0 : Int32} : mm_ex d 225 819 [.ref mm_SC, .ref a1, .ref a2, .int x3] [.int p0] S =
    mm_ex d 225 18 [.ref mm_SC, .ref a1, .ref a2, .int (x3 + nI 6)] [] S :=
  Eq.trans (mx_popi t225 d225_819) <|
  Eq.trans (mx_goto t225 d225_820 (tgt := 1183) (by decide)) <|
  Eq.trans (mx_iinc t225 d225_1183 (x := x3) (v := nI 6) (ls' := [.ref mm_SC, .ref a1, .ref a2, .int (x3 + nI 6)]) rfl rfl rfl rfl) <|
  (mx_goto t225 d225_1186 (tgt := 18) (by decide))
theorem b225_823 {d : Nat} {S : mm_S} {a1 : Nat} {a2 : Nat} {x3 : Int32} (h0 : mm_rk S a1 = 11) : mm_ex (d + 1) 225 823 [.ref mm_SC, .ref a1, .ref a2, .int x3] [] S =
    mm_bd (mm_cl d 98 [.ref a1] S) (fun v S2 => mm_ex (d + 1) 225 827 [.ref mm_SC, .ref a1, .ref a2, .int x3] (v.toList ++ []) S2) :=
  Eq.trans (mx_aload_n t225 d225_823 (x := a1) rfl) <|
  (mx_virt (st := []) (k := 11) t225 [] d225_824 vt17_119 rfl rfl (Nat.le_of_ble_eq_true rfl) (Nat.le_of_ble_eq_true rfl) h0)
theorem b225_827 {d : Nat} {S : mm_S} {a1 : Nat} {a2 : Nat} {x3 : Int32} {p0 : Int32} (h0 : mm_rk S a2 = 12) : mm_ex (d + 1) 225 827 [.ref mm_SC, .ref a1, .ref a2, .int x3] [.int p0] S =
    mm_bd (mm_cl d 196 [.ref a2] S) (fun v S2 => mm_ex (d + 1) 225 832 [.ref mm_SC, .ref a1, .ref a2, .int x3] (v.toList ++ []) S2) :=
  Eq.trans (mx_popi t225 d225_827) <|
  Eq.trans (mx_aload_n t225 d225_828 (x := a2) rfl) <|
  (mx_virt (st := []) (k := 12) t225 [] d225_829 vt17_122 rfl rfl (Nat.le_of_ble_eq_true rfl) (Nat.le_of_ble_eq_true rfl) h0)
theorem b225_832 {d : Nat} {S : mm_S} {a1 : Nat} {a2 : Nat} {x3 : Int32} {p0 : Int32} : mm_ex d 225 832 [.ref mm_SC, .ref a1, .ref a2, .int x3] [.int p0] S =
    mm_ex d 225 18 [.ref mm_SC, .ref a1, .ref a2, .int (x3 + nI 6)] [] S :=
  Eq.trans (mx_popi t225 d225_832) <|
  Eq.trans (mx_goto t225 d225_833 (tgt := 1183) (by decide)) <|
  Eq.trans (mx_iinc t225 d225_1183 (x := x3) (v := nI 6) (ls' := [.ref mm_SC, .ref a1, .ref a2, .int (x3 + nI 6)]) rfl rfl rfl rfl) <|
  (mx_goto t225 d225_1186 (tgt := 18) (by decide))
theorem b225_836 {d : Nat} {S : mm_S} {a1 : Nat} {a2 : Nat} {x3 : Int32} (h0 : mm_rk S a1 = 11) : mm_ex (d + 1) 225 836 [.ref mm_SC, .ref a1, .ref a2, .int x3] [] S =
    mm_bd (mm_cl d 99 [.ref a1] S) (fun v S2 => mm_ex (d + 1) 225 840 [.ref mm_SC, .ref a1, .ref a2, .int x3] (v.toList ++ []) S2) :=
  Eq.trans (mx_aload_n t225 d225_836 (x := a1) rfl) <|
  (mx_virt (st := []) (k := 11) t225 [] d225_837 vt17_123 rfl rfl (Nat.le_of_ble_eq_true rfl) (Nat.le_of_ble_eq_true rfl) h0)
theorem b225_840 {d : Nat} {S : mm_S} {a1 : Nat} {a2 : Nat} {x3 : Int32} {p0 : Int32} (h0 : mm_rk S a2 = 12) : mm_ex (d + 1) 225 840 [.ref mm_SC, .ref a1, .ref a2, .int x3] [.int p0] S =
    mm_bd (mm_cl d 197 [.ref a2] S) (fun v S2 => mm_ex (d + 1) 225 845 [.ref mm_SC, .ref a1, .ref a2, .int x3] (v.toList ++ []) S2) :=
  Eq.trans (mx_popi t225 d225_840) <|
  Eq.trans (mx_aload_n t225 d225_841 (x := a2) rfl) <|
  (mx_virt (st := []) (k := 12) t225 [] d225_842 vt17_126 rfl rfl (Nat.le_of_ble_eq_true rfl) (Nat.le_of_ble_eq_true rfl) h0)
theorem b225_845 {d : Nat} {S : mm_S} {a1 : Nat} {a2 : Nat} {x3 : Int32} {p0 : Int32} : mm_ex d 225 845 [.ref mm_SC, .ref a1, .ref a2, .int x3] [.int p0] S =
    mm_ex d 225 18 [.ref mm_SC, .ref a1, .ref a2, .int (x3 + nI 6)] [] S :=
  Eq.trans (mx_popi t225 d225_845) <|
  Eq.trans (mx_goto t225 d225_846 (tgt := 1183) (by decide)) <|
  Eq.trans (mx_iinc t225 d225_1183 (x := x3) (v := nI 6) (ls' := [.ref mm_SC, .ref a1, .ref a2, .int (x3 + nI 6)]) rfl rfl rfl rfl) <|
  (mx_goto t225 d225_1186 (tgt := 18) (by decide))
theorem b225_849 {d : Nat} {S : mm_S} {a1 : Nat} {a2 : Nat} {x3 : Int32} (h0 : mm_arr S mm_SC 13 = false) (h1 : mm_inb (x3 + (nI 1)) (mm_N S mm_SC) = true) (h2 : mm_inb (x3 + (nI 2)) (mm_N S mm_SC) = true) (h3 : mm_inb (x3 + (nI 3)) (mm_N S mm_SC) = true) (h4 : mm_rk S a1 = 11) : mm_ex (d + 1) 225 849 [.ref mm_SC, .ref a1, .ref a2, .int x3] [] S =
    mm_bd (mm_cl d 100 [.ref a1, .int (mm_M S mm_SC (x3 + (nI 1)).toNatClampNeg), .int (mm_M S mm_SC (x3 + (nI 2)).toNatClampNeg), .int (mm_M S mm_SC (x3 + (nI 3)).toNatClampNeg)] S) (fun v S2 => mm_ex (d + 1) 225 868 [.ref mm_SC, .ref a1, .ref a2, .int x3] (v.toList ++ []) S2) :=
  Eq.trans (mx_aload_n t225 d225_849 (x := a1) rfl) <|
  Eq.trans (mx_aload_n t225 d225_850 (x := mm_SC) rfl) <|
  Eq.trans (mx_iload_n t225 d225_851 (x := x3) rfl) <|
  Eq.trans (mx_iconst t225 d225_852 (v := nI 1) rfl) <|
  Eq.trans (mx_iadd t225 d225_853) <|
  Eq.trans (mx_isc t225 d225_854 h0 rfl h1) <|
  Eq.trans (mx_aload_n t225 d225_855 (x := mm_SC) rfl) <|
  Eq.trans (mx_iload_n t225 d225_856 (x := x3) rfl) <|
  Eq.trans (mx_iconst t225 d225_857 (v := nI 2) rfl) <|
  Eq.trans (mx_iadd t225 d225_858) <|
  Eq.trans (mx_isc t225 d225_859 h0 rfl h2) <|
  Eq.trans (mx_aload_n t225 d225_860 (x := mm_SC) rfl) <|
  Eq.trans (mx_iload_n t225 d225_861 (x := x3) rfl) <|
  Eq.trans (mx_iconst t225 d225_862 (v := nI 3) rfl) <|
  Eq.trans (mx_iadd t225 d225_863) <|
  Eq.trans (mx_isc t225 d225_864 h0 rfl h3) <|
  (mx_virt (st := []) (k := 11) t225 [.int (mm_M S mm_SC (x3 + (nI 1)).toNatClampNeg), .int (mm_M S mm_SC (x3 + (nI 2)).toNatClampNeg), .int (mm_M S mm_SC (x3 + (nI 3)).toNatClampNeg)] d225_865 vt17_127 rfl rfl (Nat.le_of_ble_eq_true rfl) (Nat.le_of_ble_eq_true rfl) h4)
theorem b225_868 {d : Nat} {S : mm_S} {a1 : Nat} {a2 : Nat} {x3 : Int32} {p0 : Int32} (h0 : mm_arr S mm_SC 13 = false) (h1 : mm_inb (x3 + (nI 1)) (mm_N S mm_SC) = true) (h2 : mm_inb (x3 + (nI 2)) (mm_N S mm_SC) = true) (h3 : mm_inb (x3 + (nI 3)) (mm_N S mm_SC) = true) (h4 : mm_rk S a2 = 12) : mm_ex (d + 1) 225 868 [.ref mm_SC, .ref a1, .ref a2, .int x3] [.int p0] S =
    mm_bd (mm_cl d 203 [.ref a2, .int (mm_M S mm_SC (x3 + (nI 1)).toNatClampNeg), .int (mm_M S mm_SC (x3 + (nI 2)).toNatClampNeg), .int (mm_M S mm_SC (x3 + (nI 3)).toNatClampNeg)] S) (fun v S2 => mm_ex (d + 1) 225 888 [.ref mm_SC, .ref a1, .ref a2, .int x3] (v.toList ++ []) S2) :=
  Eq.trans (mx_popi t225 d225_868) <|
  Eq.trans (mx_aload_n t225 d225_869 (x := a2) rfl) <|
  Eq.trans (mx_aload_n t225 d225_870 (x := mm_SC) rfl) <|
  Eq.trans (mx_iload_n t225 d225_871 (x := x3) rfl) <|
  Eq.trans (mx_iconst t225 d225_872 (v := nI 1) rfl) <|
  Eq.trans (mx_iadd t225 d225_873) <|
  Eq.trans (mx_isc t225 d225_874 h0 rfl h1) <|
  Eq.trans (mx_aload_n t225 d225_875 (x := mm_SC) rfl) <|
  Eq.trans (mx_iload_n t225 d225_876 (x := x3) rfl) <|
  Eq.trans (mx_iconst t225 d225_877 (v := nI 2) rfl) <|
  Eq.trans (mx_iadd t225 d225_878) <|
  Eq.trans (mx_isc t225 d225_879 h0 rfl h2) <|
  Eq.trans (mx_aload_n t225 d225_880 (x := mm_SC) rfl) <|
  Eq.trans (mx_iload_n t225 d225_881 (x := x3) rfl) <|
  Eq.trans (mx_iconst t225 d225_882 (v := nI 3) rfl) <|
  Eq.trans (mx_iadd t225 d225_883) <|
  Eq.trans (mx_isc t225 d225_884 h0 rfl h3) <|
  (mx_virt (st := []) (k := 12) t225 [.int (mm_M S mm_SC (x3 + (nI 1)).toNatClampNeg), .int (mm_M S mm_SC (x3 + (nI 2)).toNatClampNeg), .int (mm_M S mm_SC (x3 + (nI 3)).toNatClampNeg)] d225_885 vt17_130 rfl rfl (Nat.le_of_ble_eq_true rfl) (Nat.le_of_ble_eq_true rfl) h4)
theorem b225_888 {d : Nat} {S : mm_S} {a1 : Nat} {a2 : Nat} {x3 : Int32} {p0 : Int32} : mm_ex d 225 888 [.ref mm_SC, .ref a1, .ref a2, .int x3] [.int p0] S =
    mm_ex d 225 18 [.ref mm_SC, .ref a1, .ref a2, .int (x3 + nI 6)] [] S :=
  Eq.trans (mx_popi t225 d225_888) <|
  Eq.trans (mx_goto t225 d225_889 (tgt := 1183) (by decide)) <|
  Eq.trans (mx_iinc t225 d225_1183 (x := x3) (v := nI 6) (ls' := [.ref mm_SC, .ref a1, .ref a2, .int (x3 + nI 6)]) rfl rfl rfl rfl) <|
  (mx_goto t225 d225_1186 (tgt := 18) (by decide))
theorem b225_892 {d : Nat} {S : mm_S} {a1 : Nat} {a2 : Nat} {x3 : Int32} (h0 : mm_arr S mm_SC 13 = false) (h1 : mm_inb (x3 + (nI 1)) (mm_N S mm_SC) = true) (h2 : mm_rk S a1 = 11) : mm_ex (d + 1) 225 892 [.ref mm_SC, .ref a1, .ref a2, .int x3] [] S =
    mm_bd (mm_cl d 101 [.ref a1, .int (mm_M S mm_SC (x3 + (nI 1)).toNatClampNeg)] S) (fun v S2 => mm_ex (d + 1) 225 901 [.ref mm_SC, .ref a1, .ref a2, .int x3] (v.toList ++ []) S2) :=
  Eq.trans (mx_aload_n t225 d225_892 (x := a1) rfl) <|
  Eq.trans (mx_aload_n t225 d225_893 (x := mm_SC) rfl) <|
  Eq.trans (mx_iload_n t225 d225_894 (x := x3) rfl) <|
  Eq.trans (mx_iconst t225 d225_895 (v := nI 1) rfl) <|
  Eq.trans (mx_iadd t225 d225_896) <|
  Eq.trans (mx_isc t225 d225_897 h0 rfl h1) <|
  (mx_virt (st := []) (k := 11) t225 [.int (mm_M S mm_SC (x3 + (nI 1)).toNatClampNeg)] d225_898 vt17_131 rfl rfl (Nat.le_of_ble_eq_true rfl) (Nat.le_of_ble_eq_true rfl) h2)
theorem b225_901 {d : Nat} {S : mm_S} {a1 : Nat} {a2 : Nat} {x3 : Int32} {p0 : Int32} (h0 : mm_arr S mm_SC 13 = false) (h1 : mm_inb (x3 + (nI 1)) (mm_N S mm_SC) = true) (h2 : mm_rk S a2 = 12) : mm_ex (d + 1) 225 901 [.ref mm_SC, .ref a1, .ref a2, .int x3] [.int p0] S =
    mm_bd (mm_cl d 204 [.ref a2, .int (mm_M S mm_SC (x3 + (nI 1)).toNatClampNeg)] S) (fun v S2 => mm_ex (d + 1) 225 911 [.ref mm_SC, .ref a1, .ref a2, .int x3] (v.toList ++ []) S2) :=
  Eq.trans (mx_popi t225 d225_901) <|
  Eq.trans (mx_aload_n t225 d225_902 (x := a2) rfl) <|
  Eq.trans (mx_aload_n t225 d225_903 (x := mm_SC) rfl) <|
  Eq.trans (mx_iload_n t225 d225_904 (x := x3) rfl) <|
  Eq.trans (mx_iconst t225 d225_905 (v := nI 1) rfl) <|
  Eq.trans (mx_iadd t225 d225_906) <|
  Eq.trans (mx_isc t225 d225_907 h0 rfl h1) <|
  (mx_virt (st := []) (k := 12) t225 [.int (mm_M S mm_SC (x3 + (nI 1)).toNatClampNeg)] d225_908 vt17_134 rfl rfl (Nat.le_of_ble_eq_true rfl) (Nat.le_of_ble_eq_true rfl) h2)
theorem b225_911 {d : Nat} {S : mm_S} {a1 : Nat} {a2 : Nat} {x3 : Int32} {p0 : Int32} : mm_ex d 225 911 [.ref mm_SC, .ref a1, .ref a2, .int x3] [.int p0] S =
    mm_ex d 225 18 [.ref mm_SC, .ref a1, .ref a2, .int (x3 + nI 6)] [] S :=
  Eq.trans (mx_popi t225 d225_911) <|
  Eq.trans (mx_goto t225 d225_912 (tgt := 1183) (by decide)) <|
  Eq.trans (mx_iinc t225 d225_1183 (x := x3) (v := nI 6) (ls' := [.ref mm_SC, .ref a1, .ref a2, .int (x3 + nI 6)]) rfl rfl rfl rfl) <|
  (mx_goto t225 d225_1186 (tgt := 18) (by decide))
theorem b225_915 {d : Nat} {S : mm_S} {a1 : Nat} {a2 : Nat} {x3 : Int32} (h0 : mm_arr S mm_SC 13 = false) (h1 : mm_inb (x3 + (nI 1)) (mm_N S mm_SC) = true) (h2 : mm_inb (x3 + (nI 2)) (mm_N S mm_SC) = true) (h3 : mm_rk S a1 = 11) : mm_ex (d + 1) 225 915 [.ref mm_SC, .ref a1, .ref a2, .int x3] [] S =
    mm_bd (mm_cl d 102 [.ref a1, .int (mm_M S mm_SC (x3 + (nI 1)).toNatClampNeg), .int (mm_M S mm_SC (x3 + (nI 2)).toNatClampNeg)] S) (fun v S2 => mm_ex (d + 1) 225 929 [.ref mm_SC, .ref a1, .ref a2, .int x3] (v.toList ++ []) S2) :=
  Eq.trans (mx_aload_n t225 d225_915 (x := a1) rfl) <|
  Eq.trans (mx_aload_n t225 d225_916 (x := mm_SC) rfl) <|
  Eq.trans (mx_iload_n t225 d225_917 (x := x3) rfl) <|
  Eq.trans (mx_iconst t225 d225_918 (v := nI 1) rfl) <|
  Eq.trans (mx_iadd t225 d225_919) <|
  Eq.trans (mx_isc t225 d225_920 h0 rfl h1) <|
  Eq.trans (mx_aload_n t225 d225_921 (x := mm_SC) rfl) <|
  Eq.trans (mx_iload_n t225 d225_922 (x := x3) rfl) <|
  Eq.trans (mx_iconst t225 d225_923 (v := nI 2) rfl) <|
  Eq.trans (mx_iadd t225 d225_924) <|
  Eq.trans (mx_isc t225 d225_925 h0 rfl h2) <|
  (mx_virt (st := []) (k := 11) t225 [.int (mm_M S mm_SC (x3 + (nI 1)).toNatClampNeg), .int (mm_M S mm_SC (x3 + (nI 2)).toNatClampNeg)] d225_926 vt17_135 rfl rfl (Nat.le_of_ble_eq_true rfl) (Nat.le_of_ble_eq_true rfl) h3)
theorem b225_929 {d : Nat} {S : mm_S} {a1 : Nat} {a2 : Nat} {x3 : Int32} {p0 : Int32} (h0 : mm_arr S mm_SC 13 = false) (h1 : mm_inb (x3 + (nI 1)) (mm_N S mm_SC) = true) (h2 : mm_inb (x3 + (nI 2)) (mm_N S mm_SC) = true) (h3 : mm_rk S a2 = 12) : mm_ex (d + 1) 225 929 [.ref mm_SC, .ref a1, .ref a2, .int x3] [.int p0] S =
    mm_bd (mm_cl d 205 [.ref a2, .int (mm_M S mm_SC (x3 + (nI 1)).toNatClampNeg), .int (mm_M S mm_SC (x3 + (nI 2)).toNatClampNeg)] S) (fun v S2 => mm_ex (d + 1) 225 944 [.ref mm_SC, .ref a1, .ref a2, .int x3] (v.toList ++ []) S2) :=
  Eq.trans (mx_popi t225 d225_929) <|
  Eq.trans (mx_aload_n t225 d225_930 (x := a2) rfl) <|
  Eq.trans (mx_aload_n t225 d225_931 (x := mm_SC) rfl) <|
  Eq.trans (mx_iload_n t225 d225_932 (x := x3) rfl) <|
  Eq.trans (mx_iconst t225 d225_933 (v := nI 1) rfl) <|
  Eq.trans (mx_iadd t225 d225_934) <|
  Eq.trans (mx_isc t225 d225_935 h0 rfl h1) <|
  Eq.trans (mx_aload_n t225 d225_936 (x := mm_SC) rfl) <|
  Eq.trans (mx_iload_n t225 d225_937 (x := x3) rfl) <|
  Eq.trans (mx_iconst t225 d225_938 (v := nI 2) rfl) <|
  Eq.trans (mx_iadd t225 d225_939) <|
  Eq.trans (mx_isc t225 d225_940 h0 rfl h2) <|
  (mx_virt (st := []) (k := 12) t225 [.int (mm_M S mm_SC (x3 + (nI 1)).toNatClampNeg), .int (mm_M S mm_SC (x3 + (nI 2)).toNatClampNeg)] d225_941 vt17_138 rfl rfl (Nat.le_of_ble_eq_true rfl) (Nat.le_of_ble_eq_true rfl) h3)
theorem b225_944 {d : Nat} {S : mm_S} {a1 : Nat} {a2 : Nat} {x3 : Int32} {p0 : Int32} : mm_ex d 225 944 [.ref mm_SC, .ref a1, .ref a2, .int x3] [.int p0] S =
    mm_ex d 225 18 [.ref mm_SC, .ref a1, .ref a2, .int (x3 + nI 6)] [] S :=
  Eq.trans (mx_popi t225 d225_944) <|
  Eq.trans (mx_goto t225 d225_945 (tgt := 1183) (by decide)) <|
  Eq.trans (mx_iinc t225 d225_1183 (x := x3) (v := nI 6) (ls' := [.ref mm_SC, .ref a1, .ref a2, .int (x3 + nI 6)]) rfl rfl rfl rfl) <|
  (mx_goto t225 d225_1186 (tgt := 18) (by decide))
theorem b225_948 {d : Nat} {S : mm_S} {a1 : Nat} {a2 : Nat} {x3 : Int32} (h0 : mm_arr S mm_SC 13 = false) (h1 : mm_inb (x3 + (nI 1)) (mm_N S mm_SC) = true) (h2 : mm_rk S a1 = 11) : mm_ex (d + 1) 225 948 [.ref mm_SC, .ref a1, .ref a2, .int x3] [] S =
    mm_bd (mm_cl d 103 [.ref a1, .int (mm_M S mm_SC (x3 + (nI 1)).toNatClampNeg)] S) (fun v S2 => mm_ex (d + 1) 225 957 [.ref mm_SC, .ref a1, .ref a2, .int x3] (v.toList ++ []) S2) :=
  Eq.trans (mx_aload_n t225 d225_948 (x := a1) rfl) <|
  Eq.trans (mx_aload_n t225 d225_949 (x := mm_SC) rfl) <|
  Eq.trans (mx_iload_n t225 d225_950 (x := x3) rfl) <|
  Eq.trans (mx_iconst t225 d225_951 (v := nI 1) rfl) <|
  Eq.trans (mx_iadd t225 d225_952) <|
  Eq.trans (mx_isc t225 d225_953 h0 rfl h1) <|
  (mx_virt (st := []) (k := 11) t225 [.int (mm_M S mm_SC (x3 + (nI 1)).toNatClampNeg)] d225_954 vt17_139 rfl rfl (Nat.le_of_ble_eq_true rfl) (Nat.le_of_ble_eq_true rfl) h2)
theorem b225_957 {d : Nat} {S : mm_S} {a1 : Nat} {a2 : Nat} {x3 : Int32} {p0 : Int32} (h0 : mm_arr S mm_SC 13 = false) (h1 : mm_inb (x3 + (nI 1)) (mm_N S mm_SC) = true) (h2 : mm_rk S a2 = 12) : mm_ex (d + 1) 225 957 [.ref mm_SC, .ref a1, .ref a2, .int x3] [.int p0] S =
    mm_bd (mm_cl d 206 [.ref a2, .int (mm_M S mm_SC (x3 + (nI 1)).toNatClampNeg)] S) (fun v S2 => mm_ex (d + 1) 225 967 [.ref mm_SC, .ref a1, .ref a2, .int x3] (v.toList ++ []) S2) :=
  Eq.trans (mx_popi t225 d225_957) <|
  Eq.trans (mx_aload_n t225 d225_958 (x := a2) rfl) <|
  Eq.trans (mx_aload_n t225 d225_959 (x := mm_SC) rfl) <|
  Eq.trans (mx_iload_n t225 d225_960 (x := x3) rfl) <|
  Eq.trans (mx_iconst t225 d225_961 (v := nI 1) rfl) <|
  Eq.trans (mx_iadd t225 d225_962) <|
  Eq.trans (mx_isc t225 d225_963 h0 rfl h1) <|
  (mx_virt (st := []) (k := 12) t225 [.int (mm_M S mm_SC (x3 + (nI 1)).toNatClampNeg)] d225_964 vt17_142 rfl rfl (Nat.le_of_ble_eq_true rfl) (Nat.le_of_ble_eq_true rfl) h2)
theorem b225_967 {d : Nat} {S : mm_S} {a1 : Nat} {a2 : Nat} {x3 : Int32} {p0 : Int32} : mm_ex d 225 967 [.ref mm_SC, .ref a1, .ref a2, .int x3] [.int p0] S =
    mm_ex d 225 18 [.ref mm_SC, .ref a1, .ref a2, .int (x3 + nI 6)] [] S :=
  Eq.trans (mx_popi t225 d225_967) <|
  Eq.trans (mx_goto t225 d225_968 (tgt := 1183) (by decide)) <|
  Eq.trans (mx_iinc t225 d225_1183 (x := x3) (v := nI 6) (ls' := [.ref mm_SC, .ref a1, .ref a2, .int (x3 + nI 6)]) rfl rfl rfl rfl) <|
  (mx_goto t225 d225_1186 (tgt := 18) (by decide))
theorem b225_971 {d : Nat} {S : mm_S} {a1 : Nat} {a2 : Nat} {x3 : Int32} (h0 : mm_arr S mm_SC 13 = false) (h1 : mm_inb (x3 + (nI 1)) (mm_N S mm_SC) = true) (h2 : mm_inb (x3 + (nI 2)) (mm_N S mm_SC) = true) (h3 : mm_inb (x3 + (nI 3)) (mm_N S mm_SC) = true) (h4 : mm_rk S a1 = 11) : mm_ex (d + 1) 225 971 [.ref mm_SC, .ref a1, .ref a2, .int x3] [] S =
    mm_bd (mm_cl d 104 [.ref a1, .int (mm_M S mm_SC (x3 + (nI 1)).toNatClampNeg), .int (mm_M S mm_SC (x3 + (nI 2)).toNatClampNeg), .int (mm_M S mm_SC (x3 + (nI 3)).toNatClampNeg)] S) (fun v S2 => mm_ex (d + 1) 225 990 [.ref mm_SC, .ref a1, .ref a2, .int x3] (v.toList ++ []) S2) :=
  Eq.trans (mx_aload_n t225 d225_971 (x := a1) rfl) <|
  Eq.trans (mx_aload_n t225 d225_972 (x := mm_SC) rfl) <|
  Eq.trans (mx_iload_n t225 d225_973 (x := x3) rfl) <|
  Eq.trans (mx_iconst t225 d225_974 (v := nI 1) rfl) <|
  Eq.trans (mx_iadd t225 d225_975) <|
  Eq.trans (mx_isc t225 d225_976 h0 rfl h1) <|
  Eq.trans (mx_aload_n t225 d225_977 (x := mm_SC) rfl) <|
  Eq.trans (mx_iload_n t225 d225_978 (x := x3) rfl) <|
  Eq.trans (mx_iconst t225 d225_979 (v := nI 2) rfl) <|
  Eq.trans (mx_iadd t225 d225_980) <|
  Eq.trans (mx_isc t225 d225_981 h0 rfl h2) <|
  Eq.trans (mx_aload_n t225 d225_982 (x := mm_SC) rfl) <|
  Eq.trans (mx_iload_n t225 d225_983 (x := x3) rfl) <|
  Eq.trans (mx_iconst t225 d225_984 (v := nI 3) rfl) <|
  Eq.trans (mx_iadd t225 d225_985) <|
  Eq.trans (mx_isc t225 d225_986 h0 rfl h3) <|
  (mx_virt (st := []) (k := 11) t225 [.int (mm_M S mm_SC (x3 + (nI 1)).toNatClampNeg), .int (mm_M S mm_SC (x3 + (nI 2)).toNatClampNeg), .int (mm_M S mm_SC (x3 + (nI 3)).toNatClampNeg)] d225_987 vt17_143 rfl rfl (Nat.le_of_ble_eq_true rfl) (Nat.le_of_ble_eq_true rfl) h4)
theorem b225_990 {d : Nat} {S : mm_S} {a1 : Nat} {a2 : Nat} {x3 : Int32} {p0 : Int32} (h0 : mm_arr S mm_SC 13 = false) (h1 : mm_inb (x3 + (nI 1)) (mm_N S mm_SC) = true) (h2 : mm_inb (x3 + (nI 2)) (mm_N S mm_SC) = true) (h3 : mm_inb (x3 + (nI 3)) (mm_N S mm_SC) = true) (h4 : mm_rk S a2 = 12) : mm_ex (d + 1) 225 990 [.ref mm_SC, .ref a1, .ref a2, .int x3] [.int p0] S =
    mm_bd (mm_cl d 207 [.ref a2, .int (mm_M S mm_SC (x3 + (nI 1)).toNatClampNeg), .int (mm_M S mm_SC (x3 + (nI 2)).toNatClampNeg), .int (mm_M S mm_SC (x3 + (nI 3)).toNatClampNeg)] S) (fun v S2 => mm_ex (d + 1) 225 1010 [.ref mm_SC, .ref a1, .ref a2, .int x3] (v.toList ++ []) S2) :=
  Eq.trans (mx_popi t225 d225_990) <|
  Eq.trans (mx_aload_n t225 d225_991 (x := a2) rfl) <|
  Eq.trans (mx_aload_n t225 d225_992 (x := mm_SC) rfl) <|
  Eq.trans (mx_iload_n t225 d225_993 (x := x3) rfl) <|
  Eq.trans (mx_iconst t225 d225_994 (v := nI 1) rfl) <|
  Eq.trans (mx_iadd t225 d225_995) <|
  Eq.trans (mx_isc t225 d225_996 h0 rfl h1) <|
  Eq.trans (mx_aload_n t225 d225_997 (x := mm_SC) rfl) <|
  Eq.trans (mx_iload_n t225 d225_998 (x := x3) rfl) <|
  Eq.trans (mx_iconst t225 d225_999 (v := nI 2) rfl) <|
  Eq.trans (mx_iadd t225 d225_1000) <|
  Eq.trans (mx_isc t225 d225_1001 h0 rfl h2) <|
  Eq.trans (mx_aload_n t225 d225_1002 (x := mm_SC) rfl) <|
  Eq.trans (mx_iload_n t225 d225_1003 (x := x3) rfl) <|
  Eq.trans (mx_iconst t225 d225_1004 (v := nI 3) rfl) <|
  Eq.trans (mx_iadd t225 d225_1005) <|
  Eq.trans (mx_isc t225 d225_1006 h0 rfl h3) <|
  (mx_virt (st := []) (k := 12) t225 [.int (mm_M S mm_SC (x3 + (nI 1)).toNatClampNeg), .int (mm_M S mm_SC (x3 + (nI 2)).toNatClampNeg), .int (mm_M S mm_SC (x3 + (nI 3)).toNatClampNeg)] d225_1007 vt17_146 rfl rfl (Nat.le_of_ble_eq_true rfl) (Nat.le_of_ble_eq_true rfl) h4)
theorem b225_1010 {d : Nat} {S : mm_S} {a1 : Nat} {a2 : Nat} {x3 : Int32} {p0 : Int32} : mm_ex d 225 1010 [.ref mm_SC, .ref a1, .ref a2, .int x3] [.int p0] S =
    mm_ex d 225 18 [.ref mm_SC, .ref a1, .ref a2, .int (x3 + nI 6)] [] S :=
  Eq.trans (mx_popi t225 d225_1010) <|
  Eq.trans (mx_goto t225 d225_1011 (tgt := 1183) (by decide)) <|
  Eq.trans (mx_iinc t225 d225_1183 (x := x3) (v := nI 6) (ls' := [.ref mm_SC, .ref a1, .ref a2, .int (x3 + nI 6)]) rfl rfl rfl rfl) <|
  (mx_goto t225 d225_1186 (tgt := 18) (by decide))
theorem b225_1014 {d : Nat} {S : mm_S} {a1 : Nat} {a2 : Nat} {x3 : Int32} (h0 : mm_arr S mm_SC 13 = false) (h1 : mm_inb (x3 + (nI 1)) (mm_N S mm_SC) = true) (h2 : mm_inb (x3 + (nI 2)) (mm_N S mm_SC) = true) (h3 : mm_inb (x3 + (nI 3)) (mm_N S mm_SC) = true) (h4 : mm_inb (x3 + (nI 4)) (mm_N S mm_SC) = true) (h5 : mm_rk S a1 = 11) : mm_ex (d + 1) 225 1014 [.ref mm_SC, .ref a1, .ref a2, .int x3] [] S =
    mm_bd (mm_cl d 105 [.ref a1, .int (mm_M S mm_SC (x3 + (nI 1)).toNatClampNeg), .int (mm_M S mm_SC (x3 + (nI 2)).toNatClampNeg), .long ((((mm_M S mm_SC (x3 + (nI 3)).toNatClampNeg).toInt64) <<< ((nI 32).toInt64 &&& 63)) ||| (((mm_M S mm_SC (x3 + (nI 4)).toNatClampNeg).toInt64) &&& 4294967295))] S) (fun v S2 => mm_ex (d + 1) 225 1048 [.ref mm_SC, .ref a1, .ref a2, .int x3] (v.toList ++ []) S2) :=
  Eq.trans (mx_aload_n t225 d225_1014 (x := a1) rfl) <|
  Eq.trans (mx_aload_n t225 d225_1015 (x := mm_SC) rfl) <|
  Eq.trans (mx_iload_n t225 d225_1016 (x := x3) rfl) <|
  Eq.trans (mx_iconst t225 d225_1017 (v := nI 1) rfl) <|
  Eq.trans (mx_iadd t225 d225_1018) <|
  Eq.trans (mx_isc t225 d225_1019 h0 rfl h1) <|
  Eq.trans (mx_aload_n t225 d225_1020 (x := mm_SC) rfl) <|
  Eq.trans (mx_iload_n t225 d225_1021 (x := x3) rfl) <|
  Eq.trans (mx_iconst t225 d225_1022 (v := nI 2) rfl) <|
  Eq.trans (mx_iadd t225 d225_1023) <|
  Eq.trans (mx_isc t225 d225_1024 h0 rfl h2) <|
  Eq.trans (mx_aload_n t225 d225_1025 (x := mm_SC) rfl) <|
  Eq.trans (mx_iload_n t225 d225_1026 (x := x3) rfl) <|
  Eq.trans (mx_iconst t225 d225_1027 (v := nI 3) rfl) <|
  Eq.trans (mx_iadd t225 d225_1028) <|
  Eq.trans (mx_isc t225 d225_1029 h0 rfl h3) <|
  Eq.trans (mx_i2l t225 d225_1030) <|
  Eq.trans (mx_bipush t225 d225_1031 (v := nI 32) rfl) <|
  Eq.trans (mx_lshl t225 d225_1033) <|
  Eq.trans (mx_aload_n t225 d225_1034 (x := mm_SC) rfl) <|
  Eq.trans (mx_iload_n t225 d225_1035 (x := x3) rfl) <|
  Eq.trans (mx_iconst t225 d225_1036 (v := nI 4) rfl) <|
  Eq.trans (mx_iadd t225 d225_1037) <|
  Eq.trans (mx_isc t225 d225_1038 h0 rfl h4) <|
  Eq.trans (mx_i2l t225 d225_1039) <|
  Eq.trans (mx_ldc2_w t225 d225_1040 (v := 4294967295) l217_147) <|
  Eq.trans (mx_land t225 d225_1043) <|
  Eq.trans (mx_lor t225 d225_1044) <|
  (mx_virt (st := []) (k := 11) t225 [.int (mm_M S mm_SC (x3 + (nI 1)).toNatClampNeg), .int (mm_M S mm_SC (x3 + (nI 2)).toNatClampNeg), .long ((((mm_M S mm_SC (x3 + (nI 3)).toNatClampNeg).toInt64) <<< ((nI 32).toInt64 &&& 63)) ||| (((mm_M S mm_SC (x3 + (nI 4)).toNatClampNeg).toInt64) &&& 4294967295))] d225_1045 vt17_149 rfl rfl (Nat.le_of_ble_eq_true rfl) (Nat.le_of_ble_eq_true rfl) h5)
theorem b225_1048 {d : Nat} {S : mm_S} {a1 : Nat} {a2 : Nat} {x3 : Int32} {p0 : Int32} (h0 : mm_arr S mm_SC 13 = false) (h1 : mm_inb (x3 + (nI 1)) (mm_N S mm_SC) = true) (h2 : mm_inb (x3 + (nI 2)) (mm_N S mm_SC) = true) (h3 : mm_inb (x3 + (nI 3)) (mm_N S mm_SC) = true) (h4 : mm_inb (x3 + (nI 4)) (mm_N S mm_SC) = true) (h5 : mm_rk S a2 = 12) : mm_ex (d + 1) 225 1048 [.ref mm_SC, .ref a1, .ref a2, .int x3] [.int p0] S =
    mm_bd (mm_cl d 209 [.ref a2, .int (mm_M S mm_SC (x3 + (nI 1)).toNatClampNeg), .int (mm_M S mm_SC (x3 + (nI 2)).toNatClampNeg), .long ((((mm_M S mm_SC (x3 + (nI 3)).toNatClampNeg).toInt64) <<< ((nI 32).toInt64 &&& 63)) ||| (((mm_M S mm_SC (x3 + (nI 4)).toNatClampNeg).toInt64) &&& 4294967295))] S) (fun v S2 => mm_ex (d + 1) 225 1083 [.ref mm_SC, .ref a1, .ref a2, .int x3] (v.toList ++ []) S2) :=
  Eq.trans (mx_popi t225 d225_1048) <|
  Eq.trans (mx_aload_n t225 d225_1049 (x := a2) rfl) <|
  Eq.trans (mx_aload_n t225 d225_1050 (x := mm_SC) rfl) <|
  Eq.trans (mx_iload_n t225 d225_1051 (x := x3) rfl) <|
  Eq.trans (mx_iconst t225 d225_1052 (v := nI 1) rfl) <|
  Eq.trans (mx_iadd t225 d225_1053) <|
  Eq.trans (mx_isc t225 d225_1054 h0 rfl h1) <|
  Eq.trans (mx_aload_n t225 d225_1055 (x := mm_SC) rfl) <|
  Eq.trans (mx_iload_n t225 d225_1056 (x := x3) rfl) <|
  Eq.trans (mx_iconst t225 d225_1057 (v := nI 2) rfl) <|
  Eq.trans (mx_iadd t225 d225_1058) <|
  Eq.trans (mx_isc t225 d225_1059 h0 rfl h2) <|
  Eq.trans (mx_aload_n t225 d225_1060 (x := mm_SC) rfl) <|
  Eq.trans (mx_iload_n t225 d225_1061 (x := x3) rfl) <|
  Eq.trans (mx_iconst t225 d225_1062 (v := nI 3) rfl) <|
  Eq.trans (mx_iadd t225 d225_1063) <|
  Eq.trans (mx_isc t225 d225_1064 h0 rfl h3) <|
  Eq.trans (mx_i2l t225 d225_1065) <|
  Eq.trans (mx_bipush t225 d225_1066 (v := nI 32) rfl) <|
  Eq.trans (mx_lshl t225 d225_1068) <|
  Eq.trans (mx_aload_n t225 d225_1069 (x := mm_SC) rfl) <|
  Eq.trans (mx_iload_n t225 d225_1070 (x := x3) rfl) <|
  Eq.trans (mx_iconst t225 d225_1071 (v := nI 4) rfl) <|
  Eq.trans (mx_iadd t225 d225_1072) <|
  Eq.trans (mx_isc t225 d225_1073 h0 rfl h4) <|
  Eq.trans (mx_i2l t225 d225_1074) <|
  Eq.trans (mx_ldc2_w t225 d225_1075 (v := 4294967295) l217_147) <|
  Eq.trans (mx_land t225 d225_1078) <|
  Eq.trans (mx_lor t225 d225_1079) <|
  (mx_virt (st := []) (k := 12) t225 [.int (mm_M S mm_SC (x3 + (nI 1)).toNatClampNeg), .int (mm_M S mm_SC (x3 + (nI 2)).toNatClampNeg), .long ((((mm_M S mm_SC (x3 + (nI 3)).toNatClampNeg).toInt64) <<< ((nI 32).toInt64 &&& 63)) ||| (((mm_M S mm_SC (x3 + (nI 4)).toNatClampNeg).toInt64) &&& 4294967295))] d225_1080 vt17_153 rfl rfl (Nat.le_of_ble_eq_true rfl) (Nat.le_of_ble_eq_true rfl) h5)
theorem b225_1083 {d : Nat} {S : mm_S} {a1 : Nat} {a2 : Nat} {x3 : Int32} {p0 : Int32} : mm_ex d 225 1083 [.ref mm_SC, .ref a1, .ref a2, .int x3] [.int p0] S =
    mm_ex d 225 18 [.ref mm_SC, .ref a1, .ref a2, .int (x3 + nI 6)] [] S :=
  Eq.trans (mx_popi t225 d225_1083) <|
  Eq.trans (mx_goto t225 d225_1084 (tgt := 1183) (by decide)) <|
  Eq.trans (mx_iinc t225 d225_1183 (x := x3) (v := nI 6) (ls' := [.ref mm_SC, .ref a1, .ref a2, .int (x3 + nI 6)]) rfl rfl rfl rfl) <|
  (mx_goto t225 d225_1186 (tgt := 18) (by decide))
theorem b225_1087 {d : Nat} {S : mm_S} {a1 : Nat} {a2 : Nat} {x3 : Int32} (h0 : mm_arr S mm_SC 13 = false) (h1 : mm_inb (x3 + (nI 1)) (mm_N S mm_SC) = true) (h2 : mm_inb (x3 + (nI 2)) (mm_N S mm_SC) = true) (h3 : mm_rk S a1 = 11) : mm_ex (d + 1) 225 1087 [.ref mm_SC, .ref a1, .ref a2, .int x3] [] S =
    mm_bd (mm_cl d 106 [.ref a1, .int (mm_M S mm_SC (x3 + (nI 1)).toNatClampNeg), .int (mm_M S mm_SC (x3 + (nI 2)).toNatClampNeg)] S) (fun v S2 => mm_ex (d + 1) 225 1101 [.ref mm_SC, .ref a1, .ref a2, .int x3] (v.toList ++ []) S2) :=
  Eq.trans (mx_aload_n t225 d225_1087 (x := a1) rfl) <|
  Eq.trans (mx_aload_n t225 d225_1088 (x := mm_SC) rfl) <|
  Eq.trans (mx_iload_n t225 d225_1089 (x := x3) rfl) <|
  Eq.trans (mx_iconst t225 d225_1090 (v := nI 1) rfl) <|
  Eq.trans (mx_iadd t225 d225_1091) <|
  Eq.trans (mx_isc t225 d225_1092 h0 rfl h1) <|
  Eq.trans (mx_aload_n t225 d225_1093 (x := mm_SC) rfl) <|
  Eq.trans (mx_iload_n t225 d225_1094 (x := x3) rfl) <|
  Eq.trans (mx_iconst t225 d225_1095 (v := nI 2) rfl) <|
  Eq.trans (mx_iadd t225 d225_1096) <|
  Eq.trans (mx_isc t225 d225_1097 h0 rfl h2) <|
  (mx_virt (st := []) (k := 11) t225 [.int (mm_M S mm_SC (x3 + (nI 1)).toNatClampNeg), .int (mm_M S mm_SC (x3 + (nI 2)).toNatClampNeg)] d225_1098 vt17_154 rfl rfl (Nat.le_of_ble_eq_true rfl) (Nat.le_of_ble_eq_true rfl) h3)
theorem b225_1101 {d : Nat} {S : mm_S} {a1 : Nat} {a2 : Nat} {x3 : Int32} {p0 : Int64} (h0 : mm_arr S mm_SC 13 = false) (h1 : mm_inb (x3 + (nI 1)) (mm_N S mm_SC) = true) (h2 : mm_inb (x3 + (nI 2)) (mm_N S mm_SC) = true) (h3 : mm_rk S a2 = 12) : mm_ex (d + 1) 225 1101 [.ref mm_SC, .ref a1, .ref a2, .int x3] [.long p0] S =
    mm_bd (mm_cl d 210 [.ref a2, .int (mm_M S mm_SC (x3 + (nI 1)).toNatClampNeg), .int (mm_M S mm_SC (x3 + (nI 2)).toNatClampNeg)] S) (fun v S2 => mm_ex (d + 1) 225 1116 [.ref mm_SC, .ref a1, .ref a2, .int x3] (v.toList ++ []) S2) :=
  Eq.trans (mx_pop2l t225 d225_1101) <|
  Eq.trans (mx_aload_n t225 d225_1102 (x := a2) rfl) <|
  Eq.trans (mx_aload_n t225 d225_1103 (x := mm_SC) rfl) <|
  Eq.trans (mx_iload_n t225 d225_1104 (x := x3) rfl) <|
  Eq.trans (mx_iconst t225 d225_1105 (v := nI 1) rfl) <|
  Eq.trans (mx_iadd t225 d225_1106) <|
  Eq.trans (mx_isc t225 d225_1107 h0 rfl h1) <|
  Eq.trans (mx_aload_n t225 d225_1108 (x := mm_SC) rfl) <|
  Eq.trans (mx_iload_n t225 d225_1109 (x := x3) rfl) <|
  Eq.trans (mx_iconst t225 d225_1110 (v := nI 2) rfl) <|
  Eq.trans (mx_iadd t225 d225_1111) <|
  Eq.trans (mx_isc t225 d225_1112 h0 rfl h2) <|
  (mx_virt (st := []) (k := 12) t225 [.int (mm_M S mm_SC (x3 + (nI 1)).toNatClampNeg), .int (mm_M S mm_SC (x3 + (nI 2)).toNatClampNeg)] d225_1113 vt17_157 rfl rfl (Nat.le_of_ble_eq_true rfl) (Nat.le_of_ble_eq_true rfl) h3)
theorem b225_1116 {d : Nat} {S : mm_S} {a1 : Nat} {a2 : Nat} {x3 : Int32} {p0 : Int64} : mm_ex d 225 1116 [.ref mm_SC, .ref a1, .ref a2, .int x3] [.long p0] S =
    mm_ex d 225 18 [.ref mm_SC, .ref a1, .ref a2, .int (x3 + nI 6)] [] S :=
  Eq.trans (mx_pop2l t225 d225_1116) <|
  Eq.trans (mx_goto t225 d225_1117 (tgt := 1183) (by decide)) <|
  Eq.trans (mx_iinc t225 d225_1183 (x := x3) (v := nI 6) (ls' := [.ref mm_SC, .ref a1, .ref a2, .int (x3 + nI 6)]) rfl rfl rfl rfl) <|
  (mx_goto t225 d225_1186 (tgt := 18) (by decide))
theorem b225_1120 {d : Nat} {S : mm_S} {a1 : Nat} {a2 : Nat} {x3 : Int32} (h0 : mm_arr S mm_SC 13 = false) (h1 : mm_inb (x3 + (nI 1)) (mm_N S mm_SC) = true) (h2 : mm_inb (x3 + (nI 2)) (mm_N S mm_SC) = true) (h3 : mm_inb (x3 + (nI 3)) (mm_N S mm_SC) = true) (h4 : mm_inb (x3 + (nI 4)) (mm_N S mm_SC) = true) (h5 : mm_inb (x3 + (nI 5)) (mm_N S mm_SC) = true) (h6 : mm_rk S a1 = 11) : mm_ex (d + 1) 225 1120 [.ref mm_SC, .ref a1, .ref a2, .int x3] [] S =
    mm_bd (mm_cl d 107 [.ref a1, .int (mm_M S mm_SC (x3 + (nI 1)).toNatClampNeg), .int (mm_M S mm_SC (x3 + (nI 2)).toNatClampNeg), .int (mm_M S mm_SC (x3 + (nI 3)).toNatClampNeg), .int (mm_M S mm_SC (x3 + (nI 4)).toNatClampNeg), .int (mm_M S mm_SC (x3 + (nI 5)).toNatClampNeg)] S) (fun v S2 => mm_ex (d + 1) 225 1149 [.ref mm_SC, .ref a1, .ref a2, .int x3] (v.toList ++ []) S2) :=
  Eq.trans (mx_aload_n t225 d225_1120 (x := a1) rfl) <|
  Eq.trans (mx_aload_n t225 d225_1121 (x := mm_SC) rfl) <|
  Eq.trans (mx_iload_n t225 d225_1122 (x := x3) rfl) <|
  Eq.trans (mx_iconst t225 d225_1123 (v := nI 1) rfl) <|
  Eq.trans (mx_iadd t225 d225_1124) <|
  Eq.trans (mx_isc t225 d225_1125 h0 rfl h1) <|
  Eq.trans (mx_aload_n t225 d225_1126 (x := mm_SC) rfl) <|
  Eq.trans (mx_iload_n t225 d225_1127 (x := x3) rfl) <|
  Eq.trans (mx_iconst t225 d225_1128 (v := nI 2) rfl) <|
  Eq.trans (mx_iadd t225 d225_1129) <|
  Eq.trans (mx_isc t225 d225_1130 h0 rfl h2) <|
  Eq.trans (mx_aload_n t225 d225_1131 (x := mm_SC) rfl) <|
  Eq.trans (mx_iload_n t225 d225_1132 (x := x3) rfl) <|
  Eq.trans (mx_iconst t225 d225_1133 (v := nI 3) rfl) <|
  Eq.trans (mx_iadd t225 d225_1134) <|
  Eq.trans (mx_isc t225 d225_1135 h0 rfl h3) <|
  Eq.trans (mx_aload_n t225 d225_1136 (x := mm_SC) rfl) <|
  Eq.trans (mx_iload_n t225 d225_1137 (x := x3) rfl) <|
  Eq.trans (mx_iconst t225 d225_1138 (v := nI 4) rfl) <|
  Eq.trans (mx_iadd t225 d225_1139) <|
  Eq.trans (mx_isc t225 d225_1140 h0 rfl h4) <|
  Eq.trans (mx_aload_n t225 d225_1141 (x := mm_SC) rfl) <|
  Eq.trans (mx_iload_n t225 d225_1142 (x := x3) rfl) <|
  Eq.trans (mx_iconst t225 d225_1143 (v := nI 5) rfl) <|
  Eq.trans (mx_iadd t225 d225_1144) <|
  Eq.trans (mx_isc t225 d225_1145 h0 rfl h5) <|
  (mx_virt (st := []) (k := 11) t225 [.int (mm_M S mm_SC (x3 + (nI 1)).toNatClampNeg), .int (mm_M S mm_SC (x3 + (nI 2)).toNatClampNeg), .int (mm_M S mm_SC (x3 + (nI 3)).toNatClampNeg), .int (mm_M S mm_SC (x3 + (nI 4)).toNatClampNeg), .int (mm_M S mm_SC (x3 + (nI 5)).toNatClampNeg)] d225_1146 vt17_158 rfl rfl (Nat.le_of_ble_eq_true rfl) (Nat.le_of_ble_eq_true rfl) h6)
theorem b225_1149 {d : Nat} {S : mm_S} {a1 : Nat} {a2 : Nat} {x3 : Int32} {p0 : Int32} (h0 : mm_arr S mm_SC 13 = false) (h1 : mm_inb (x3 + (nI 1)) (mm_N S mm_SC) = true) (h2 : mm_inb (x3 + (nI 2)) (mm_N S mm_SC) = true) (h3 : mm_inb (x3 + (nI 3)) (mm_N S mm_SC) = true) (h4 : mm_inb (x3 + (nI 4)) (mm_N S mm_SC) = true) (h5 : mm_inb (x3 + (nI 5)) (mm_N S mm_SC) = true) (h6 : mm_rk S a2 = 12) : mm_ex (d + 1) 225 1149 [.ref mm_SC, .ref a1, .ref a2, .int x3] [.int p0] S =
    mm_bd (mm_cl d 211 [.ref a2, .int (mm_M S mm_SC (x3 + (nI 1)).toNatClampNeg), .int (mm_M S mm_SC (x3 + (nI 2)).toNatClampNeg), .int (mm_M S mm_SC (x3 + (nI 3)).toNatClampNeg), .int (mm_M S mm_SC (x3 + (nI 4)).toNatClampNeg), .int (mm_M S mm_SC (x3 + (nI 5)).toNatClampNeg)] S) (fun v S2 => mm_ex (d + 1) 225 1178 [.ref mm_SC, .ref a1, .ref a2, .int x3] (v.toList ++ [.int p0]) S2) :=
  Eq.trans (mx_aload_n t225 d225_1149 (x := a2) rfl) <|
  Eq.trans (mx_aload_n t225 d225_1150 (x := mm_SC) rfl) <|
  Eq.trans (mx_iload_n t225 d225_1151 (x := x3) rfl) <|
  Eq.trans (mx_iconst t225 d225_1152 (v := nI 1) rfl) <|
  Eq.trans (mx_iadd t225 d225_1153) <|
  Eq.trans (mx_isc t225 d225_1154 h0 rfl h1) <|
  Eq.trans (mx_aload_n t225 d225_1155 (x := mm_SC) rfl) <|
  Eq.trans (mx_iload_n t225 d225_1156 (x := x3) rfl) <|
  Eq.trans (mx_iconst t225 d225_1157 (v := nI 2) rfl) <|
  Eq.trans (mx_iadd t225 d225_1158) <|
  Eq.trans (mx_isc t225 d225_1159 h0 rfl h2) <|
  Eq.trans (mx_aload_n t225 d225_1160 (x := mm_SC) rfl) <|
  Eq.trans (mx_iload_n t225 d225_1161 (x := x3) rfl) <|
  Eq.trans (mx_iconst t225 d225_1162 (v := nI 3) rfl) <|
  Eq.trans (mx_iadd t225 d225_1163) <|
  Eq.trans (mx_isc t225 d225_1164 h0 rfl h3) <|
  Eq.trans (mx_aload_n t225 d225_1165 (x := mm_SC) rfl) <|
  Eq.trans (mx_iload_n t225 d225_1166 (x := x3) rfl) <|
  Eq.trans (mx_iconst t225 d225_1167 (v := nI 4) rfl) <|
  Eq.trans (mx_iadd t225 d225_1168) <|
  Eq.trans (mx_isc t225 d225_1169 h0 rfl h4) <|
  Eq.trans (mx_aload_n t225 d225_1170 (x := mm_SC) rfl) <|
  Eq.trans (mx_iload_n t225 d225_1171 (x := x3) rfl) <|
  Eq.trans (mx_iconst t225 d225_1172 (v := nI 5) rfl) <|
  Eq.trans (mx_iadd t225 d225_1173) <|
  Eq.trans (mx_isc t225 d225_1174 h0 rfl h5) <|
  (mx_virt (st := [.int p0]) (k := 12) t225 [.int (mm_M S mm_SC (x3 + (nI 1)).toNatClampNeg), .int (mm_M S mm_SC (x3 + (nI 2)).toNatClampNeg), .int (mm_M S mm_SC (x3 + (nI 3)).toNatClampNeg), .int (mm_M S mm_SC (x3 + (nI 4)).toNatClampNeg), .int (mm_M S mm_SC (x3 + (nI 5)).toNatClampNeg)] d225_1175 vt17_162 rfl rfl (Nat.le_of_ble_eq_true rfl) (Nat.le_of_ble_eq_true rfl) h6)
theorem b225_1178 {d : Nat} {S : mm_S} {a1 : Nat} {a2 : Nat} {x3 : Int32} {p0 : Int32} {p1 : Int32} : mm_ex d 225 1178 [.ref mm_SC, .ref a1, .ref a2, .int x3] [.int p0, .int p1] S =
    if p1 = p0 then mm_ex d 225 1183 [.ref mm_SC, .ref a1, .ref a2, .int x3] [] S else mm_ex d 225 1181 [.ref mm_SC, .ref a1, .ref a2, .int x3] [] S :=
  (mx_ceq t225 d225_1178 (tgt := 1183) (by decide))
theorem b225_1181 {d : Nat} {S : mm_S} {a1 : Nat} {a2 : Nat} {x3 : Int32} : mm_ex d 225 1181 [.ref mm_SC, .ref a1, .ref a2, .int x3] [] S =
    some (some (.int (nI 0)), S) :=
  Eq.trans (mx_iconst t225 d225_1181 (v := nI 0) rfl) <|
  (mx_iret t225 d225_1182 (ty := .boolean) rfl rfl (fun h => nomatch h))
theorem b225_1183 {d : Nat} {S : mm_S} {a1 : Nat} {a2 : Nat} {x3 : Int32} : mm_ex d 225 1183 [.ref mm_SC, .ref a1, .ref a2, .int x3] [] S =
    mm_ex d 225 18 [.ref mm_SC, .ref a1, .ref a2, .int (x3 + nI 6)] [] S :=
  Eq.trans (mx_iinc t225 d225_1183 (x := x3) (v := nI 6) (ls' := [.ref mm_SC, .ref a1, .ref a2, .int (x3 + nI 6)]) rfl rfl rfl rfl) <|
  (mx_goto t225 d225_1186 (tgt := 18) (by decide))
theorem b225_1189 {d : Nat} {S : mm_S} {a1 : Nat} {a2 : Nat} {x3 : Int32} : mm_ex d 225 1189 [.ref mm_SC, .ref a1, .ref a2, .int x3] [] S =
    some (some (.int (nI 1)), S) :=
  Eq.trans (mx_iconst t225 d225_1189 (v := nI 1) rfl) <|
  (mx_iret t225 d225_1190 (ty := .boolean) rfl rfl (fun h => nomatch h))
theorem e225 {d : Nat} {S : mm_S} : mm_cl d 225 [.ref mm_SC] S = mm_ex d 225 0 [.ref mm_SC, .null, .null, .null] [] S := mm_cl_eq t225 (Nat.le_of_ble_eq_true rfl) rfl
