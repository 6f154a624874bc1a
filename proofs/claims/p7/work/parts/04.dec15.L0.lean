set_option maxRecDepth 100000 in
theorem dL_law_k0 : (decode cL_law 0 = .ok (.new 7, 3)) ∧ (decode cL_law 3 = .ok (.dup, 1)) ∧ (decode cL_law 4 = .ok (.invokespecial 9, 3)) ∧ (decode cL_law 7 = .ok (.astore_n 1, 1)) ∧ (decode cL_law 8 = .ok (.new 10, 3)) ∧ (decode cL_law 11 = .ok (.dup, 1)) := by decide +kernel
theorem dL_law_0 : decode cL_law 0 = .ok (.new 7, 3) := dL_law_k0.1
theorem dL_law_3 : decode cL_law 3 = .ok (.dup, 1) := dL_law_k0.2.1
theorem dL_law_4 : decode cL_law 4 = .ok (.invokespecial 9, 3) := dL_law_k0.2.2.1
theorem dL_law_7 : decode cL_law 7 = .ok (.astore_n 1, 1) := dL_law_k0.2.2.2.1
theorem dL_law_8 : decode cL_law 8 = .ok (.new 10, 3) := dL_law_k0.2.2.2.2.1
theorem dL_law_11 : decode cL_law 11 = .ok (.dup, 1) := dL_law_k0.2.2.2.2.2
set_option maxRecDepth 100000 in
theorem dL_law_k1 : (decode cL_law 12 = .ok (.invokespecial 12, 3)) ∧ (decode cL_law 15 = .ok (.astore_n 2, 1)) ∧ (decode cL_law 16 = .ok (.iconst 0, 1)) ∧ (decode cL_law 17 = .ok (.istore_n 3, 1)) ∧ (decode cL_law 18 = .ok (.iload_n 3, 1)) ∧ (decode cL_law 19 = .ok (.aload_n 0, 1)) := by decide +kernel
theorem dL_law_12 : decode cL_law 12 = .ok (.invokespecial 12, 3) := dL_law_k1.1
theorem dL_law_15 : decode cL_law 15 = .ok (.astore_n 2, 1) := dL_law_k1.2.1
theorem dL_law_16 : decode cL_law 16 = .ok (.iconst 0, 1) := dL_law_k1.2.2.1
theorem dL_law_17 : decode cL_law 17 = .ok (.istore_n 3, 1) := dL_law_k1.2.2.2.1
theorem dL_law_18 : decode cL_law 18 = .ok (.iload_n 3, 1) := dL_law_k1.2.2.2.2.1
theorem dL_law_19 : decode cL_law 19 = .ok (.aload_n 0, 1) := dL_law_k1.2.2.2.2.2
set_option maxRecDepth 100000 in
theorem dL_law_k2 : (decode cL_law 20 = .ok (.arraylength, 1)) ∧ (decode cL_law 21 = .ok (.bipush 6, 2)) ∧ (decode cL_law 23 = .ok (.isub, 1)) ∧ (decode cL_law 24 = .ok (.if_icmp .gt 1168, 3)) ∧ (decode cL_law 27 = .ok (.aload_n 0, 1)) ∧ (decode cL_law 28 = .ok (.iload_n 3, 1)) := by decide +kernel
theorem dL_law_20 : decode cL_law 20 = .ok (.arraylength, 1) := dL_law_k2.1
theorem dL_law_21 : decode cL_law 21 = .ok (.bipush 6, 2) := dL_law_k2.2.1
theorem dL_law_23 : decode cL_law 23 = .ok (.isub, 1) := dL_law_k2.2.2.1
theorem dL_law_24 : decode cL_law 24 = .ok (.if_icmp .gt 1168, 3) := dL_law_k2.2.2.2.1
theorem dL_law_27 : decode cL_law 27 = .ok (.aload_n 0, 1) := dL_law_k2.2.2.2.2.1
theorem dL_law_28 : decode cL_law 28 = .ok (.iload_n 3, 1) := dL_law_k2.2.2.2.2.2
set_option maxRecDepth 100000 in
theorem dL_law_k3 : (decode cL_law 29 = .ok (.iaload, 1)) ∧ (decode cL_law 30 = .ok (.bipush 63, 2)) ∧ (decode cL_law 32 = .ok (.iand, 1)) ∧ (decode cL_law 33 = .ok (.tableswitch 1153 0 33 #[151, 174, 217, 260, 293, 336, 359, 382, 395, 408, 431, 444, 477, 510, 543, 566, 599, 632, 645, 658, 681, 714, 747, 770, 803, 856, 899, 932, 945, 978, 1041, 1084, 1107, 1130], 151)) ∧ (decode cL_law 184 = .ok (.aload_n 1, 1)) ∧ (decode cL_law 185 = .ok (.aload_n 0, 1)) := by decide +kernel
theorem dL_law_29 : decode cL_law 29 = .ok (.iaload, 1) := dL_law_k3.1
theorem dL_law_30 : decode cL_law 30 = .ok (.bipush 63, 2) := dL_law_k3.2.1
theorem dL_law_32 : decode cL_law 32 = .ok (.iand, 1) := dL_law_k3.2.2.1
theorem dL_law_33 : decode cL_law 33 = .ok (.tableswitch 1153 0 33 #[151, 174, 217, 260, 293, 336, 359, 382, 395, 408, 431, 444, 477, 510, 543, 566, 599, 632, 645, 658, 681, 714, 747, 770, 803, 856, 899, 932, 945, 978, 1041, 1084, 1107, 1130], 151) := dL_law_k3.2.2.2.1
theorem dL_law_184 : decode cL_law 184 = .ok (.aload_n 1, 1) := dL_law_k3.2.2.2.2.1
theorem dL_law_185 : decode cL_law 185 = .ok (.aload_n 0, 1) := dL_law_k3.2.2.2.2.2
set_option maxRecDepth 100000 in
theorem dL_law_k4 : (decode cL_law 186 = .ok (.iload_n 3, 1)) ∧ (decode cL_law 187 = .ok (.iconst 1, 1)) ∧ (decode cL_law 188 = .ok (.iadd, 1)) ∧ (decode cL_law 189 = .ok (.iaload, 1)) ∧ (decode cL_law 190 = .ok (.invokevirtual 13, 3)) ∧ (decode cL_law 193 = .ok (.pop, 1)) := by decide +kernel
theorem dL_law_186 : decode cL_law 186 = .ok (.iload_n 3, 1) := dL_law_k4.1
theorem dL_law_187 : decode cL_law 187 = .ok (.iconst 1, 1) := dL_law_k4.2.1
theorem dL_law_188 : decode cL_law 188 = .ok (.iadd, 1) := dL_law_k4.2.2.1
theorem dL_law_189 : decode cL_law 189 = .ok (.iaload, 1) := dL_law_k4.2.2.2.1
theorem dL_law_190 : decode cL_law 190 = .ok (.invokevirtual 13, 3) := dL_law_k4.2.2.2.2.1
theorem dL_law_193 : decode cL_law 193 = .ok (.pop, 1) := dL_law_k4.2.2.2.2.2
set_option maxRecDepth 100000 in
theorem dL_law_k5 : (decode cL_law 194 = .ok (.aload_n 2, 1)) ∧ (decode cL_law 195 = .ok (.aload_n 0, 1)) ∧ (decode cL_law 196 = .ok (.iload_n 3, 1)) ∧ (decode cL_law 197 = .ok (.iconst 1, 1)) ∧ (decode cL_law 198 = .ok (.iadd, 1)) ∧ (decode cL_law 199 = .ok (.iaload, 1)) := by decide +kernel
theorem dL_law_194 : decode cL_law 194 = .ok (.aload_n 2, 1) := dL_law_k5.1
theorem dL_law_195 : decode cL_law 195 = .ok (.aload_n 0, 1) := dL_law_k5.2.1
theorem dL_law_196 : decode cL_law 196 = .ok (.iload_n 3, 1) := dL_law_k5.2.2.1
theorem dL_law_197 : decode cL_law 197 = .ok (.iconst 1, 1) := dL_law_k5.2.2.2.1
theorem dL_law_198 : decode cL_law 198 = .ok (.iadd, 1) := dL_law_k5.2.2.2.2.1
theorem dL_law_199 : decode cL_law 199 = .ok (.iaload, 1) := dL_law_k5.2.2.2.2.2
set_option maxRecDepth 100000 in
theorem dL_law_k6 : (decode cL_law 200 = .ok (.invokevirtual 17, 3)) ∧ (decode cL_law 203 = .ok (.pop, 1)) ∧ (decode cL_law 204 = .ok (.goto 982, 3)) ∧ (decode cL_law 207 = .ok (.aload_n 1, 1)) ∧ (decode cL_law 208 = .ok (.aload_n 0, 1)) ∧ (decode cL_law 209 = .ok (.iload_n 3, 1)) := by decide +kernel
theorem dL_law_200 : decode cL_law 200 = .ok (.invokevirtual 17, 3) := dL_law_k6.1
theorem dL_law_203 : decode cL_law 203 = .ok (.pop, 1) := dL_law_k6.2.1
theorem dL_law_204 : decode cL_law 204 = .ok (.goto 982, 3) := dL_law_k6.2.2.1
theorem dL_law_207 : decode cL_law 207 = .ok (.aload_n 1, 1) := dL_law_k6.2.2.2.1
theorem dL_law_208 : decode cL_law 208 = .ok (.aload_n 0, 1) := dL_law_k6.2.2.2.2.1
theorem dL_law_209 : decode cL_law 209 = .ok (.iload_n 3, 1) := dL_law_k6.2.2.2.2.2
set_option maxRecDepth 100000 in
theorem dL_law_k7 : (decode cL_law 210 = .ok (.iconst 1, 1)) ∧ (decode cL_law 211 = .ok (.iadd, 1)) ∧ (decode cL_law 212 = .ok (.iaload, 1)) ∧ (decode cL_law 213 = .ok (.aload_n 0, 1)) ∧ (decode cL_law 214 = .ok (.iload_n 3, 1)) ∧ (decode cL_law 215 = .ok (.iconst 2, 1)) := by decide +kernel
theorem dL_law_210 : decode cL_law 210 = .ok (.iconst 1, 1) := dL_law_k7.1
theorem dL_law_211 : decode cL_law 211 = .ok (.iadd, 1) := dL_law_k7.2.1
theorem dL_law_212 : decode cL_law 212 = .ok (.iaload, 1) := dL_law_k7.2.2.1
theorem dL_law_213 : decode cL_law 213 = .ok (.aload_n 0, 1) := dL_law_k7.2.2.2.1
theorem dL_law_214 : decode cL_law 214 = .ok (.iload_n 3, 1) := dL_law_k7.2.2.2.2.1
theorem dL_law_215 : decode cL_law 215 = .ok (.iconst 2, 1) := dL_law_k7.2.2.2.2.2
set_option maxRecDepth 100000 in
theorem dL_law_k8 : (decode cL_law 216 = .ok (.iadd, 1)) ∧ (decode cL_law 217 = .ok (.iaload, 1)) ∧ (decode cL_law 218 = .ok (.aload_n 0, 1)) ∧ (decode cL_law 219 = .ok (.iload_n 3, 1)) ∧ (decode cL_law 220 = .ok (.iconst 3, 1)) ∧ (decode cL_law 221 = .ok (.iadd, 1)) := by decide +kernel
theorem dL_law_216 : decode cL_law 216 = .ok (.iadd, 1) := dL_law_k8.1
theorem dL_law_217 : decode cL_law 217 = .ok (.iaload, 1) := dL_law_k8.2.1
theorem dL_law_218 : decode cL_law 218 = .ok (.aload_n 0, 1) := dL_law_k8.2.2.1
theorem dL_law_219 : decode cL_law 219 = .ok (.iload_n 3, 1) := dL_law_k8.2.2.2.1
theorem dL_law_220 : decode cL_law 220 = .ok (.iconst 3, 1) := dL_law_k8.2.2.2.2.1
theorem dL_law_221 : decode cL_law 221 = .ok (.iadd, 1) := dL_law_k8.2.2.2.2.2
set_option maxRecDepth 100000 in
theorem dL_law_k9 : (decode cL_law 222 = .ok (.iaload, 1)) ∧ (decode cL_law 223 = .ok (.invokevirtual 18, 3)) ∧ (decode cL_law 226 = .ok (.pop, 1)) ∧ (decode cL_law 227 = .ok (.aload_n 2, 1)) ∧ (decode cL_law 228 = .ok (.aload_n 0, 1)) ∧ (decode cL_law 229 = .ok (.iload_n 3, 1)) := by decide +kernel
theorem dL_law_222 : decode cL_law 222 = .ok (.iaload, 1) := dL_law_k9.1
theorem dL_law_223 : decode cL_law 223 = .ok (.invokevirtual 18, 3) := dL_law_k9.2.1
theorem dL_law_226 : decode cL_law 226 = .ok (.pop, 1) := dL_law_k9.2.2.1
theorem dL_law_227 : decode cL_law 227 = .ok (.aload_n 2, 1) := dL_law_k9.2.2.2.1
theorem dL_law_228 : decode cL_law 228 = .ok (.aload_n 0, 1) := dL_law_k9.2.2.2.2.1
theorem dL_law_229 : decode cL_law 229 = .ok (.iload_n 3, 1) := dL_law_k9.2.2.2.2.2
set_option maxRecDepth 100000 in
theorem dL_law_k10 : (decode cL_law 230 = .ok (.iconst 1, 1)) ∧ (decode cL_law 231 = .ok (.iadd, 1)) ∧ (decode cL_law 232 = .ok (.iaload, 1)) ∧ (decode cL_law 233 = .ok (.aload_n 0, 1)) ∧ (decode cL_law 234 = .ok (.iload_n 3, 1)) ∧ (decode cL_law 235 = .ok (.iconst 2, 1)) := by decide +kernel
theorem dL_law_230 : decode cL_law 230 = .ok (.iconst 1, 1) := dL_law_k10.1
theorem dL_law_231 : decode cL_law 231 = .ok (.iadd, 1) := dL_law_k10.2.1
theorem dL_law_232 : decode cL_law 232 = .ok (.iaload, 1) := dL_law_k10.2.2.1
theorem dL_law_233 : decode cL_law 233 = .ok (.aload_n 0, 1) := dL_law_k10.2.2.2.1
theorem dL_law_234 : decode cL_law 234 = .ok (.iload_n 3, 1) := dL_law_k10.2.2.2.2.1
theorem dL_law_235 : decode cL_law 235 = .ok (.iconst 2, 1) := dL_law_k10.2.2.2.2.2
set_option maxRecDepth 100000 in
theorem dL_law_k11 : (decode cL_law 236 = .ok (.iadd, 1)) ∧ (decode cL_law 237 = .ok (.iaload, 1)) ∧ (decode cL_law 238 = .ok (.aload_n 0, 1)) ∧ (decode cL_law 239 = .ok (.iload_n 3, 1)) ∧ (decode cL_law 240 = .ok (.iconst 3, 1)) ∧ (decode cL_law 241 = .ok (.iadd, 1)) := by decide +kernel
theorem dL_law_236 : decode cL_law 236 = .ok (.iadd, 1) := dL_law_k11.1
theorem dL_law_237 : decode cL_law 237 = .ok (.iaload, 1) := dL_law_k11.2.1
theorem dL_law_238 : decode cL_law 238 = .ok (.aload_n 0, 1) := dL_law_k11.2.2.1
theorem dL_law_239 : decode cL_law 239 = .ok (.iload_n 3, 1) := dL_law_k11.2.2.2.1
theorem dL_law_240 : decode cL_law 240 = .ok (.iconst 3, 1) := dL_law_k11.2.2.2.2.1
theorem dL_law_241 : decode cL_law 241 = .ok (.iadd, 1) := dL_law_k11.2.2.2.2.2
set_option maxRecDepth 100000 in
theorem dL_law_k12 : (decode cL_law 242 = .ok (.iaload, 1)) ∧ (decode cL_law 243 = .ok (.invokevirtual 22, 3)) ∧ (decode cL_law 246 = .ok (.pop, 1)) ∧ (decode cL_law 247 = .ok (.goto 939, 3)) ∧ (decode cL_law 250 = .ok (.aload_n 1, 1)) ∧ (decode cL_law 251 = .ok (.aload_n 0, 1)) := by decide +kernel
theorem dL_law_242 : decode cL_law 242 = .ok (.iaload, 1) := dL_law_k12.1
theorem dL_law_243 : decode cL_law 243 = .ok (.invokevirtual 22, 3) := dL_law_k12.2.1
theorem dL_law_246 : decode cL_law 246 = .ok (.pop, 1) := dL_law_k12.2.2.1
theorem dL_law_247 : decode cL_law 247 = .ok (.goto 939, 3) := dL_law_k12.2.2.2.1
theorem dL_law_250 : decode cL_law 250 = .ok (.aload_n 1, 1) := dL_law_k12.2.2.2.2.1
theorem dL_law_251 : decode cL_law 251 = .ok (.aload_n 0, 1) := dL_law_k12.2.2.2.2.2
set_option maxRecDepth 100000 in
theorem dL_law_k13 : (decode cL_law 252 = .ok (.iload_n 3, 1)) ∧ (decode cL_law 253 = .ok (.iconst 1, 1)) ∧ (decode cL_law 254 = .ok (.iadd, 1)) ∧ (decode cL_law 255 = .ok (.iaload, 1)) ∧ (decode cL_law 256 = .ok (.aload_n 0, 1)) ∧ (decode cL_law 257 = .ok (.iload_n 3, 1)) := by decide +kernel
theorem dL_law_252 : decode cL_law 252 = .ok (.iload_n 3, 1) := dL_law_k13.1
theorem dL_law_253 : decode cL_law 253 = .ok (.iconst 1, 1) := dL_law_k13.2.1
theorem dL_law_254 : decode cL_law 254 = .ok (.iadd, 1) := dL_law_k13.2.2.1
theorem dL_law_255 : decode cL_law 255 = .ok (.iaload, 1) := dL_law_k13.2.2.2.1
theorem dL_law_256 : decode cL_law 256 = .ok (.aload_n 0, 1) := dL_law_k13.2.2.2.2.1
theorem dL_law_257 : decode cL_law 257 = .ok (.iload_n 3, 1) := dL_law_k13.2.2.2.2.2
set_option maxRecDepth 100000 in
theorem dL_law_k14 : (decode cL_law 258 = .ok (.iconst 2, 1)) ∧ (decode cL_law 259 = .ok (.iadd, 1)) ∧ (decode cL_law 260 = .ok (.iaload, 1)) ∧ (decode cL_law 261 = .ok (.aload_n 0, 1)) ∧ (decode cL_law 262 = .ok (.iload_n 3, 1)) ∧ (decode cL_law 263 = .ok (.iconst 3, 1)) := by decide +kernel
theorem dL_law_258 : decode cL_law 258 = .ok (.iconst 2, 1) := dL_law_k14.1
theorem dL_law_259 : decode cL_law 259 = .ok (.iadd, 1) := dL_law_k14.2.1
theorem dL_law_260 : decode cL_law 260 = .ok (.iaload, 1) := dL_law_k14.2.2.1
theorem dL_law_261 : decode cL_law 261 = .ok (.aload_n 0, 1) := dL_law_k14.2.2.2.1
theorem dL_law_262 : decode cL_law 262 = .ok (.iload_n 3, 1) := dL_law_k14.2.2.2.2.1
theorem dL_law_263 : decode cL_law 263 = .ok (.iconst 3, 1) := dL_law_k14.2.2.2.2.2
set_option maxRecDepth 100000 in
theorem dL_law_k15 : (decode cL_law 264 = .ok (.iadd, 1)) ∧ (decode cL_law 265 = .ok (.iaload, 1)) ∧ (decode cL_law 266 = .ok (.invokevirtual 23, 3)) ∧ (decode cL_law 269 = .ok (.pop, 1)) ∧ (decode cL_law 270 = .ok (.aload_n 2, 1)) ∧ (decode cL_law 271 = .ok (.aload_n 0, 1)) := by decide +kernel
theorem dL_law_264 : decode cL_law 264 = .ok (.iadd, 1) := dL_law_k15.1
theorem dL_law_265 : decode cL_law 265 = .ok (.iaload, 1) := dL_law_k15.2.1
theorem dL_law_266 : decode cL_law 266 = .ok (.invokevirtual 23, 3) := dL_law_k15.2.2.1
theorem dL_law_269 : decode cL_law 269 = .ok (.pop, 1) := dL_law_k15.2.2.2.1
theorem dL_law_270 : decode cL_law 270 = .ok (.aload_n 2, 1) := dL_law_k15.2.2.2.2.1
theorem dL_law_271 : decode cL_law 271 = .ok (.aload_n 0, 1) := dL_law_k15.2.2.2.2.2
set_option maxRecDepth 100000 in
theorem dL_law_k16 : (decode cL_law 272 = .ok (.iload_n 3, 1)) ∧ (decode cL_law 273 = .ok (.iconst 1, 1)) ∧ (decode cL_law 274 = .ok (.iadd, 1)) ∧ (decode cL_law 275 = .ok (.iaload, 1)) ∧ (decode cL_law 276 = .ok (.aload_n 0, 1)) ∧ (decode cL_law 277 = .ok (.iload_n 3, 1)) := by decide +kernel
theorem dL_law_272 : decode cL_law 272 = .ok (.iload_n 3, 1) := dL_law_k16.1
theorem dL_law_273 : decode cL_law 273 = .ok (.iconst 1, 1) := dL_law_k16.2.1
theorem dL_law_274 : decode cL_law 274 = .ok (.iadd, 1) := dL_law_k16.2.2.1
theorem dL_law_275 : decode cL_law 275 = .ok (.iaload, 1) := dL_law_k16.2.2.2.1
theorem dL_law_276 : decode cL_law 276 = .ok (.aload_n 0, 1) := dL_law_k16.2.2.2.2.1
theorem dL_law_277 : decode cL_law 277 = .ok (.iload_n 3, 1) := dL_law_k16.2.2.2.2.2
set_option maxRecDepth 100000 in
theorem dL_law_k17 : (decode cL_law 278 = .ok (.iconst 2, 1)) ∧ (decode cL_law 279 = .ok (.iadd, 1)) ∧ (decode cL_law 280 = .ok (.iaload, 1)) ∧ (decode cL_law 281 = .ok (.aload_n 0, 1)) ∧ (decode cL_law 282 = .ok (.iload_n 3, 1)) ∧ (decode cL_law 283 = .ok (.iconst 3, 1)) := by decide +kernel
theorem dL_law_278 : decode cL_law 278 = .ok (.iconst 2, 1) := dL_law_k17.1
theorem dL_law_279 : decode cL_law 279 = .ok (.iadd, 1) := dL_law_k17.2.1
theorem dL_law_280 : decode cL_law 280 = .ok (.iaload, 1) := dL_law_k17.2.2.1
theorem dL_law_281 : decode cL_law 281 = .ok (.aload_n 0, 1) := dL_law_k17.2.2.2.1
theorem dL_law_282 : decode cL_law 282 = .ok (.iload_n 3, 1) := dL_law_k17.2.2.2.2.1
theorem dL_law_283 : decode cL_law 283 = .ok (.iconst 3, 1) := dL_law_k17.2.2.2.2.2
set_option maxRecDepth 100000 in
theorem dL_law_k18 : (decode cL_law 284 = .ok (.iadd, 1)) ∧ (decode cL_law 285 = .ok (.iaload, 1)) ∧ (decode cL_law 286 = .ok (.invokevirtual 26, 3)) ∧ (decode cL_law 289 = .ok (.pop, 1)) ∧ (decode cL_law 290 = .ok (.goto 896, 3)) ∧ (decode cL_law 293 = .ok (.aload_n 1, 1)) := by decide +kernel
theorem dL_law_284 : decode cL_law 284 = .ok (.iadd, 1) := dL_law_k18.1
theorem dL_law_285 : decode cL_law 285 = .ok (.iaload, 1) := dL_law_k18.2.1
theorem dL_law_286 : decode cL_law 286 = .ok (.invokevirtual 26, 3) := dL_law_k18.2.2.1
theorem dL_law_289 : decode cL_law 289 = .ok (.pop, 1) := dL_law_k18.2.2.2.1
theorem dL_law_290 : decode cL_law 290 = .ok (.goto 896, 3) := dL_law_k18.2.2.2.2.1
theorem dL_law_293 : decode cL_law 293 = .ok (.aload_n 1, 1) := dL_law_k18.2.2.2.2.2
set_option maxRecDepth 100000 in
theorem dL_law_k19 : (decode cL_law 294 = .ok (.aload_n 0, 1)) ∧ (decode cL_law 295 = .ok (.iload_n 3, 1)) ∧ (decode cL_law 296 = .ok (.iconst 1, 1)) ∧ (decode cL_law 297 = .ok (.iadd, 1)) ∧ (decode cL_law 298 = .ok (.iaload, 1)) ∧ (decode cL_law 299 = .ok (.aload_n 0, 1)) := by decide +kernel
theorem dL_law_294 : decode cL_law 294 = .ok (.aload_n 0, 1) := dL_law_k19.1
theorem dL_law_295 : decode cL_law 295 = .ok (.iload_n 3, 1) := dL_law_k19.2.1
theorem dL_law_296 : decode cL_law 296 = .ok (.iconst 1, 1) := dL_law_k19.2.2.1
theorem dL_law_297 : decode cL_law 297 = .ok (.iadd, 1) := dL_law_k19.2.2.2.1
theorem dL_law_298 : decode cL_law 298 = .ok (.iaload, 1) := dL_law_k19.2.2.2.2.1
theorem dL_law_299 : decode cL_law 299 = .ok (.aload_n 0, 1) := dL_law_k19.2.2.2.2.2
set_option maxRecDepth 100000 in
theorem dL_law_k20 : (decode cL_law 300 = .ok (.iload_n 3, 1)) ∧ (decode cL_law 301 = .ok (.iconst 2, 1)) ∧ (decode cL_law 302 = .ok (.iadd, 1)) ∧ (decode cL_law 303 = .ok (.iaload, 1)) ∧ (decode cL_law 304 = .ok (.invokevirtual 27, 3)) ∧ (decode cL_law 307 = .ok (.pop, 1)) := by decide +kernel
theorem dL_law_300 : decode cL_law 300 = .ok (.iload_n 3, 1) := dL_law_k20.1
theorem dL_law_301 : decode cL_law 301 = .ok (.iconst 2, 1) := dL_law_k20.2.1
theorem dL_law_302 : decode cL_law 302 = .ok (.iadd, 1) := dL_law_k20.2.2.1
theorem dL_law_303 : decode cL_law 303 = .ok (.iaload, 1) := dL_law_k20.2.2.2.1
theorem dL_law_304 : decode cL_law 304 = .ok (.invokevirtual 27, 3) := dL_law_k20.2.2.2.2.1
theorem dL_law_307 : decode cL_law 307 = .ok (.pop, 1) := dL_law_k20.2.2.2.2.2
set_option maxRecDepth 100000 in
theorem dL_law_k21 : (decode cL_law 308 = .ok (.aload_n 2, 1)) ∧ (decode cL_law 309 = .ok (.aload_n 0, 1)) ∧ (decode cL_law 310 = .ok (.iload_n 3, 1)) ∧ (decode cL_law 311 = .ok (.iconst 1, 1)) ∧ (decode cL_law 312 = .ok (.iadd, 1)) ∧ (decode cL_law 313 = .ok (.iaload, 1)) := by decide +kernel
theorem dL_law_308 : decode cL_law 308 = .ok (.aload_n 2, 1) := dL_law_k21.1
theorem dL_law_309 : decode cL_law 309 = .ok (.aload_n 0, 1) := dL_law_k21.2.1
theorem dL_law_310 : decode cL_law 310 = .ok (.iload_n 3, 1) := dL_law_k21.2.2.1
theorem dL_law_311 : decode cL_law 311 = .ok (.iconst 1, 1) := dL_law_k21.2.2.2.1
theorem dL_law_312 : decode cL_law 312 = .ok (.iadd, 1) := dL_law_k21.2.2.2.2.1
theorem dL_law_313 : decode cL_law 313 = .ok (.iaload, 1) := dL_law_k21.2.2.2.2.2
set_option maxRecDepth 100000 in
theorem dL_law_k22 : (decode cL_law 314 = .ok (.aload_n 0, 1)) ∧ (decode cL_law 315 = .ok (.iload_n 3, 1)) ∧ (decode cL_law 316 = .ok (.iconst 2, 1)) ∧ (decode cL_law 317 = .ok (.iadd, 1)) ∧ (decode cL_law 318 = .ok (.iaload, 1)) ∧ (decode cL_law 319 = .ok (.invokevirtual 31, 3)) := by decide +kernel
theorem dL_law_314 : decode cL_law 314 = .ok (.aload_n 0, 1) := dL_law_k22.1
theorem dL_law_315 : decode cL_law 315 = .ok (.iload_n 3, 1) := dL_law_k22.2.1
theorem dL_law_316 : decode cL_law 316 = .ok (.iconst 2, 1) := dL_law_k22.2.2.1
theorem dL_law_317 : decode cL_law 317 = .ok (.iadd, 1) := dL_law_k22.2.2.2.1
theorem dL_law_318 : decode cL_law 318 = .ok (.iaload, 1) := dL_law_k22.2.2.2.2.1
theorem dL_law_319 : decode cL_law 319 = .ok (.invokevirtual 31, 3) := dL_law_k22.2.2.2.2.2
set_option maxRecDepth 100000 in
theorem dL_law_k23 : (decode cL_law 322 = .ok (.pop, 1)) ∧ (decode cL_law 323 = .ok (.goto 863, 3)) ∧ (decode cL_law 326 = .ok (.aload_n 1, 1)) ∧ (decode cL_law 327 = .ok (.aload_n 0, 1)) ∧ (decode cL_law 328 = .ok (.iload_n 3, 1)) ∧ (decode cL_law 329 = .ok (.iconst 1, 1)) := by decide +kernel
theorem dL_law_322 : decode cL_law 322 = .ok (.pop, 1) := dL_law_k23.1
theorem dL_law_323 : decode cL_law 323 = .ok (.goto 863, 3) := dL_law_k23.2.1
theorem dL_law_326 : decode cL_law 326 = .ok (.aload_n 1, 1) := dL_law_k23.2.2.1
theorem dL_law_327 : decode cL_law 327 = .ok (.aload_n 0, 1) := dL_law_k23.2.2.2.1
theorem dL_law_328 : decode cL_law 328 = .ok (.iload_n 3, 1) := dL_law_k23.2.2.2.2.1
theorem dL_law_329 : decode cL_law 329 = .ok (.iconst 1, 1) := dL_law_k23.2.2.2.2.2
set_option maxRecDepth 100000 in
theorem dL_law_k24 : (decode cL_law 330 = .ok (.iadd, 1)) ∧ (decode cL_law 331 = .ok (.iaload, 1)) ∧ (decode cL_law 332 = .ok (.aload_n 0, 1)) ∧ (decode cL_law 333 = .ok (.iload_n 3, 1)) ∧ (decode cL_law 334 = .ok (.iconst 2, 1)) ∧ (decode cL_law 335 = .ok (.iadd, 1)) := by decide +kernel
theorem dL_law_330 : decode cL_law 330 = .ok (.iadd, 1) := dL_law_k24.1
theorem dL_law_331 : decode cL_law 331 = .ok (.iaload, 1) := dL_law_k24.2.1
theorem dL_law_332 : decode cL_law 332 = .ok (.aload_n 0, 1) := dL_law_k24.2.2.1
theorem dL_law_333 : decode cL_law 333 = .ok (.iload_n 3, 1) := dL_law_k24.2.2.2.1
theorem dL_law_334 : decode cL_law 334 = .ok (.iconst 2, 1) := dL_law_k24.2.2.2.2.1
theorem dL_law_335 : decode cL_law 335 = .ok (.iadd, 1) := dL_law_k24.2.2.2.2.2
set_option maxRecDepth 100000 in
theorem dL_law_k25 : (decode cL_law 336 = .ok (.iaload, 1)) ∧ (decode cL_law 337 = .ok (.aload_n 0, 1)) ∧ (decode cL_law 338 = .ok (.iload_n 3, 1)) ∧ (decode cL_law 339 = .ok (.iconst 3, 1)) ∧ (decode cL_law 340 = .ok (.iadd, 1)) ∧ (decode cL_law 341 = .ok (.iaload, 1)) := by decide +kernel
theorem dL_law_336 : decode cL_law 336 = .ok (.iaload, 1) := dL_law_k25.1
theorem dL_law_337 : decode cL_law 337 = .ok (.aload_n 0, 1) := dL_law_k25.2.1
theorem dL_law_338 : decode cL_law 338 = .ok (.iload_n 3, 1) := dL_law_k25.2.2.1
theorem dL_law_339 : decode cL_law 339 = .ok (.iconst 3, 1) := dL_law_k25.2.2.2.1
theorem dL_law_340 : decode cL_law 340 = .ok (.iadd, 1) := dL_law_k25.2.2.2.2.1
theorem dL_law_341 : decode cL_law 341 = .ok (.iaload, 1) := dL_law_k25.2.2.2.2.2
set_option maxRecDepth 100000 in
theorem dL_law_k26 : (decode cL_law 342 = .ok (.invokevirtual 32, 3)) ∧ (decode cL_law 345 = .ok (.pop, 1)) ∧ (decode cL_law 346 = .ok (.aload_n 2, 1)) ∧ (decode cL_law 347 = .ok (.aload_n 0, 1)) ∧ (decode cL_law 348 = .ok (.iload_n 3, 1)) ∧ (decode cL_law 349 = .ok (.iconst 1, 1)) := by decide +kernel
theorem dL_law_342 : decode cL_law 342 = .ok (.invokevirtual 32, 3) := dL_law_k26.1
theorem dL_law_345 : decode cL_law 345 = .ok (.pop, 1) := dL_law_k26.2.1
theorem dL_law_346 : decode cL_law 346 = .ok (.aload_n 2, 1) := dL_law_k26.2.2.1
theorem dL_law_347 : decode cL_law 347 = .ok (.aload_n 0, 1) := dL_law_k26.2.2.2.1
theorem dL_law_348 : decode cL_law 348 = .ok (.iload_n 3, 1) := dL_law_k26.2.2.2.2.1
theorem dL_law_349 : decode cL_law 349 = .ok (.iconst 1, 1) := dL_law_k26.2.2.2.2.2
set_option maxRecDepth 100000 in
theorem dL_law_k27 : (decode cL_law 350 = .ok (.iadd, 1)) ∧ (decode cL_law 351 = .ok (.iaload, 1)) ∧ (decode cL_law 352 = .ok (.aload_n 0, 1)) ∧ (decode cL_law 353 = .ok (.iload_n 3, 1)) ∧ (decode cL_law 354 = .ok (.iconst 2, 1)) ∧ (decode cL_law 355 = .ok (.iadd, 1)) := by decide +kernel
theorem dL_law_350 : decode cL_law 350 = .ok (.iadd, 1) := dL_law_k27.1
theorem dL_law_351 : decode cL_law 351 = .ok (.iaload, 1) := dL_law_k27.2.1
theorem dL_law_352 : decode cL_law 352 = .ok (.aload_n 0, 1) := dL_law_k27.2.2.1
theorem dL_law_353 : decode cL_law 353 = .ok (.iload_n 3, 1) := dL_law_k27.2.2.2.1
theorem dL_law_354 : decode cL_law 354 = .ok (.iconst 2, 1) := dL_law_k27.2.2.2.2.1
theorem dL_law_355 : decode cL_law 355 = .ok (.iadd, 1) := dL_law_k27.2.2.2.2.2
set_option maxRecDepth 100000 in
theorem dL_law_k28 : (decode cL_law 356 = .ok (.iaload, 1)) ∧ (decode cL_law 357 = .ok (.aload_n 0, 1)) ∧ (decode cL_law 358 = .ok (.iload_n 3, 1)) ∧ (decode cL_law 359 = .ok (.iconst 3, 1)) ∧ (decode cL_law 360 = .ok (.iadd, 1)) ∧ (decode cL_law 361 = .ok (.iaload, 1)) := by decide +kernel
theorem dL_law_356 : decode cL_law 356 = .ok (.iaload, 1) := dL_law_k28.1
theorem dL_law_357 : decode cL_law 357 = .ok (.aload_n 0, 1) := dL_law_k28.2.1
theorem dL_law_358 : decode cL_law 358 = .ok (.iload_n 3, 1) := dL_law_k28.2.2.1
theorem dL_law_359 : decode cL_law 359 = .ok (.iconst 3, 1) := dL_law_k28.2.2.2.1
theorem dL_law_360 : decode cL_law 360 = .ok (.iadd, 1) := dL_law_k28.2.2.2.2.1
theorem dL_law_361 : decode cL_law 361 = .ok (.iaload, 1) := dL_law_k28.2.2.2.2.2
set_option maxRecDepth 100000 in
theorem dL_law_k29 : (decode cL_law 362 = .ok (.invokevirtual 35, 3)) ∧ (decode cL_law 365 = .ok (.pop, 1)) ∧ (decode cL_law 366 = .ok (.goto 820, 3)) ∧ (decode cL_law 369 = .ok (.aload_n 1, 1)) ∧ (decode cL_law 370 = .ok (.aload_n 0, 1)) ∧ (decode cL_law 371 = .ok (.iload_n 3, 1)) := by decide +kernel
theorem dL_law_362 : decode cL_law 362 = .ok (.invokevirtual 35, 3) := dL_law_k29.1
theorem dL_law_365 : decode cL_law 365 = .ok (.pop, 1) := dL_law_k29.2.1
theorem dL_law_366 : decode cL_law 366 = .ok (.goto 820, 3) := dL_law_k29.2.2.1
theorem dL_law_369 : decode cL_law 369 = .ok (.aload_n 1, 1) := dL_law_k29.2.2.2.1
theorem dL_law_370 : decode cL_law 370 = .ok (.aload_n 0, 1) := dL_law_k29.2.2.2.2.1
theorem dL_law_371 : decode cL_law 371 = .ok (.iload_n 3, 1) := dL_law_k29.2.2.2.2.2
set_option maxRecDepth 100000 in
theorem dL_law_k30 : (decode cL_law 372 = .ok (.iconst 1, 1)) ∧ (decode cL_law 373 = .ok (.iadd, 1)) ∧ (decode cL_law 374 = .ok (.iaload, 1)) ∧ (decode cL_law 375 = .ok (.invokevirtual 36, 3)) ∧ (decode cL_law 378 = .ok (.aload_n 2, 1)) ∧ (decode cL_law 379 = .ok (.aload_n 0, 1)) := by decide +kernel
theorem dL_law_372 : decode cL_law 372 = .ok (.iconst 1, 1) := dL_law_k30.1
theorem dL_law_373 : decode cL_law 373 = .ok (.iadd, 1) := dL_law_k30.2.1
theorem dL_law_374 : decode cL_law 374 = .ok (.iaload, 1) := dL_law_k30.2.2.1
theorem dL_law_375 : decode cL_law 375 = .ok (.invokevirtual 36, 3) := dL_law_k30.2.2.2.1
theorem dL_law_378 : decode cL_law 378 = .ok (.aload_n 2, 1) := dL_law_k30.2.2.2.2.1
theorem dL_law_379 : decode cL_law 379 = .ok (.aload_n 0, 1) := dL_law_k30.2.2.2.2.2
set_option maxRecDepth 100000 in
theorem dL_law_k31 : (decode cL_law 380 = .ok (.iload_n 3, 1)) ∧ (decode cL_law 381 = .ok (.iconst 1, 1)) ∧ (decode cL_law 382 = .ok (.iadd, 1)) ∧ (decode cL_law 383 = .ok (.iaload, 1)) ∧ (decode cL_law 384 = .ok (.invokevirtual 39, 3)) ∧ (decode cL_law 387 = .ok (.if_icmp .eq 799, 3)) := by decide +kernel
theorem dL_law_380 : decode cL_law 380 = .ok (.iload_n 3, 1) := dL_law_k31.1
theorem dL_law_381 : decode cL_law 381 = .ok (.iconst 1, 1) := dL_law_k31.2.1
theorem dL_law_382 : decode cL_law 382 = .ok (.iadd, 1) := dL_law_k31.2.2.1
theorem dL_law_383 : decode cL_law 383 = .ok (.iaload, 1) := dL_law_k31.2.2.2.1
theorem dL_law_384 : decode cL_law 384 = .ok (.invokevirtual 39, 3) := dL_law_k31.2.2.2.2.1
theorem dL_law_387 : decode cL_law 387 = .ok (.if_icmp .eq 799, 3) := dL_law_k31.2.2.2.2.2
set_option maxRecDepth 100000 in
theorem dL_law_k32 : (decode cL_law 390 = .ok (.iconst 0, 1)) ∧ (decode cL_law 391 = .ok (.ireturn, 1)) ∧ (decode cL_law 392 = .ok (.aload_n 1, 1)) ∧ (decode cL_law 393 = .ok (.aload_n 0, 1)) ∧ (decode cL_law 394 = .ok (.iload_n 3, 1)) ∧ (decode cL_law 395 = .ok (.iconst 1, 1)) := by decide +kernel
theorem dL_law_390 : decode cL_law 390 = .ok (.iconst 0, 1) := dL_law_k32.1
theorem dL_law_391 : decode cL_law 391 = .ok (.ireturn, 1) := dL_law_k32.2.1
theorem dL_law_392 : decode cL_law 392 = .ok (.aload_n 1, 1) := dL_law_k32.2.2.1
theorem dL_law_393 : decode cL_law 393 = .ok (.aload_n 0, 1) := dL_law_k32.2.2.2.1
theorem dL_law_394 : decode cL_law 394 = .ok (.iload_n 3, 1) := dL_law_k32.2.2.2.2.1
theorem dL_law_395 : decode cL_law 395 = .ok (.iconst 1, 1) := dL_law_k32.2.2.2.2.2
set_option maxRecDepth 100000 in
theorem dL_law_k33 : (decode cL_law 396 = .ok (.iadd, 1)) ∧ (decode cL_law 397 = .ok (.iaload, 1)) ∧ (decode cL_law 398 = .ok (.invokevirtual 40, 3)) ∧ (decode cL_law 401 = .ok (.pop, 1)) ∧ (decode cL_law 402 = .ok (.aload_n 2, 1)) ∧ (decode cL_law 403 = .ok (.aload_n 0, 1)) := by decide +kernel
theorem dL_law_396 : decode cL_law 396 = .ok (.iadd, 1) := dL_law_k33.1
theorem dL_law_397 : decode cL_law 397 = .ok (.iaload, 1) := dL_law_k33.2.1
theorem dL_law_398 : decode cL_law 398 = .ok (.invokevirtual 40, 3) := dL_law_k33.2.2.1
theorem dL_law_401 : decode cL_law 401 = .ok (.pop, 1) := dL_law_k33.2.2.2.1
theorem dL_law_402 : decode cL_law 402 = .ok (.aload_n 2, 1) := dL_law_k33.2.2.2.2.1
theorem dL_law_403 : decode cL_law 403 = .ok (.aload_n 0, 1) := dL_law_k33.2.2.2.2.2
set_option maxRecDepth 100000 in
theorem dL_law_k34 : (decode cL_law 404 = .ok (.iload_n 3, 1)) ∧ (decode cL_law 405 = .ok (.iconst 1, 1)) ∧ (decode cL_law 406 = .ok (.iadd, 1)) ∧ (decode cL_law 407 = .ok (.iaload, 1)) ∧ (decode cL_law 408 = .ok (.invokevirtual 43, 3)) ∧ (decode cL_law 411 = .ok (.pop, 1)) := by decide +kernel
theorem dL_law_404 : decode cL_law 404 = .ok (.iload_n 3, 1) := dL_law_k34.1
theorem dL_law_405 : decode cL_law 405 = .ok (.iconst 1, 1) := dL_law_k34.2.1
theorem dL_law_406 : decode cL_law 406 = .ok (.iadd, 1) := dL_law_k34.2.2.1
theorem dL_law_407 : decode cL_law 407 = .ok (.iaload, 1) := dL_law_k34.2.2.2.1
theorem dL_law_408 : decode cL_law 408 = .ok (.invokevirtual 43, 3) := dL_law_k34.2.2.2.2.1
theorem dL_law_411 : decode cL_law 411 = .ok (.pop, 1) := dL_law_k34.2.2.2.2.2
set_option maxRecDepth 100000 in
theorem dL_law_k35 : (decode cL_law 412 = .ok (.goto 774, 3)) ∧ (decode cL_law 415 = .ok (.aload_n 1, 1)) ∧ (decode cL_law 416 = .ok (.invokevirtual 44, 3)) ∧ (decode cL_law 419 = .ok (.pop, 1)) ∧ (decode cL_law 420 = .ok (.aload_n 2, 1)) ∧ (decode cL_law 421 = .ok (.invokevirtual 48, 3)) := by decide +kernel
theorem dL_law_412 : decode cL_law 412 = .ok (.goto 774, 3) := dL_law_k35.1
theorem dL_law_415 : decode cL_law 415 = .ok (.aload_n 1, 1) := dL_law_k35.2.1
theorem dL_law_416 : decode cL_law 416 = .ok (.invokevirtual 44, 3) := dL_law_k35.2.2.1
theorem dL_law_419 : decode cL_law 419 = .ok (.pop, 1) := dL_law_k35.2.2.2.1
theorem dL_law_420 : decode cL_law 420 = .ok (.aload_n 2, 1) := dL_law_k35.2.2.2.2.1
theorem dL_law_421 : decode cL_law 421 = .ok (.invokevirtual 48, 3) := dL_law_k35.2.2.2.2.2
set_option maxRecDepth 100000 in
theorem dL_law_k36 : (decode cL_law 424 = .ok (.pop, 1)) ∧ (decode cL_law 425 = .ok (.goto 761, 3)) ∧ (decode cL_law 428 = .ok (.aload_n 1, 1)) ∧ (decode cL_law 429 = .ok (.invokevirtual 49, 3)) ∧ (decode cL_law 432 = .ok (.pop, 1)) ∧ (decode cL_law 433 = .ok (.aload_n 2, 1)) := by decide +kernel
theorem dL_law_424 : decode cL_law 424 = .ok (.pop, 1) := dL_law_k36.1
theorem dL_law_425 : decode cL_law 425 = .ok (.goto 761, 3) := dL_law_k36.2.1
theorem dL_law_428 : decode cL_law 428 = .ok (.aload_n 1, 1) := dL_law_k36.2.2.1
theorem dL_law_429 : decode cL_law 429 = .ok (.invokevirtual 49, 3) := dL_law_k36.2.2.2.1
theorem dL_law_432 : decode cL_law 432 = .ok (.pop, 1) := dL_law_k36.2.2.2.2.1
theorem dL_law_433 : decode cL_law 433 = .ok (.aload_n 2, 1) := dL_law_k36.2.2.2.2.2
set_option maxRecDepth 100000 in
theorem dL_law_k37 : (decode cL_law 434 = .ok (.invokevirtual 52, 3)) ∧ (decode cL_law 437 = .ok (.pop, 1)) ∧ (decode cL_law 438 = .ok (.goto 748, 3)) ∧ (decode cL_law 441 = .ok (.aload_n 1, 1)) ∧ (decode cL_law 442 = .ok (.aload_n 0, 1)) ∧ (decode cL_law 443 = .ok (.iload_n 3, 1)) := by decide +kernel
theorem dL_law_434 : decode cL_law 434 = .ok (.invokevirtual 52, 3) := dL_law_k37.1
theorem dL_law_437 : decode cL_law 437 = .ok (.pop, 1) := dL_law_k37.2.1
theorem dL_law_438 : decode cL_law 438 = .ok (.goto 748, 3) := dL_law_k37.2.2.1
theorem dL_law_441 : decode cL_law 441 = .ok (.aload_n 1, 1) := dL_law_k37.2.2.2.1
theorem dL_law_442 : decode cL_law 442 = .ok (.aload_n 0, 1) := dL_law_k37.2.2.2.2.1
theorem dL_law_443 : decode cL_law 443 = .ok (.iload_n 3, 1) := dL_law_k37.2.2.2.2.2
set_option maxRecDepth 100000 in
theorem dL_law_k38 : (decode cL_law 444 = .ok (.iconst 1, 1)) ∧ (decode cL_law 445 = .ok (.iadd, 1)) ∧ (decode cL_law 446 = .ok (.iaload, 1)) ∧ (decode cL_law 447 = .ok (.invokevirtual 53, 3)) ∧ (decode cL_law 450 = .ok (.pop, 1)) ∧ (decode cL_law 451 = .ok (.aload_n 2, 1)) := by decide +kernel
theorem dL_law_444 : decode cL_law 444 = .ok (.iconst 1, 1) := dL_law_k38.1
theorem dL_law_445 : decode cL_law 445 = .ok (.iadd, 1) := dL_law_k38.2.1
theorem dL_law_446 : decode cL_law 446 = .ok (.iaload, 1) := dL_law_k38.2.2.1
theorem dL_law_447 : decode cL_law 447 = .ok (.invokevirtual 53, 3) := dL_law_k38.2.2.2.1
theorem dL_law_450 : decode cL_law 450 = .ok (.pop, 1) := dL_law_k38.2.2.2.2.1
theorem dL_law_451 : decode cL_law 451 = .ok (.aload_n 2, 1) := dL_law_k38.2.2.2.2.2
set_option maxRecDepth 100000 in
theorem dL_law_k39 : (decode cL_law 452 = .ok (.aload_n 0, 1)) ∧ (decode cL_law 453 = .ok (.iload_n 3, 1)) ∧ (decode cL_law 454 = .ok (.iconst 1, 1)) ∧ (decode cL_law 455 = .ok (.iadd, 1)) ∧ (decode cL_law 456 = .ok (.iaload, 1)) ∧ (decode cL_law 457 = .ok (.invokevirtual 56, 3)) := by decide +kernel
theorem dL_law_452 : decode cL_law 452 = .ok (.aload_n 0, 1) := dL_law_k39.1
theorem dL_law_453 : decode cL_law 453 = .ok (.iload_n 3, 1) := dL_law_k39.2.1
theorem dL_law_454 : decode cL_law 454 = .ok (.iconst 1, 1) := dL_law_k39.2.2.1
theorem dL_law_455 : decode cL_law 455 = .ok (.iadd, 1) := dL_law_k39.2.2.2.1
theorem dL_law_456 : decode cL_law 456 = .ok (.iaload, 1) := dL_law_k39.2.2.2.2.1
theorem dL_law_457 : decode cL_law 457 = .ok (.invokevirtual 56, 3) := dL_law_k39.2.2.2.2.2
set_option maxRecDepth 100000 in
theorem dL_law_k40 : (decode cL_law 460 = .ok (.pop, 1)) ∧ (decode cL_law 461 = .ok (.goto 725, 3)) ∧ (decode cL_law 464 = .ok (.aload_n 1, 1)) ∧ (decode cL_law 465 = .ok (.invokevirtual 57, 3)) ∧ (decode cL_law 468 = .ok (.pop, 1)) ∧ (decode cL_law 469 = .ok (.aload_n 2, 1)) := by decide +kernel
theorem dL_law_460 : decode cL_law 460 = .ok (.pop, 1) := dL_law_k40.1
theorem dL_law_461 : decode cL_law 461 = .ok (.goto 725, 3) := dL_law_k40.2.1
theorem dL_law_464 : decode cL_law 464 = .ok (.aload_n 1, 1) := dL_law_k40.2.2.1
theorem dL_law_465 : decode cL_law 465 = .ok (.invokevirtual 57, 3) := dL_law_k40.2.2.2.1
theorem dL_law_468 : decode cL_law 468 = .ok (.pop, 1) := dL_law_k40.2.2.2.2.1
theorem dL_law_469 : decode cL_law 469 = .ok (.aload_n 2, 1) := dL_law_k40.2.2.2.2.2
set_option maxRecDepth 100000 in
theorem dL_law_k41 : (decode cL_law 470 = .ok (.invokevirtual 60, 3)) ∧ (decode cL_law 473 = .ok (.pop, 1)) ∧ (decode cL_law 474 = .ok (.goto 712, 3)) ∧ (decode cL_law 477 = .ok (.aload_n 1, 1)) ∧ (decode cL_law 478 = .ok (.aload_n 0, 1)) ∧ (decode cL_law 479 = .ok (.iload_n 3, 1)) := by decide +kernel
theorem dL_law_470 : decode cL_law 470 = .ok (.invokevirtual 60, 3) := dL_law_k41.1
theorem dL_law_473 : decode cL_law 473 = .ok (.pop, 1) := dL_law_k41.2.1
theorem dL_law_474 : decode cL_law 474 = .ok (.goto 712, 3) := dL_law_k41.2.2.1
theorem dL_law_477 : decode cL_law 477 = .ok (.aload_n 1, 1) := dL_law_k41.2.2.2.1
theorem dL_law_478 : decode cL_law 478 = .ok (.aload_n 0, 1) := dL_law_k41.2.2.2.2.1
theorem dL_law_479 : decode cL_law 479 = .ok (.iload_n 3, 1) := dL_law_k41.2.2.2.2.2
set_option maxRecDepth 100000 in
theorem dL_law_k42 : (decode cL_law 480 = .ok (.iconst 1, 1)) ∧ (decode cL_law 481 = .ok (.iadd, 1)) ∧ (decode cL_law 482 = .ok (.iaload, 1)) ∧ (decode cL_law 483 = .ok (.aload_n 0, 1)) ∧ (decode cL_law 484 = .ok (.iload_n 3, 1)) ∧ (decode cL_law 485 = .ok (.iconst 2, 1)) := by decide +kernel
theorem dL_law_480 : decode cL_law 480 = .ok (.iconst 1, 1) := dL_law_k42.1
theorem dL_law_481 : decode cL_law 481 = .ok (.iadd, 1) := dL_law_k42.2.1
theorem dL_law_482 : decode cL_law 482 = .ok (.iaload, 1) := dL_law_k42.2.2.1
theorem dL_law_483 : decode cL_law 483 = .ok (.aload_n 0, 1) := dL_law_k42.2.2.2.1
theorem dL_law_484 : decode cL_law 484 = .ok (.iload_n 3, 1) := dL_law_k42.2.2.2.2.1
theorem dL_law_485 : decode cL_law 485 = .ok (.iconst 2, 1) := dL_law_k42.2.2.2.2.2
set_option maxRecDepth 100000 in
theorem dL_law_k43 : (decode cL_law 486 = .ok (.iadd, 1)) ∧ (decode cL_law 487 = .ok (.iaload, 1)) ∧ (decode cL_law 488 = .ok (.invokevirtual 61, 3)) ∧ (decode cL_law 491 = .ok (.pop, 1)) ∧ (decode cL_law 492 = .ok (.aload_n 2, 1)) ∧ (decode cL_law 493 = .ok (.aload_n 0, 1)) := by decide +kernel
theorem dL_law_486 : decode cL_law 486 = .ok (.iadd, 1) := dL_law_k43.1
theorem dL_law_487 : decode cL_law 487 = .ok (.iaload, 1) := dL_law_k43.2.1
theorem dL_law_488 : decode cL_law 488 = .ok (.invokevirtual 61, 3) := dL_law_k43.2.2.1
theorem dL_law_491 : decode cL_law 491 = .ok (.pop, 1) := dL_law_k43.2.2.2.1
theorem dL_law_492 : decode cL_law 492 = .ok (.aload_n 2, 1) := dL_law_k43.2.2.2.2.1
theorem dL_law_493 : decode cL_law 493 = .ok (.aload_n 0, 1) := dL_law_k43.2.2.2.2.2
set_option maxRecDepth 100000 in
theorem dL_law_k44 : (decode cL_law 494 = .ok (.iload_n 3, 1)) ∧ (decode cL_law 495 = .ok (.iconst 1, 1)) ∧ (decode cL_law 496 = .ok (.iadd, 1)) ∧ (decode cL_law 497 = .ok (.iaload, 1)) ∧ (decode cL_law 498 = .ok (.aload_n 0, 1)) ∧ (decode cL_law 499 = .ok (.iload_n 3, 1)) := by decide +kernel
theorem dL_law_494 : decode cL_law 494 = .ok (.iload_n 3, 1) := dL_law_k44.1
theorem dL_law_495 : decode cL_law 495 = .ok (.iconst 1, 1) := dL_law_k44.2.1
theorem dL_law_496 : decode cL_law 496 = .ok (.iadd, 1) := dL_law_k44.2.2.1
theorem dL_law_497 : decode cL_law 497 = .ok (.iaload, 1) := dL_law_k44.2.2.2.1
theorem dL_law_498 : decode cL_law 498 = .ok (.aload_n 0, 1) := dL_law_k44.2.2.2.2.1
theorem dL_law_499 : decode cL_law 499 = .ok (.iload_n 3, 1) := dL_law_k44.2.2.2.2.2
set_option maxRecDepth 100000 in
theorem dL_law_k45 : (decode cL_law 500 = .ok (.iconst 2, 1)) ∧ (decode cL_law 501 = .ok (.iadd, 1)) ∧ (decode cL_law 502 = .ok (.iaload, 1)) ∧ (decode cL_law 503 = .ok (.invokevirtual 64, 3)) ∧ (decode cL_law 506 = .ok (.pop, 1)) ∧ (decode cL_law 507 = .ok (.goto 679, 3)) := by decide +kernel
theorem dL_law_500 : decode cL_law 500 = .ok (.iconst 2, 1) := dL_law_k45.1
theorem dL_law_501 : decode cL_law 501 = .ok (.iadd, 1) := dL_law_k45.2.1
theorem dL_law_502 : decode cL_law 502 = .ok (.iaload, 1) := dL_law_k45.2.2.1
theorem dL_law_503 : decode cL_law 503 = .ok (.invokevirtual 64, 3) := dL_law_k45.2.2.2.1
theorem dL_law_506 : decode cL_law 506 = .ok (.pop, 1) := dL_law_k45.2.2.2.2.1
theorem dL_law_507 : decode cL_law 507 = .ok (.goto 679, 3) := dL_law_k45.2.2.2.2.2
set_option maxRecDepth 100000 in
theorem dL_law_k46 : (decode cL_law 510 = .ok (.aload_n 1, 1)) ∧ (decode cL_law 511 = .ok (.aload_n 0, 1)) ∧ (decode cL_law 512 = .ok (.iload_n 3, 1)) ∧ (decode cL_law 513 = .ok (.iconst 1, 1)) ∧ (decode cL_law 514 = .ok (.iadd, 1)) ∧ (decode cL_law 515 = .ok (.iaload, 1)) := by decide +kernel
theorem dL_law_510 : decode cL_law 510 = .ok (.aload_n 1, 1) := dL_law_k46.1
theorem dL_law_511 : decode cL_law 511 = .ok (.aload_n 0, 1) := dL_law_k46.2.1
theorem dL_law_512 : decode cL_law 512 = .ok (.iload_n 3, 1) := dL_law_k46.2.2.1
theorem dL_law_513 : decode cL_law 513 = .ok (.iconst 1, 1) := dL_law_k46.2.2.2.1
theorem dL_law_514 : decode cL_law 514 = .ok (.iadd, 1) := dL_law_k46.2.2.2.2.1
theorem dL_law_515 : decode cL_law 515 = .ok (.iaload, 1) := dL_law_k46.2.2.2.2.2
set_option maxRecDepth 100000 in
theorem dL_law_k47 : (decode cL_law 516 = .ok (.aload_n 0, 1)) ∧ (decode cL_law 517 = .ok (.iload_n 3, 1)) ∧ (decode cL_law 518 = .ok (.iconst 2, 1)) ∧ (decode cL_law 519 = .ok (.iadd, 1)) ∧ (decode cL_law 520 = .ok (.iaload, 1)) ∧ (decode cL_law 521 = .ok (.invokevirtual 65, 3)) := by decide +kernel
theorem dL_law_516 : decode cL_law 516 = .ok (.aload_n 0, 1) := dL_law_k47.1
theorem dL_law_517 : decode cL_law 517 = .ok (.iload_n 3, 1) := dL_law_k47.2.1
theorem dL_law_518 : decode cL_law 518 = .ok (.iconst 2, 1) := dL_law_k47.2.2.1
theorem dL_law_519 : decode cL_law 519 = .ok (.iadd, 1) := dL_law_k47.2.2.2.1
theorem dL_law_520 : decode cL_law 520 = .ok (.iaload, 1) := dL_law_k47.2.2.2.2.1
theorem dL_law_521 : decode cL_law 521 = .ok (.invokevirtual 65, 3) := dL_law_k47.2.2.2.2.2
set_option maxRecDepth 100000 in
theorem dL_law_k48 : (decode cL_law 524 = .ok (.pop, 1)) ∧ (decode cL_law 525 = .ok (.aload_n 2, 1)) ∧ (decode cL_law 526 = .ok (.aload_n 0, 1)) ∧ (decode cL_law 527 = .ok (.iload_n 3, 1)) ∧ (decode cL_law 528 = .ok (.iconst 1, 1)) ∧ (decode cL_law 529 = .ok (.iadd, 1)) := by decide +kernel
theorem dL_law_524 : decode cL_law 524 = .ok (.pop, 1) := dL_law_k48.1
theorem dL_law_525 : decode cL_law 525 = .ok (.aload_n 2, 1) := dL_law_k48.2.1
theorem dL_law_526 : decode cL_law 526 = .ok (.aload_n 0, 1) := dL_law_k48.2.2.1
theorem dL_law_527 : decode cL_law 527 = .ok (.iload_n 3, 1) := dL_law_k48.2.2.2.1
theorem dL_law_528 : decode cL_law 528 = .ok (.iconst 1, 1) := dL_law_k48.2.2.2.2.1
theorem dL_law_529 : decode cL_law 529 = .ok (.iadd, 1) := dL_law_k48.2.2.2.2.2
set_option maxRecDepth 100000 in
theorem dL_law_k49 : (decode cL_law 530 = .ok (.iaload, 1)) ∧ (decode cL_law 531 = .ok (.aload_n 0, 1)) ∧ (decode cL_law 532 = .ok (.iload_n 3, 1)) ∧ (decode cL_law 533 = .ok (.iconst 2, 1)) ∧ (decode cL_law 534 = .ok (.iadd, 1)) ∧ (decode cL_law 535 = .ok (.iaload, 1)) := by decide +kernel
theorem dL_law_530 : decode cL_law 530 = .ok (.iaload, 1) := dL_law_k49.1
theorem dL_law_531 : decode cL_law 531 = .ok (.aload_n 0, 1) := dL_law_k49.2.1
theorem dL_law_532 : decode cL_law 532 = .ok (.iload_n 3, 1) := dL_law_k49.2.2.1
theorem dL_law_533 : decode cL_law 533 = .ok (.iconst 2, 1) := dL_law_k49.2.2.2.1
theorem dL_law_534 : decode cL_law 534 = .ok (.iadd, 1) := dL_law_k49.2.2.2.2.1
theorem dL_law_535 : decode cL_law 535 = .ok (.iaload, 1) := dL_law_k49.2.2.2.2.2
set_option maxRecDepth 100000 in
theorem dL_law_k50 : (decode cL_law 536 = .ok (.invokevirtual 68, 3)) ∧ (decode cL_law 539 = .ok (.pop, 1)) ∧ (decode cL_law 540 = .ok (.goto 646, 3)) ∧ (decode cL_law 543 = .ok (.aload_n 1, 1)) ∧ (decode cL_law 544 = .ok (.aload_n 0, 1)) ∧ (decode cL_law 545 = .ok (.iload_n 3, 1)) := by decide +kernel
theorem dL_law_536 : decode cL_law 536 = .ok (.invokevirtual 68, 3) := dL_law_k50.1
theorem dL_law_539 : decode cL_law 539 = .ok (.pop, 1) := dL_law_k50.2.1
theorem dL_law_540 : decode cL_law 540 = .ok (.goto 646, 3) := dL_law_k50.2.2.1
theorem dL_law_543 : decode cL_law 543 = .ok (.aload_n 1, 1) := dL_law_k50.2.2.2.1
theorem dL_law_544 : decode cL_law 544 = .ok (.aload_n 0, 1) := dL_law_k50.2.2.2.2.1
theorem dL_law_545 : decode cL_law 545 = .ok (.iload_n 3, 1) := dL_law_k50.2.2.2.2.2
set_option maxRecDepth 100000 in
theorem dL_law_k51 : (decode cL_law 546 = .ok (.iconst 1, 1)) ∧ (decode cL_law 547 = .ok (.iadd, 1)) ∧ (decode cL_law 548 = .ok (.iaload, 1)) ∧ (decode cL_law 549 = .ok (.aload_n 0, 1)) ∧ (decode cL_law 550 = .ok (.iload_n 3, 1)) ∧ (decode cL_law 551 = .ok (.iconst 2, 1)) := by decide +kernel
theorem dL_law_546 : decode cL_law 546 = .ok (.iconst 1, 1) := dL_law_k51.1
theorem dL_law_547 : decode cL_law 547 = .ok (.iadd, 1) := dL_law_k51.2.1
theorem dL_law_548 : decode cL_law 548 = .ok (.iaload, 1) := dL_law_k51.2.2.1
theorem dL_law_549 : decode cL_law 549 = .ok (.aload_n 0, 1) := dL_law_k51.2.2.2.1
theorem dL_law_550 : decode cL_law 550 = .ok (.iload_n 3, 1) := dL_law_k51.2.2.2.2.1
theorem dL_law_551 : decode cL_law 551 = .ok (.iconst 2, 1) := dL_law_k51.2.2.2.2.2
set_option maxRecDepth 100000 in
theorem dL_law_k52 : (decode cL_law 552 = .ok (.iadd, 1)) ∧ (decode cL_law 553 = .ok (.iaload, 1)) ∧ (decode cL_law 554 = .ok (.invokevirtual 69, 3)) ∧ (decode cL_law 557 = .ok (.pop, 1)) ∧ (decode cL_law 558 = .ok (.aload_n 2, 1)) ∧ (decode cL_law 559 = .ok (.aload_n 0, 1)) := by decide +kernel
theorem dL_law_552 : decode cL_law 552 = .ok (.iadd, 1) := dL_law_k52.1
theorem dL_law_553 : decode cL_law 553 = .ok (.iaload, 1) := dL_law_k52.2.1
theorem dL_law_554 : decode cL_law 554 = .ok (.invokevirtual 69, 3) := dL_law_k52.2.2.1
theorem dL_law_557 : decode cL_law 557 = .ok (.pop, 1) := dL_law_k52.2.2.2.1
theorem dL_law_558 : decode cL_law 558 = .ok (.aload_n 2, 1) := dL_law_k52.2.2.2.2.1
theorem dL_law_559 : decode cL_law 559 = .ok (.aload_n 0, 1) := dL_law_k52.2.2.2.2.2
set_option maxRecDepth 100000 in
theorem dL_law_k53 : (decode cL_law 560 = .ok (.iload_n 3, 1)) ∧ (decode cL_law 561 = .ok (.iconst 1, 1)) ∧ (decode cL_law 562 = .ok (.iadd, 1)) ∧ (decode cL_law 563 = .ok (.iaload, 1)) ∧ (decode cL_law 564 = .ok (.aload_n 0, 1)) ∧ (decode cL_law 565 = .ok (.iload_n 3, 1)) := by decide +kernel
theorem dL_law_560 : decode cL_law 560 = .ok (.iload_n 3, 1) := dL_law_k53.1
theorem dL_law_561 : decode cL_law 561 = .ok (.iconst 1, 1) := dL_law_k53.2.1
theorem dL_law_562 : decode cL_law 562 = .ok (.iadd, 1) := dL_law_k53.2.2.1
theorem dL_law_563 : decode cL_law 563 = .ok (.iaload, 1) := dL_law_k53.2.2.2.1
theorem dL_law_564 : decode cL_law 564 = .ok (.aload_n 0, 1) := dL_law_k53.2.2.2.2.1
theorem dL_law_565 : decode cL_law 565 = .ok (.iload_n 3, 1) := dL_law_k53.2.2.2.2.2
set_option maxRecDepth 100000 in
theorem dL_law_k54 : (decode cL_law 566 = .ok (.iconst 2, 1)) ∧ (decode cL_law 567 = .ok (.iadd, 1)) ∧ (decode cL_law 568 = .ok (.iaload, 1)) ∧ (decode cL_law 569 = .ok (.invokevirtual 72, 3)) ∧ (decode cL_law 572 = .ok (.pop, 1)) ∧ (decode cL_law 573 = .ok (.goto 613, 3)) := by decide +kernel
theorem dL_law_566 : decode cL_law 566 = .ok (.iconst 2, 1) := dL_law_k54.1
theorem dL_law_567 : decode cL_law 567 = .ok (.iadd, 1) := dL_law_k54.2.1
theorem dL_law_568 : decode cL_law 568 = .ok (.iaload, 1) := dL_law_k54.2.2.1
theorem dL_law_569 : decode cL_law 569 = .ok (.invokevirtual 72, 3) := dL_law_k54.2.2.2.1
theorem dL_law_572 : decode cL_law 572 = .ok (.pop, 1) := dL_law_k54.2.2.2.2.1
theorem dL_law_573 : decode cL_law 573 = .ok (.goto 613, 3) := dL_law_k54.2.2.2.2.2
set_option maxRecDepth 100000 in
theorem dL_law_k55 : (decode cL_law 576 = .ok (.aload_n 1, 1)) ∧ (decode cL_law 577 = .ok (.aload_n 0, 1)) ∧ (decode cL_law 578 = .ok (.iload_n 3, 1)) ∧ (decode cL_law 579 = .ok (.iconst 1, 1)) ∧ (decode cL_law 580 = .ok (.iadd, 1)) ∧ (decode cL_law 581 = .ok (.iaload, 1)) := by decide +kernel
theorem dL_law_576 : decode cL_law 576 = .ok (.aload_n 1, 1) := dL_law_k55.1
theorem dL_law_577 : decode cL_law 577 = .ok (.aload_n 0, 1) := dL_law_k55.2.1
theorem dL_law_578 : decode cL_law 578 = .ok (.iload_n 3, 1) := dL_law_k55.2.2.1
theorem dL_law_579 : decode cL_law 579 = .ok (.iconst 1, 1) := dL_law_k55.2.2.2.1
theorem dL_law_580 : decode cL_law 580 = .ok (.iadd, 1) := dL_law_k55.2.2.2.2.1
theorem dL_law_581 : decode cL_law 581 = .ok (.iaload, 1) := dL_law_k55.2.2.2.2.2
set_option maxRecDepth 100000 in
theorem dL_law_k56 : (decode cL_law 582 = .ok (.invokevirtual 73, 3)) ∧ (decode cL_law 585 = .ok (.pop, 1)) ∧ (decode cL_law 586 = .ok (.aload_n 2, 1)) ∧ (decode cL_law 587 = .ok (.aload_n 0, 1)) ∧ (decode cL_law 588 = .ok (.iload_n 3, 1)) ∧ (decode cL_law 589 = .ok (.iconst 1, 1)) := by decide +kernel
theorem dL_law_582 : decode cL_law 582 = .ok (.invokevirtual 73, 3) := dL_law_k56.1
theorem dL_law_585 : decode cL_law 585 = .ok (.pop, 1) := dL_law_k56.2.1
theorem dL_law_586 : decode cL_law 586 = .ok (.aload_n 2, 1) := dL_law_k56.2.2.1
theorem dL_law_587 : decode cL_law 587 = .ok (.aload_n 0, 1) := dL_law_k56.2.2.2.1
theorem dL_law_588 : decode cL_law 588 = .ok (.iload_n 3, 1) := dL_law_k56.2.2.2.2.1
theorem dL_law_589 : decode cL_law 589 = .ok (.iconst 1, 1) := dL_law_k56.2.2.2.2.2
set_option maxRecDepth 100000 in
theorem dL_law_k57 : (decode cL_law 590 = .ok (.iadd, 1)) ∧ (decode cL_law 591 = .ok (.iaload, 1)) ∧ (decode cL_law 592 = .ok (.invokevirtual 76, 3)) ∧ (decode cL_law 595 = .ok (.pop, 1)) ∧ (decode cL_law 596 = .ok (.goto 590, 3)) ∧ (decode cL_law 599 = .ok (.aload_n 1, 1)) := by decide +kernel
theorem dL_law_590 : decode cL_law 590 = .ok (.iadd, 1) := dL_law_k57.1
theorem dL_law_591 : decode cL_law 591 = .ok (.iaload, 1) := dL_law_k57.2.1
theorem dL_law_592 : decode cL_law 592 = .ok (.invokevirtual 76, 3) := dL_law_k57.2.2.1
theorem dL_law_595 : decode cL_law 595 = .ok (.pop, 1) := dL_law_k57.2.2.2.1
theorem dL_law_596 : decode cL_law 596 = .ok (.goto 590, 3) := dL_law_k57.2.2.2.2.1
theorem dL_law_599 : decode cL_law 599 = .ok (.aload_n 1, 1) := dL_law_k57.2.2.2.2.2
set_option maxRecDepth 100000 in
theorem dL_law_k58 : (decode cL_law 600 = .ok (.aload_n 0, 1)) ∧ (decode cL_law 601 = .ok (.iload_n 3, 1)) ∧ (decode cL_law 602 = .ok (.iconst 1, 1)) ∧ (decode cL_law 603 = .ok (.iadd, 1)) ∧ (decode cL_law 604 = .ok (.iaload, 1)) ∧ (decode cL_law 605 = .ok (.aload_n 0, 1)) := by decide +kernel
theorem dL_law_600 : decode cL_law 600 = .ok (.aload_n 0, 1) := dL_law_k58.1
theorem dL_law_601 : decode cL_law 601 = .ok (.iload_n 3, 1) := dL_law_k58.2.1
theorem dL_law_602 : decode cL_law 602 = .ok (.iconst 1, 1) := dL_law_k58.2.2.1
theorem dL_law_603 : decode cL_law 603 = .ok (.iadd, 1) := dL_law_k58.2.2.2.1
theorem dL_law_604 : decode cL_law 604 = .ok (.iaload, 1) := dL_law_k58.2.2.2.2.1
theorem dL_law_605 : decode cL_law 605 = .ok (.aload_n 0, 1) := dL_law_k58.2.2.2.2.2
set_option maxRecDepth 100000 in
theorem dL_law_k59 : (decode cL_law 606 = .ok (.iload_n 3, 1)) ∧ (decode cL_law 607 = .ok (.iconst 2, 1)) ∧ (decode cL_law 608 = .ok (.iadd, 1)) ∧ (decode cL_law 609 = .ok (.iaload, 1)) ∧ (decode cL_law 610 = .ok (.invokevirtual 77, 3)) ∧ (decode cL_law 613 = .ok (.pop, 1)) := by decide +kernel
theorem dL_law_606 : decode cL_law 606 = .ok (.iload_n 3, 1) := dL_law_k59.1
theorem dL_law_607 : decode cL_law 607 = .ok (.iconst 2, 1) := dL_law_k59.2.1
theorem dL_law_608 : decode cL_law 608 = .ok (.iadd, 1) := dL_law_k59.2.2.1
theorem dL_law_609 : decode cL_law 609 = .ok (.iaload, 1) := dL_law_k59.2.2.2.1
theorem dL_law_610 : decode cL_law 610 = .ok (.invokevirtual 77, 3) := dL_law_k59.2.2.2.2.1
theorem dL_law_613 : decode cL_law 613 = .ok (.pop, 1) := dL_law_k59.2.2.2.2.2
set_option maxRecDepth 100000 in
theorem dL_law_k60 : (decode cL_law 614 = .ok (.aload_n 2, 1)) ∧ (decode cL_law 615 = .ok (.aload_n 0, 1)) ∧ (decode cL_law 616 = .ok (.iload_n 3, 1)) ∧ (decode cL_law 617 = .ok (.iconst 1, 1)) ∧ (decode cL_law 618 = .ok (.iadd, 1)) ∧ (decode cL_law 619 = .ok (.iaload, 1)) := by decide +kernel
theorem dL_law_614 : decode cL_law 614 = .ok (.aload_n 2, 1) := dL_law_k60.1
theorem dL_law_615 : decode cL_law 615 = .ok (.aload_n 0, 1) := dL_law_k60.2.1
theorem dL_law_616 : decode cL_law 616 = .ok (.iload_n 3, 1) := dL_law_k60.2.2.1
theorem dL_law_617 : decode cL_law 617 = .ok (.iconst 1, 1) := dL_law_k60.2.2.2.1
theorem dL_law_618 : decode cL_law 618 = .ok (.iadd, 1) := dL_law_k60.2.2.2.2.1
theorem dL_law_619 : decode cL_law 619 = .ok (.iaload, 1) := dL_law_k60.2.2.2.2.2
set_option maxRecDepth 100000 in
theorem dL_law_k61 : (decode cL_law 620 = .ok (.aload_n 0, 1)) ∧ (decode cL_law 621 = .ok (.iload_n 3, 1)) ∧ (decode cL_law 622 = .ok (.iconst 2, 1)) ∧ (decode cL_law 623 = .ok (.iadd, 1)) ∧ (decode cL_law 624 = .ok (.iaload, 1)) ∧ (decode cL_law 625 = .ok (.invokevirtual 80, 3)) := by decide +kernel
theorem dL_law_620 : decode cL_law 620 = .ok (.aload_n 0, 1) := dL_law_k61.1
theorem dL_law_621 : decode cL_law 621 = .ok (.iload_n 3, 1) := dL_law_k61.2.1
theorem dL_law_622 : decode cL_law 622 = .ok (.iconst 2, 1) := dL_law_k61.2.2.1
theorem dL_law_623 : decode cL_law 623 = .ok (.iadd, 1) := dL_law_k61.2.2.2.1
theorem dL_law_624 : decode cL_law 624 = .ok (.iaload, 1) := dL_law_k61.2.2.2.2.1
theorem dL_law_625 : decode cL_law 625 = .ok (.invokevirtual 80, 3) := dL_law_k61.2.2.2.2.2
set_option maxRecDepth 100000 in
theorem dL_law_k62 : (decode cL_law 628 = .ok (.pop, 1)) ∧ (decode cL_law 629 = .ok (.goto 557, 3)) ∧ (decode cL_law 632 = .ok (.aload_n 1, 1)) ∧ (decode cL_law 633 = .ok (.aload_n 0, 1)) ∧ (decode cL_law 634 = .ok (.iload_n 3, 1)) ∧ (decode cL_law 635 = .ok (.iconst 1, 1)) := by decide +kernel
theorem dL_law_628 : decode cL_law 628 = .ok (.pop, 1) := dL_law_k62.1
theorem dL_law_629 : decode cL_law 629 = .ok (.goto 557, 3) := dL_law_k62.2.1
theorem dL_law_632 : decode cL_law 632 = .ok (.aload_n 1, 1) := dL_law_k62.2.2.1
theorem dL_law_633 : decode cL_law 633 = .ok (.aload_n 0, 1) := dL_law_k62.2.2.2.1
theorem dL_law_634 : decode cL_law 634 = .ok (.iload_n 3, 1) := dL_law_k62.2.2.2.2.1
theorem dL_law_635 : decode cL_law 635 = .ok (.iconst 1, 1) := dL_law_k62.2.2.2.2.2
set_option maxRecDepth 100000 in
theorem dL_law_k63 : (decode cL_law 636 = .ok (.iadd, 1)) ∧ (decode cL_law 637 = .ok (.iaload, 1)) ∧ (decode cL_law 638 = .ok (.aload_n 0, 1)) ∧ (decode cL_law 639 = .ok (.iload_n 3, 1)) ∧ (decode cL_law 640 = .ok (.iconst 2, 1)) ∧ (decode cL_law 641 = .ok (.iadd, 1)) := by decide +kernel
theorem dL_law_636 : decode cL_law 636 = .ok (.iadd, 1) := dL_law_k63.1
theorem dL_law_637 : decode cL_law 637 = .ok (.iaload, 1) := dL_law_k63.2.1
theorem dL_law_638 : decode cL_law 638 = .ok (.aload_n 0, 1) := dL_law_k63.2.2.1
theorem dL_law_639 : decode cL_law 639 = .ok (.iload_n 3, 1) := dL_law_k63.2.2.2.1
theorem dL_law_640 : decode cL_law 640 = .ok (.iconst 2, 1) := dL_law_k63.2.2.2.2.1
theorem dL_law_641 : decode cL_law 641 = .ok (.iadd, 1) := dL_law_k63.2.2.2.2.2
set_option maxRecDepth 100000 in
theorem dL_law_k64 : (decode cL_law 642 = .ok (.iaload, 1)) ∧ (decode cL_law 643 = .ok (.invokevirtual 81, 3)) ∧ (decode cL_law 646 = .ok (.pop, 1)) ∧ (decode cL_law 647 = .ok (.aload_n 2, 1)) ∧ (decode cL_law 648 = .ok (.aload_n 0, 1)) ∧ (decode cL_law 649 = .ok (.iload_n 3, 1)) := by decide +kernel
theorem dL_law_642 : decode cL_law 642 = .ok (.iaload, 1) := dL_law_k64.1
theorem dL_law_643 : decode cL_law 643 = .ok (.invokevirtual 81, 3) := dL_law_k64.2.1
theorem dL_law_646 : decode cL_law 646 = .ok (.pop, 1) := dL_law_k64.2.2.1
theorem dL_law_647 : decode cL_law 647 = .ok (.aload_n 2, 1) := dL_law_k64.2.2.2.1
theorem dL_law_648 : decode cL_law 648 = .ok (.aload_n 0, 1) := dL_law_k64.2.2.2.2.1
theorem dL_law_649 : decode cL_law 649 = .ok (.iload_n 3, 1) := dL_law_k64.2.2.2.2.2
set_option maxRecDepth 100000 in
theorem dL_law_k65 : (decode cL_law 650 = .ok (.iconst 1, 1)) ∧ (decode cL_law 651 = .ok (.iadd, 1)) ∧ (decode cL_law 652 = .ok (.iaload, 1)) ∧ (decode cL_law 653 = .ok (.aload_n 0, 1)) ∧ (decode cL_law 654 = .ok (.iload_n 3, 1)) ∧ (decode cL_law 655 = .ok (.iconst 2, 1)) := by decide +kernel
theorem dL_law_650 : decode cL_law 650 = .ok (.iconst 1, 1) := dL_law_k65.1
theorem dL_law_651 : decode cL_law 651 = .ok (.iadd, 1) := dL_law_k65.2.1
theorem dL_law_652 : decode cL_law 652 = .ok (.iaload, 1) := dL_law_k65.2.2.1
theorem dL_law_653 : decode cL_law 653 = .ok (.aload_n 0, 1) := dL_law_k65.2.2.2.1
theorem dL_law_654 : decode cL_law 654 = .ok (.iload_n 3, 1) := dL_law_k65.2.2.2.2.1
theorem dL_law_655 : decode cL_law 655 = .ok (.iconst 2, 1) := dL_law_k65.2.2.2.2.2
set_option maxRecDepth 100000 in
theorem dL_law_k66 : (decode cL_law 656 = .ok (.iadd, 1)) ∧ (decode cL_law 657 = .ok (.iaload, 1)) ∧ (decode cL_law 658 = .ok (.invokevirtual 84, 3)) ∧ (decode cL_law 661 = .ok (.pop, 1)) ∧ (decode cL_law 662 = .ok (.goto 524, 3)) ∧ (decode cL_law 665 = .ok (.aload_n 1, 1)) := by decide +kernel
theorem dL_law_656 : decode cL_law 656 = .ok (.iadd, 1) := dL_law_k66.1
theorem dL_law_657 : decode cL_law 657 = .ok (.iaload, 1) := dL_law_k66.2.1
theorem dL_law_658 : decode cL_law 658 = .ok (.invokevirtual 84, 3) := dL_law_k66.2.2.1
theorem dL_law_661 : decode cL_law 661 = .ok (.pop, 1) := dL_law_k66.2.2.2.1
theorem dL_law_662 : decode cL_law 662 = .ok (.goto 524, 3) := dL_law_k66.2.2.2.2.1
theorem dL_law_665 : decode cL_law 665 = .ok (.aload_n 1, 1) := dL_law_k66.2.2.2.2.2
set_option maxRecDepth 100000 in
theorem dL_law_k67 : (decode cL_law 666 = .ok (.invokevirtual 85, 3)) ∧ (decode cL_law 669 = .ok (.pop, 1)) ∧ (decode cL_law 670 = .ok (.aload_n 2, 1)) ∧ (decode cL_law 671 = .ok (.invokevirtual 88, 3)) ∧ (decode cL_law 674 = .ok (.pop, 1)) ∧ (decode cL_law 675 = .ok (.goto 511, 3)) := by decide +kernel
theorem dL_law_666 : decode cL_law 666 = .ok (.invokevirtual 85, 3) := dL_law_k67.1
theorem dL_law_669 : decode cL_law 669 = .ok (.pop, 1) := dL_law_k67.2.1
theorem dL_law_670 : decode cL_law 670 = .ok (.aload_n 2, 1) := dL_law_k67.2.2.1
theorem dL_law_671 : decode cL_law 671 = .ok (.invokevirtual 88, 3) := dL_law_k67.2.2.2.1
theorem dL_law_674 : decode cL_law 674 = .ok (.pop, 1) := dL_law_k67.2.2.2.2.1
theorem dL_law_675 : decode cL_law 675 = .ok (.goto 511, 3) := dL_law_k67.2.2.2.2.2
set_option maxRecDepth 100000 in
theorem dL_law_k68 : (decode cL_law 678 = .ok (.aload_n 1, 1)) ∧ (decode cL_law 679 = .ok (.invokevirtual 89, 3)) ∧ (decode cL_law 682 = .ok (.pop, 1)) ∧ (decode cL_law 683 = .ok (.aload_n 2, 1)) ∧ (decode cL_law 684 = .ok (.invokevirtual 92, 3)) ∧ (decode cL_law 687 = .ok (.pop, 1)) := by decide +kernel
theorem dL_law_678 : decode cL_law 678 = .ok (.aload_n 1, 1) := dL_law_k68.1
theorem dL_law_679 : decode cL_law 679 = .ok (.invokevirtual 89, 3) := dL_law_k68.2.1
theorem dL_law_682 : decode cL_law 682 = .ok (.pop, 1) := dL_law_k68.2.2.1
theorem dL_law_683 : decode cL_law 683 = .ok (.aload_n 2, 1) := dL_law_k68.2.2.2.1
theorem dL_law_684 : decode cL_law 684 = .ok (.invokevirtual 92, 3) := dL_law_k68.2.2.2.2.1
theorem dL_law_687 : decode cL_law 687 = .ok (.pop, 1) := dL_law_k68.2.2.2.2.2
set_option maxRecDepth 100000 in
theorem dL_law_k69 : (decode cL_law 688 = .ok (.goto 498, 3)) ∧ (decode cL_law 691 = .ok (.aload_n 1, 1)) ∧ (decode cL_law 692 = .ok (.aload_n 0, 1)) ∧ (decode cL_law 693 = .ok (.iload_n 3, 1)) ∧ (decode cL_law 694 = .ok (.iconst 1, 1)) ∧ (decode cL_law 695 = .ok (.iadd, 1)) := by decide +kernel
theorem dL_law_688 : decode cL_law 688 = .ok (.goto 498, 3) := dL_law_k69.1
theorem dL_law_691 : decode cL_law 691 = .ok (.aload_n 1, 1) := dL_law_k69.2.1
theorem dL_law_692 : decode cL_law 692 = .ok (.aload_n 0, 1) := dL_law_k69.2.2.1
theorem dL_law_693 : decode cL_law 693 = .ok (.iload_n 3, 1) := dL_law_k69.2.2.2.1
theorem dL_law_694 : decode cL_law 694 = .ok (.iconst 1, 1) := dL_law_k69.2.2.2.2.1
theorem dL_law_695 : decode cL_law 695 = .ok (.iadd, 1) := dL_law_k69.2.2.2.2.2
set_option maxRecDepth 100000 in
theorem dL_law_k70 : (decode cL_law 696 = .ok (.iaload, 1)) ∧ (decode cL_law 697 = .ok (.invokevirtual 93, 3)) ∧ (decode cL_law 700 = .ok (.pop, 1)) ∧ (decode cL_law 701 = .ok (.aload_n 2, 1)) ∧ (decode cL_law 702 = .ok (.aload_n 0, 1)) ∧ (decode cL_law 703 = .ok (.iload_n 3, 1)) := by decide +kernel
theorem dL_law_696 : decode cL_law 696 = .ok (.iaload, 1) := dL_law_k70.1
theorem dL_law_697 : decode cL_law 697 = .ok (.invokevirtual 93, 3) := dL_law_k70.2.1
theorem dL_law_700 : decode cL_law 700 = .ok (.pop, 1) := dL_law_k70.2.2.1
theorem dL_law_701 : decode cL_law 701 = .ok (.aload_n 2, 1) := dL_law_k70.2.2.2.1
theorem dL_law_702 : decode cL_law 702 = .ok (.aload_n 0, 1) := dL_law_k70.2.2.2.2.1
theorem dL_law_703 : decode cL_law 703 = .ok (.iload_n 3, 1) := dL_law_k70.2.2.2.2.2
set_option maxRecDepth 100000 in
theorem dL_law_k71 : (decode cL_law 704 = .ok (.iconst 1, 1)) ∧ (decode cL_law 705 = .ok (.iadd, 1)) ∧ (decode cL_law 706 = .ok (.iaload, 1)) ∧ (decode cL_law 707 = .ok (.invokevirtual 96, 3)) ∧ (decode cL_law 710 = .ok (.pop, 1)) ∧ (decode cL_law 711 = .ok (.goto 475, 3)) := by decide +kernel
theorem dL_law_704 : decode cL_law 704 = .ok (.iconst 1, 1) := dL_law_k71.1
theorem dL_law_705 : decode cL_law 705 = .ok (.iadd, 1) := dL_law_k71.2.1
theorem dL_law_706 : decode cL_law 706 = .ok (.iaload, 1) := dL_law_k71.2.2.1
theorem dL_law_707 : decode cL_law 707 = .ok (.invokevirtual 96, 3) := dL_law_k71.2.2.2.1
theorem dL_law_710 : decode cL_law 710 = .ok (.pop, 1) := dL_law_k71.2.2.2.2.1
theorem dL_law_711 : decode cL_law 711 = .ok (.goto 475, 3) := dL_law_k71.2.2.2.2.2
set_option maxRecDepth 100000 in
theorem dL_law_k72 : (decode cL_law 714 = .ok (.aload_n 1, 1)) ∧ (decode cL_law 715 = .ok (.aload_n 0, 1)) ∧ (decode cL_law 716 = .ok (.iload_n 3, 1)) ∧ (decode cL_law 717 = .ok (.iconst 1, 1)) ∧ (decode cL_law 718 = .ok (.iadd, 1)) ∧ (decode cL_law 719 = .ok (.iaload, 1)) := by decide +kernel
theorem dL_law_714 : decode cL_law 714 = .ok (.aload_n 1, 1) := dL_law_k72.1
theorem dL_law_715 : decode cL_law 715 = .ok (.aload_n 0, 1) := dL_law_k72.2.1
theorem dL_law_716 : decode cL_law 716 = .ok (.iload_n 3, 1) := dL_law_k72.2.2.1
theorem dL_law_717 : decode cL_law 717 = .ok (.iconst 1, 1) := dL_law_k72.2.2.2.1
theorem dL_law_718 : decode cL_law 718 = .ok (.iadd, 1) := dL_law_k72.2.2.2.2.1
theorem dL_law_719 : decode cL_law 719 = .ok (.iaload, 1) := dL_law_k72.2.2.2.2.2
set_option maxRecDepth 100000 in
theorem dL_law_k73 : (decode cL_law 720 = .ok (.aload_n 0, 1)) ∧ (decode cL_law 721 = .ok (.iload_n 3, 1)) ∧ (decode cL_law 722 = .ok (.iconst 2, 1)) ∧ (decode cL_law 723 = .ok (.iadd, 1)) ∧ (decode cL_law 724 = .ok (.iaload, 1)) ∧ (decode cL_law 725 = .ok (.invokevirtual 97, 3)) := by decide +kernel
theorem dL_law_720 : decode cL_law 720 = .ok (.aload_n 0, 1) := dL_law_k73.1
theorem dL_law_721 : decode cL_law 721 = .ok (.iload_n 3, 1) := dL_law_k73.2.1
theorem dL_law_722 : decode cL_law 722 = .ok (.iconst 2, 1) := dL_law_k73.2.2.1
theorem dL_law_723 : decode cL_law 723 = .ok (.iadd, 1) := dL_law_k73.2.2.2.1
theorem dL_law_724 : decode cL_law 724 = .ok (.iaload, 1) := dL_law_k73.2.2.2.2.1
theorem dL_law_725 : decode cL_law 725 = .ok (.invokevirtual 97, 3) := dL_law_k73.2.2.2.2.2
set_option maxRecDepth 100000 in
theorem dL_law_k74 : (decode cL_law 728 = .ok (.pop, 1)) ∧ (decode cL_law 729 = .ok (.aload_n 2, 1)) ∧ (decode cL_law 730 = .ok (.aload_n 0, 1)) ∧ (decode cL_law 731 = .ok (.iload_n 3, 1)) ∧ (decode cL_law 732 = .ok (.iconst 1, 1)) ∧ (decode cL_law 733 = .ok (.iadd, 1)) := by decide +kernel
theorem dL_law_728 : decode cL_law 728 = .ok (.pop, 1) := dL_law_k74.1
theorem dL_law_729 : decode cL_law 729 = .ok (.aload_n 2, 1) := dL_law_k74.2.1
theorem dL_law_730 : decode cL_law 730 = .ok (.aload_n 0, 1) := dL_law_k74.2.2.1
theorem dL_law_731 : decode cL_law 731 = .ok (.iload_n 3, 1) := dL_law_k74.2.2.2.1
theorem dL_law_732 : decode cL_law 732 = .ok (.iconst 1, 1) := dL_law_k74.2.2.2.2.1
theorem dL_law_733 : decode cL_law 733 = .ok (.iadd, 1) := dL_law_k74.2.2.2.2.2
set_option maxRecDepth 100000 in
theorem dL_law_k75 : (decode cL_law 734 = .ok (.iaload, 1)) ∧ (decode cL_law 735 = .ok (.aload_n 0, 1)) ∧ (decode cL_law 736 = .ok (.iload_n 3, 1)) ∧ (decode cL_law 737 = .ok (.iconst 2, 1)) ∧ (decode cL_law 738 = .ok (.iadd, 1)) ∧ (decode cL_law 739 = .ok (.iaload, 1)) := by decide +kernel
theorem dL_law_734 : decode cL_law 734 = .ok (.iaload, 1) := dL_law_k75.1
theorem dL_law_735 : decode cL_law 735 = .ok (.aload_n 0, 1) := dL_law_k75.2.1
theorem dL_law_736 : decode cL_law 736 = .ok (.iload_n 3, 1) := dL_law_k75.2.2.1
theorem dL_law_737 : decode cL_law 737 = .ok (.iconst 2, 1) := dL_law_k75.2.2.2.1
theorem dL_law_738 : decode cL_law 738 = .ok (.iadd, 1) := dL_law_k75.2.2.2.2.1
theorem dL_law_739 : decode cL_law 739 = .ok (.iaload, 1) := dL_law_k75.2.2.2.2.2
set_option maxRecDepth 100000 in
theorem dL_law_k76 : (decode cL_law 740 = .ok (.invokevirtual 100, 3)) ∧ (decode cL_law 743 = .ok (.pop, 1)) ∧ (decode cL_law 744 = .ok (.goto 442, 3)) ∧ (decode cL_law 747 = .ok (.aload_n 1, 1)) ∧ (decode cL_law 748 = .ok (.aload_n 0, 1)) ∧ (decode cL_law 749 = .ok (.iload_n 3, 1)) := by decide +kernel
theorem dL_law_740 : decode cL_law 740 = .ok (.invokevirtual 100, 3) := dL_law_k76.1
theorem dL_law_743 : decode cL_law 743 = .ok (.pop, 1) := dL_law_k76.2.1
theorem dL_law_744 : decode cL_law 744 = .ok (.goto 442, 3) := dL_law_k76.2.2.1
theorem dL_law_747 : decode cL_law 747 = .ok (.aload_n 1, 1) := dL_law_k76.2.2.2.1
theorem dL_law_748 : decode cL_law 748 = .ok (.aload_n 0, 1) := dL_law_k76.2.2.2.2.1
theorem dL_law_749 : decode cL_law 749 = .ok (.iload_n 3, 1) := dL_law_k76.2.2.2.2.2
set_option maxRecDepth 100000 in
theorem dL_law_k77 : (decode cL_law 750 = .ok (.iconst 1, 1)) ∧ (decode cL_law 751 = .ok (.iadd, 1)) ∧ (decode cL_law 752 = .ok (.iaload, 1)) ∧ (decode cL_law 753 = .ok (.aload_n 0, 1)) ∧ (decode cL_law 754 = .ok (.iload_n 3, 1)) ∧ (decode cL_law 755 = .ok (.iconst 2, 1)) := by decide +kernel
theorem dL_law_750 : decode cL_law 750 = .ok (.iconst 1, 1) := dL_law_k77.1
theorem dL_law_751 : decode cL_law 751 = .ok (.iadd, 1) := dL_law_k77.2.1
theorem dL_law_752 : decode cL_law 752 = .ok (.iaload, 1) := dL_law_k77.2.2.1
theorem dL_law_753 : decode cL_law 753 = .ok (.aload_n 0, 1) := dL_law_k77.2.2.2.1
theorem dL_law_754 : decode cL_law 754 = .ok (.iload_n 3, 1) := dL_law_k77.2.2.2.2.1
theorem dL_law_755 : decode cL_law 755 = .ok (.iconst 2, 1) := dL_law_k77.2.2.2.2.2
set_option maxRecDepth 100000 in
theorem dL_law_k78 : (decode cL_law 756 = .ok (.iadd, 1)) ∧ (decode cL_law 757 = .ok (.iaload, 1)) ∧ (decode cL_law 758 = .ok (.invokevirtual 101, 3)) ∧ (decode cL_law 761 = .ok (.pop, 1)) ∧ (decode cL_law 762 = .ok (.aload_n 2, 1)) ∧ (decode cL_law 763 = .ok (.aload_n 0, 1)) := by decide +kernel
theorem dL_law_756 : decode cL_law 756 = .ok (.iadd, 1) := dL_law_k78.1
theorem dL_law_757 : decode cL_law 757 = .ok (.iaload, 1) := dL_law_k78.2.1
theorem dL_law_758 : decode cL_law 758 = .ok (.invokevirtual 101, 3) := dL_law_k78.2.2.1
theorem dL_law_761 : decode cL_law 761 = .ok (.pop, 1) := dL_law_k78.2.2.2.1
theorem dL_law_762 : decode cL_law 762 = .ok (.aload_n 2, 1) := dL_law_k78.2.2.2.2.1
theorem dL_law_763 : decode cL_law 763 = .ok (.aload_n 0, 1) := dL_law_k78.2.2.2.2.2
set_option maxRecDepth 100000 in
theorem dL_law_k79 : (decode cL_law 764 = .ok (.iload_n 3, 1)) ∧ (decode cL_law 765 = .ok (.iconst 1, 1)) ∧ (decode cL_law 766 = .ok (.iadd, 1)) ∧ (decode cL_law 767 = .ok (.iaload, 1)) ∧ (decode cL_law 768 = .ok (.aload_n 0, 1)) ∧ (decode cL_law 769 = .ok (.iload_n 3, 1)) := by decide +kernel
theorem dL_law_764 : decode cL_law 764 = .ok (.iload_n 3, 1) := dL_law_k79.1
theorem dL_law_765 : decode cL_law 765 = .ok (.iconst 1, 1) := dL_law_k79.2.1
theorem dL_law_766 : decode cL_law 766 = .ok (.iadd, 1) := dL_law_k79.2.2.1
theorem dL_law_767 : decode cL_law 767 = .ok (.iaload, 1) := dL_law_k79.2.2.2.1
theorem dL_law_768 : decode cL_law 768 = .ok (.aload_n 0, 1) := dL_law_k79.2.2.2.2.1
theorem dL_law_769 : decode cL_law 769 = .ok (.iload_n 3, 1) := dL_law_k79.2.2.2.2.2
set_option maxRecDepth 100000 in
theorem dL_law_k80 : (decode cL_law 770 = .ok (.iconst 2, 1)) ∧ (decode cL_law 771 = .ok (.iadd, 1)) ∧ (decode cL_law 772 = .ok (.iaload, 1)) ∧ (decode cL_law 773 = .ok (.invokevirtual 104, 3)) ∧ (decode cL_law 776 = .ok (.pop, 1)) ∧ (decode cL_law 777 = .ok (.goto 409, 3)) := by decide +kernel
theorem dL_law_770 : decode cL_law 770 = .ok (.iconst 2, 1) := dL_law_k80.1
theorem dL_law_771 : decode cL_law 771 = .ok (.iadd, 1) := dL_law_k80.2.1
theorem dL_law_772 : decode cL_law 772 = .ok (.iaload, 1) := dL_law_k80.2.2.1
theorem dL_law_773 : decode cL_law 773 = .ok (.invokevirtual 104, 3) := dL_law_k80.2.2.2.1
theorem dL_law_776 : decode cL_law 776 = .ok (.pop, 1) := dL_law_k80.2.2.2.2.1
theorem dL_law_777 : decode cL_law 777 = .ok (.goto 409, 3) := dL_law_k80.2.2.2.2.2
set_option maxRecDepth 100000 in
theorem dL_law_k81 : (decode cL_law 780 = .ok (.aload_n 1, 1)) ∧ (decode cL_law 781 = .ok (.aload_n 0, 1)) ∧ (decode cL_law 782 = .ok (.iload_n 3, 1)) ∧ (decode cL_law 783 = .ok (.iconst 1, 1)) ∧ (decode cL_law 784 = .ok (.iadd, 1)) ∧ (decode cL_law 785 = .ok (.iaload, 1)) := by decide +kernel
theorem dL_law_780 : decode cL_law 780 = .ok (.aload_n 1, 1) := dL_law_k81.1
theorem dL_law_781 : decode cL_law 781 = .ok (.aload_n 0, 1) := dL_law_k81.2.1
theorem dL_law_782 : decode cL_law 782 = .ok (.iload_n 3, 1) := dL_law_k81.2.2.1
theorem dL_law_783 : decode cL_law 783 = .ok (.iconst 1, 1) := dL_law_k81.2.2.2.1
theorem dL_law_784 : decode cL_law 784 = .ok (.iadd, 1) := dL_law_k81.2.2.2.2.1
theorem dL_law_785 : decode cL_law 785 = .ok (.iaload, 1) := dL_law_k81.2.2.2.2.2
set_option maxRecDepth 100000 in
theorem dL_law_k82 : (decode cL_law 786 = .ok (.invokevirtual 105, 3)) ∧ (decode cL_law 789 = .ok (.pop, 1)) ∧ (decode cL_law 790 = .ok (.aload_n 2, 1)) ∧ (decode cL_law 791 = .ok (.aload_n 0, 1)) ∧ (decode cL_law 792 = .ok (.iload_n 3, 1)) ∧ (decode cL_law 793 = .ok (.iconst 1, 1)) := by decide +kernel
theorem dL_law_786 : decode cL_law 786 = .ok (.invokevirtual 105, 3) := dL_law_k82.1
theorem dL_law_789 : decode cL_law 789 = .ok (.pop, 1) := dL_law_k82.2.1
theorem dL_law_790 : decode cL_law 790 = .ok (.aload_n 2, 1) := dL_law_k82.2.2.1
theorem dL_law_791 : decode cL_law 791 = .ok (.aload_n 0, 1) := dL_law_k82.2.2.2.1
theorem dL_law_792 : decode cL_law 792 = .ok (.iload_n 3, 1) := dL_law_k82.2.2.2.2.1
theorem dL_law_793 : decode cL_law 793 = .ok (.iconst 1, 1) := dL_law_k82.2.2.2.2.2
set_option maxRecDepth 100000 in
theorem dL_law_k83 : (decode cL_law 794 = .ok (.iadd, 1)) ∧ (decode cL_law 795 = .ok (.iaload, 1)) ∧ (decode cL_law 796 = .ok (.invokevirtual 108, 3)) ∧ (decode cL_law 799 = .ok (.pop, 1)) ∧ (decode cL_law 800 = .ok (.goto 386, 3)) ∧ (decode cL_law 803 = .ok (.aload_n 1, 1)) := by decide +kernel
theorem dL_law_794 : decode cL_law 794 = .ok (.iadd, 1) := dL_law_k83.1
theorem dL_law_795 : decode cL_law 795 = .ok (.iaload, 1) := dL_law_k83.2.1
theorem dL_law_796 : decode cL_law 796 = .ok (.invokevirtual 108, 3) := dL_law_k83.2.2.1
theorem dL_law_799 : decode cL_law 799 = .ok (.pop, 1) := dL_law_k83.2.2.2.1
theorem dL_law_800 : decode cL_law 800 = .ok (.goto 386, 3) := dL_law_k83.2.2.2.2.1
theorem dL_law_803 : decode cL_law 803 = .ok (.aload_n 1, 1) := dL_law_k83.2.2.2.2.2
set_option maxRecDepth 100000 in
theorem dL_law_k84 : (decode cL_law 804 = .ok (.aload_n 0, 1)) ∧ (decode cL_law 805 = .ok (.iload_n 3, 1)) ∧ (decode cL_law 806 = .ok (.iconst 1, 1)) ∧ (decode cL_law 807 = .ok (.iadd, 1)) ∧ (decode cL_law 808 = .ok (.iaload, 1)) ∧ (decode cL_law 809 = .ok (.aload_n 0, 1)) := by decide +kernel
theorem dL_law_804 : decode cL_law 804 = .ok (.aload_n 0, 1) := dL_law_k84.1
theorem dL_law_805 : decode cL_law 805 = .ok (.iload_n 3, 1) := dL_law_k84.2.1
theorem dL_law_806 : decode cL_law 806 = .ok (.iconst 1, 1) := dL_law_k84.2.2.1
theorem dL_law_807 : decode cL_law 807 = .ok (.iadd, 1) := dL_law_k84.2.2.2.1
theorem dL_law_808 : decode cL_law 808 = .ok (.iaload, 1) := dL_law_k84.2.2.2.2.1
theorem dL_law_809 : decode cL_law 809 = .ok (.aload_n 0, 1) := dL_law_k84.2.2.2.2.2
set_option maxRecDepth 100000 in
theorem dL_law_k85 : (decode cL_law 810 = .ok (.iload_n 3, 1)) ∧ (decode cL_law 811 = .ok (.iconst 2, 1)) ∧ (decode cL_law 812 = .ok (.iadd, 1)) ∧ (decode cL_law 813 = .ok (.iaload, 1)) ∧ (decode cL_law 814 = .ok (.invokevirtual 109, 3)) ∧ (decode cL_law 817 = .ok (.pop, 1)) := by decide +kernel
theorem dL_law_810 : decode cL_law 810 = .ok (.iload_n 3, 1) := dL_law_k85.1
theorem dL_law_811 : decode cL_law 811 = .ok (.iconst 2, 1) := dL_law_k85.2.1
theorem dL_law_812 : decode cL_law 812 = .ok (.iadd, 1) := dL_law_k85.2.2.1
theorem dL_law_813 : decode cL_law 813 = .ok (.iaload, 1) := dL_law_k85.2.2.2.1
theorem dL_law_814 : decode cL_law 814 = .ok (.invokevirtual 109, 3) := dL_law_k85.2.2.2.2.1
theorem dL_law_817 : decode cL_law 817 = .ok (.pop, 1) := dL_law_k85.2.2.2.2.2
set_option maxRecDepth 100000 in
theorem dL_law_k86 : (decode cL_law 818 = .ok (.aload_n 2, 1)) ∧ (decode cL_law 819 = .ok (.aload_n 0, 1)) ∧ (decode cL_law 820 = .ok (.iload_n 3, 1)) ∧ (decode cL_law 821 = .ok (.iconst 1, 1)) ∧ (decode cL_law 822 = .ok (.iadd, 1)) ∧ (decode cL_law 823 = .ok (.iaload, 1)) := by decide +kernel
theorem dL_law_818 : decode cL_law 818 = .ok (.aload_n 2, 1) := dL_law_k86.1
theorem dL_law_819 : decode cL_law 819 = .ok (.aload_n 0, 1) := dL_law_k86.2.1
theorem dL_law_820 : decode cL_law 820 = .ok (.iload_n 3, 1) := dL_law_k86.2.2.1
theorem dL_law_821 : decode cL_law 821 = .ok (.iconst 1, 1) := dL_law_k86.2.2.2.1
theorem dL_law_822 : decode cL_law 822 = .ok (.iadd, 1) := dL_law_k86.2.2.2.2.1
theorem dL_law_823 : decode cL_law 823 = .ok (.iaload, 1) := dL_law_k86.2.2.2.2.2
set_option maxRecDepth 100000 in
theorem dL_law_k87 : (decode cL_law 824 = .ok (.aload_n 0, 1)) ∧ (decode cL_law 825 = .ok (.iload_n 3, 1)) ∧ (decode cL_law 826 = .ok (.iconst 2, 1)) ∧ (decode cL_law 827 = .ok (.iadd, 1)) ∧ (decode cL_law 828 = .ok (.iaload, 1)) ∧ (decode cL_law 829 = .ok (.invokevirtual 112, 3)) := by decide +kernel
theorem dL_law_824 : decode cL_law 824 = .ok (.aload_n 0, 1) := dL_law_k87.1
theorem dL_law_825 : decode cL_law 825 = .ok (.iload_n 3, 1) := dL_law_k87.2.1
theorem dL_law_826 : decode cL_law 826 = .ok (.iconst 2, 1) := dL_law_k87.2.2.1
theorem dL_law_827 : decode cL_law 827 = .ok (.iadd, 1) := dL_law_k87.2.2.2.1
theorem dL_law_828 : decode cL_law 828 = .ok (.iaload, 1) := dL_law_k87.2.2.2.2.1
theorem dL_law_829 : decode cL_law 829 = .ok (.invokevirtual 112, 3) := dL_law_k87.2.2.2.2.2
set_option maxRecDepth 100000 in
theorem dL_law_k88 : (decode cL_law 832 = .ok (.pop, 1)) ∧ (decode cL_law 833 = .ok (.goto 353, 3)) ∧ (decode cL_law 836 = .ok (.aload_n 1, 1)) ∧ (decode cL_law 837 = .ok (.aload_n 0, 1)) ∧ (decode cL_law 838 = .ok (.iload_n 3, 1)) ∧ (decode cL_law 839 = .ok (.iconst 1, 1)) := by decide +kernel
theorem dL_law_832 : decode cL_law 832 = .ok (.pop, 1) := dL_law_k88.1
theorem dL_law_833 : decode cL_law 833 = .ok (.goto 353, 3) := dL_law_k88.2.1
theorem dL_law_836 : decode cL_law 836 = .ok (.aload_n 1, 1) := dL_law_k88.2.2.1
theorem dL_law_837 : decode cL_law 837 = .ok (.aload_n 0, 1) := dL_law_k88.2.2.2.1
theorem dL_law_838 : decode cL_law 838 = .ok (.iload_n 3, 1) := dL_law_k88.2.2.2.2.1
theorem dL_law_839 : decode cL_law 839 = .ok (.iconst 1, 1) := dL_law_k88.2.2.2.2.2
set_option maxRecDepth 100000 in
theorem dL_law_k89 : (decode cL_law 840 = .ok (.iadd, 1)) ∧ (decode cL_law 841 = .ok (.iaload, 1)) ∧ (decode cL_law 842 = .ok (.aload_n 0, 1)) ∧ (decode cL_law 843 = .ok (.iload_n 3, 1)) ∧ (decode cL_law 844 = .ok (.iconst 2, 1)) ∧ (decode cL_law 845 = .ok (.iadd, 1)) := by decide +kernel
theorem dL_law_840 : decode cL_law 840 = .ok (.iadd, 1) := dL_law_k89.1
theorem dL_law_841 : decode cL_law 841 = .ok (.iaload, 1) := dL_law_k89.2.1
theorem dL_law_842 : decode cL_law 842 = .ok (.aload_n 0, 1) := dL_law_k89.2.2.1
theorem dL_law_843 : decode cL_law 843 = .ok (.iload_n 3, 1) := dL_law_k89.2.2.2.1
theorem dL_law_844 : decode cL_law 844 = .ok (.iconst 2, 1) := dL_law_k89.2.2.2.2.1
theorem dL_law_845 : decode cL_law 845 = .ok (.iadd, 1) := dL_law_k89.2.2.2.2.2
set_option maxRecDepth 100000 in
theorem dL_law_k90 : (decode cL_law 846 = .ok (.iaload, 1)) ∧ (decode cL_law 847 = .ok (.aload_n 0, 1)) ∧ (decode cL_law 848 = .ok (.iload_n 3, 1)) ∧ (decode cL_law 849 = .ok (.iconst 3, 1)) ∧ (decode cL_law 850 = .ok (.iadd, 1)) ∧ (decode cL_law 851 = .ok (.iaload, 1)) := by decide +kernel
theorem dL_law_846 : decode cL_law 846 = .ok (.iaload, 1) := dL_law_k90.1
theorem dL_law_847 : decode cL_law 847 = .ok (.aload_n 0, 1) := dL_law_k90.2.1
theorem dL_law_848 : decode cL_law 848 = .ok (.iload_n 3, 1) := dL_law_k90.2.2.1
theorem dL_law_849 : decode cL_law 849 = .ok (.iconst 3, 1) := dL_law_k90.2.2.2.1
theorem dL_law_850 : decode cL_law 850 = .ok (.iadd, 1) := dL_law_k90.2.2.2.2.1
theorem dL_law_851 : decode cL_law 851 = .ok (.iaload, 1) := dL_law_k90.2.2.2.2.2
set_option maxRecDepth 100000 in
theorem dL_law_k91 : (decode cL_law 852 = .ok (.aload_n 0, 1)) ∧ (decode cL_law 853 = .ok (.iload_n 3, 1)) ∧ (decode cL_law 854 = .ok (.iconst 4, 1)) ∧ (decode cL_law 855 = .ok (.iadd, 1)) ∧ (decode cL_law 856 = .ok (.iaload, 1)) ∧ (decode cL_law 857 = .ok (.invokevirtual 113, 3)) := by decide +kernel
theorem dL_law_852 : decode cL_law 852 = .ok (.aload_n 0, 1) := dL_law_k91.1
theorem dL_law_853 : decode cL_law 853 = .ok (.iload_n 3, 1) := dL_law_k91.2.1
theorem dL_law_854 : decode cL_law 854 = .ok (.iconst 4, 1) := dL_law_k91.2.2.1
theorem dL_law_855 : decode cL_law 855 = .ok (.iadd, 1) := dL_law_k91.2.2.2.1
theorem dL_law_856 : decode cL_law 856 = .ok (.iaload, 1) := dL_law_k91.2.2.2.2.1
theorem dL_law_857 : decode cL_law 857 = .ok (.invokevirtual 113, 3) := dL_law_k91.2.2.2.2.2
set_option maxRecDepth 100000 in
theorem dL_law_k92 : (decode cL_law 860 = .ok (.pop, 1)) ∧ (decode cL_law 861 = .ok (.aload_n 2, 1)) ∧ (decode cL_law 862 = .ok (.aload_n 0, 1)) ∧ (decode cL_law 863 = .ok (.iload_n 3, 1)) ∧ (decode cL_law 864 = .ok (.iconst 1, 1)) ∧ (decode cL_law 865 = .ok (.iadd, 1)) := by decide +kernel
theorem dL_law_860 : decode cL_law 860 = .ok (.pop, 1) := dL_law_k92.1
theorem dL_law_861 : decode cL_law 861 = .ok (.aload_n 2, 1) := dL_law_k92.2.1
theorem dL_law_862 : decode cL_law 862 = .ok (.aload_n 0, 1) := dL_law_k92.2.2.1
theorem dL_law_863 : decode cL_law 863 = .ok (.iload_n 3, 1) := dL_law_k92.2.2.2.1
theorem dL_law_864 : decode cL_law 864 = .ok (.iconst 1, 1) := dL_law_k92.2.2.2.2.1
theorem dL_law_865 : decode cL_law 865 = .ok (.iadd, 1) := dL_law_k92.2.2.2.2.2
set_option maxRecDepth 100000 in
theorem dL_law_k93 : (decode cL_law 866 = .ok (.iaload, 1)) ∧ (decode cL_law 867 = .ok (.aload_n 0, 1)) ∧ (decode cL_law 868 = .ok (.iload_n 3, 1)) ∧ (decode cL_law 869 = .ok (.iconst 2, 1)) ∧ (decode cL_law 870 = .ok (.iadd, 1)) ∧ (decode cL_law 871 = .ok (.iaload, 1)) := by decide +kernel
theorem dL_law_866 : decode cL_law 866 = .ok (.iaload, 1) := dL_law_k93.1
theorem dL_law_867 : decode cL_law 867 = .ok (.aload_n 0, 1) := dL_law_k93.2.1
theorem dL_law_868 : decode cL_law 868 = .ok (.iload_n 3, 1) := dL_law_k93.2.2.1
theorem dL_law_869 : decode cL_law 869 = .ok (.iconst 2, 1) := dL_law_k93.2.2.2.1
theorem dL_law_870 : decode cL_law 870 = .ok (.iadd, 1) := dL_law_k93.2.2.2.2.1
theorem dL_law_871 : decode cL_law 871 = .ok (.iaload, 1) := dL_law_k93.2.2.2.2.2
set_option maxRecDepth 100000 in
theorem dL_law_k94 : (decode cL_law 872 = .ok (.aload_n 0, 1)) ∧ (decode cL_law 873 = .ok (.iload_n 3, 1)) ∧ (decode cL_law 874 = .ok (.iconst 3, 1)) ∧ (decode cL_law 875 = .ok (.iadd, 1)) ∧ (decode cL_law 876 = .ok (.iaload, 1)) ∧ (decode cL_law 877 = .ok (.aload_n 0, 1)) := by decide +kernel
theorem dL_law_872 : decode cL_law 872 = .ok (.aload_n 0, 1) := dL_law_k94.1
theorem dL_law_873 : decode cL_law 873 = .ok (.iload_n 3, 1) := dL_law_k94.2.1
theorem dL_law_874 : decode cL_law 874 = .ok (.iconst 3, 1) := dL_law_k94.2.2.1
theorem dL_law_875 : decode cL_law 875 = .ok (.iadd, 1) := dL_law_k94.2.2.2.1
theorem dL_law_876 : decode cL_law 876 = .ok (.iaload, 1) := dL_law_k94.2.2.2.2.1
theorem dL_law_877 : decode cL_law 877 = .ok (.aload_n 0, 1) := dL_law_k94.2.2.2.2.2
set_option maxRecDepth 100000 in
theorem dL_law_k95 : (decode cL_law 878 = .ok (.iload_n 3, 1)) ∧ (decode cL_law 879 = .ok (.iconst 4, 1)) ∧ (decode cL_law 880 = .ok (.iadd, 1)) ∧ (decode cL_law 881 = .ok (.iaload, 1)) ∧ (decode cL_law 882 = .ok (.invokevirtual 117, 3)) ∧ (decode cL_law 885 = .ok (.pop, 1)) := by decide +kernel
theorem dL_law_878 : decode cL_law 878 = .ok (.iload_n 3, 1) := dL_law_k95.1
theorem dL_law_879 : decode cL_law 879 = .ok (.iconst 4, 1) := dL_law_k95.2.1
theorem dL_law_880 : decode cL_law 880 = .ok (.iadd, 1) := dL_law_k95.2.2.1
theorem dL_law_881 : decode cL_law 881 = .ok (.iaload, 1) := dL_law_k95.2.2.2.1
theorem dL_law_882 : decode cL_law 882 = .ok (.invokevirtual 117, 3) := dL_law_k95.2.2.2.2.1
theorem dL_law_885 : decode cL_law 885 = .ok (.pop, 1) := dL_law_k95.2.2.2.2.2
set_option maxRecDepth 100000 in
theorem dL_law_k96 : (decode cL_law 886 = .ok (.goto 300, 3)) ∧ (decode cL_law 889 = .ok (.aload_n 1, 1)) ∧ (decode cL_law 890 = .ok (.aload_n 0, 1)) ∧ (decode cL_law 891 = .ok (.iload_n 3, 1)) ∧ (decode cL_law 892 = .ok (.iconst 1, 1)) ∧ (decode cL_law 893 = .ok (.iadd, 1)) := by decide +kernel
theorem dL_law_886 : decode cL_law 886 = .ok (.goto 300, 3) := dL_law_k96.1
theorem dL_law_889 : decode cL_law 889 = .ok (.aload_n 1, 1) := dL_law_k96.2.1
theorem dL_law_890 : decode cL_law 890 = .ok (.aload_n 0, 1) := dL_law_k96.2.2.1
theorem dL_law_891 : decode cL_law 891 = .ok (.iload_n 3, 1) := dL_law_k96.2.2.2.1
theorem dL_law_892 : decode cL_law 892 = .ok (.iconst 1, 1) := dL_law_k96.2.2.2.2.1
theorem dL_law_893 : decode cL_law 893 = .ok (.iadd, 1) := dL_law_k96.2.2.2.2.2
set_option maxRecDepth 100000 in
theorem dL_law_k97 : (decode cL_law 894 = .ok (.iaload, 1)) ∧ (decode cL_law 895 = .ok (.aload_n 0, 1)) ∧ (decode cL_law 896 = .ok (.iload_n 3, 1)) ∧ (decode cL_law 897 = .ok (.iconst 2, 1)) ∧ (decode cL_law 898 = .ok (.iadd, 1)) ∧ (decode cL_law 899 = .ok (.iaload, 1)) := by decide +kernel
theorem dL_law_894 : decode cL_law 894 = .ok (.iaload, 1) := dL_law_k97.1
theorem dL_law_895 : decode cL_law 895 = .ok (.aload_n 0, 1) := dL_law_k97.2.1
theorem dL_law_896 : decode cL_law 896 = .ok (.iload_n 3, 1) := dL_law_k97.2.2.1
theorem dL_law_897 : decode cL_law 897 = .ok (.iconst 2, 1) := dL_law_k97.2.2.2.1
theorem dL_law_898 : decode cL_law 898 = .ok (.iadd, 1) := dL_law_k97.2.2.2.2.1
theorem dL_law_899 : decode cL_law 899 = .ok (.iaload, 1) := dL_law_k97.2.2.2.2.2
set_option maxRecDepth 100000 in
theorem dL_law_k98 : (decode cL_law 900 = .ok (.aload_n 0, 1)) ∧ (decode cL_law 901 = .ok (.iload_n 3, 1)) ∧ (decode cL_law 902 = .ok (.iconst 3, 1)) ∧ (decode cL_law 903 = .ok (.iadd, 1)) ∧ (decode cL_law 904 = .ok (.iaload, 1)) ∧ (decode cL_law 905 = .ok (.invokevirtual 118, 3)) := by decide +kernel
theorem dL_law_900 : decode cL_law 900 = .ok (.aload_n 0, 1) := dL_law_k98.1
theorem dL_law_901 : decode cL_law 901 = .ok (.iload_n 3, 1) := dL_law_k98.2.1
theorem dL_law_902 : decode cL_law 902 = .ok (.iconst 3, 1) := dL_law_k98.2.2.1
theorem dL_law_903 : decode cL_law 903 = .ok (.iadd, 1) := dL_law_k98.2.2.2.1
theorem dL_law_904 : decode cL_law 904 = .ok (.iaload, 1) := dL_law_k98.2.2.2.2.1
theorem dL_law_905 : decode cL_law 905 = .ok (.invokevirtual 118, 3) := dL_law_k98.2.2.2.2.2
set_option maxRecDepth 100000 in
theorem dL_law_k99 : (decode cL_law 908 = .ok (.pop, 1)) ∧ (decode cL_law 909 = .ok (.aload_n 2, 1)) ∧ (decode cL_law 910 = .ok (.aload_n 0, 1)) ∧ (decode cL_law 911 = .ok (.iload_n 3, 1)) ∧ (decode cL_law 912 = .ok (.iconst 1, 1)) ∧ (decode cL_law 913 = .ok (.iadd, 1)) := by decide +kernel
theorem dL_law_908 : decode cL_law 908 = .ok (.pop, 1) := dL_law_k99.1
theorem dL_law_909 : decode cL_law 909 = .ok (.aload_n 2, 1) := dL_law_k99.2.1
theorem dL_law_910 : decode cL_law 910 = .ok (.aload_n 0, 1) := dL_law_k99.2.2.1
theorem dL_law_911 : decode cL_law 911 = .ok (.iload_n 3, 1) := dL_law_k99.2.2.2.1
theorem dL_law_912 : decode cL_law 912 = .ok (.iconst 1, 1) := dL_law_k99.2.2.2.2.1
theorem dL_law_913 : decode cL_law 913 = .ok (.iadd, 1) := dL_law_k99.2.2.2.2.2
set_option maxRecDepth 100000 in
theorem dL_law_k100 : (decode cL_law 914 = .ok (.iaload, 1)) ∧ (decode cL_law 915 = .ok (.aload_n 0, 1)) ∧ (decode cL_law 916 = .ok (.iload_n 3, 1)) ∧ (decode cL_law 917 = .ok (.iconst 2, 1)) ∧ (decode cL_law 918 = .ok (.iadd, 1)) ∧ (decode cL_law 919 = .ok (.iaload, 1)) := by decide +kernel
theorem dL_law_914 : decode cL_law 914 = .ok (.iaload, 1) := dL_law_k100.1
theorem dL_law_915 : decode cL_law 915 = .ok (.aload_n 0, 1) := dL_law_k100.2.1
theorem dL_law_916 : decode cL_law 916 = .ok (.iload_n 3, 1) := dL_law_k100.2.2.1
theorem dL_law_917 : decode cL_law 917 = .ok (.iconst 2, 1) := dL_law_k100.2.2.2.1
theorem dL_law_918 : decode cL_law 918 = .ok (.iadd, 1) := dL_law_k100.2.2.2.2.1
theorem dL_law_919 : decode cL_law 919 = .ok (.iaload, 1) := dL_law_k100.2.2.2.2.2
set_option maxRecDepth 100000 in
theorem dL_law_k101 : (decode cL_law 920 = .ok (.aload_n 0, 1)) ∧ (decode cL_law 921 = .ok (.iload_n 3, 1)) ∧ (decode cL_law 922 = .ok (.iconst 3, 1)) ∧ (decode cL_law 923 = .ok (.iadd, 1)) ∧ (decode cL_law 924 = .ok (.iaload, 1)) ∧ (decode cL_law 925 = .ok (.invokevirtual 121, 3)) := by decide +kernel
theorem dL_law_920 : decode cL_law 920 = .ok (.aload_n 0, 1) := dL_law_k101.1
theorem dL_law_921 : decode cL_law 921 = .ok (.iload_n 3, 1) := dL_law_k101.2.1
theorem dL_law_922 : decode cL_law 922 = .ok (.iconst 3, 1) := dL_law_k101.2.2.1
theorem dL_law_923 : decode cL_law 923 = .ok (.iadd, 1) := dL_law_k101.2.2.2.1
theorem dL_law_924 : decode cL_law 924 = .ok (.iaload, 1) := dL_law_k101.2.2.2.2.1
theorem dL_law_925 : decode cL_law 925 = .ok (.invokevirtual 121, 3) := dL_law_k101.2.2.2.2.2
set_option maxRecDepth 100000 in
theorem dL_law_k102 : (decode cL_law 928 = .ok (.pop, 1)) ∧ (decode cL_law 929 = .ok (.goto 257, 3)) ∧ (decode cL_law 932 = .ok (.aload_n 1, 1)) ∧ (decode cL_law 933 = .ok (.aload_n 0, 1)) ∧ (decode cL_law 934 = .ok (.iload_n 3, 1)) ∧ (decode cL_law 935 = .ok (.iconst 1, 1)) := by decide +kernel
theorem dL_law_928 : decode cL_law 928 = .ok (.pop, 1) := dL_law_k102.1
theorem dL_law_929 : decode cL_law 929 = .ok (.goto 257, 3) := dL_law_k102.2.1
theorem dL_law_932 : decode cL_law 932 = .ok (.aload_n 1, 1) := dL_law_k102.2.2.1
theorem dL_law_933 : decode cL_law 933 = .ok (.aload_n 0, 1) := dL_law_k102.2.2.2.1
theorem dL_law_934 : decode cL_law 934 = .ok (.iload_n 3, 1) := dL_law_k102.2.2.2.2.1
theorem dL_law_935 : decode cL_law 935 = .ok (.iconst 1, 1) := dL_law_k102.2.2.2.2.2
set_option maxRecDepth 100000 in
theorem dL_law_k103 : (decode cL_law 936 = .ok (.iadd, 1)) ∧ (decode cL_law 937 = .ok (.iaload, 1)) ∧ (decode cL_law 938 = .ok (.aload_n 0, 1)) ∧ (decode cL_law 939 = .ok (.iload_n 3, 1)) ∧ (decode cL_law 940 = .ok (.iconst 2, 1)) ∧ (decode cL_law 941 = .ok (.iadd, 1)) := by decide +kernel
theorem dL_law_936 : decode cL_law 936 = .ok (.iadd, 1) := dL_law_k103.1
theorem dL_law_937 : decode cL_law 937 = .ok (.iaload, 1) := dL_law_k103.2.1
theorem dL_law_938 : decode cL_law 938 = .ok (.aload_n 0, 1) := dL_law_k103.2.2.1
theorem dL_law_939 : decode cL_law 939 = .ok (.iload_n 3, 1) := dL_law_k103.2.2.2.1
theorem dL_law_940 : decode cL_law 940 = .ok (.iconst 2, 1) := dL_law_k103.2.2.2.2.1
theorem dL_law_941 : decode cL_law 941 = .ok (.iadd, 1) := dL_law_k103.2.2.2.2.2
set_option maxRecDepth 100000 in
theorem dL_law_k104 : (decode cL_law 942 = .ok (.iaload, 1)) ∧ (decode cL_law 943 = .ok (.invokevirtual 122, 3)) ∧ (decode cL_law 946 = .ok (.pop, 1)) ∧ (decode cL_law 947 = .ok (.aload_n 2, 1)) ∧ (decode cL_law 948 = .ok (.aload_n 0, 1)) ∧ (decode cL_law 949 = .ok (.iload_n 3, 1)) := by decide +kernel
theorem dL_law_942 : decode cL_law 942 = .ok (.iaload, 1) := dL_law_k104.1
theorem dL_law_943 : decode cL_law 943 = .ok (.invokevirtual 122, 3) := dL_law_k104.2.1
theorem dL_law_946 : decode cL_law 946 = .ok (.pop, 1) := dL_law_k104.2.2.1
theorem dL_law_947 : decode cL_law 947 = .ok (.aload_n 2, 1) := dL_law_k104.2.2.2.1
theorem dL_law_948 : decode cL_law 948 = .ok (.aload_n 0, 1) := dL_law_k104.2.2.2.2.1
theorem dL_law_949 : decode cL_law 949 = .ok (.iload_n 3, 1) := dL_law_k104.2.2.2.2.2
set_option maxRecDepth 100000 in
theorem dL_law_k105 : (decode cL_law 950 = .ok (.iconst 1, 1)) ∧ (decode cL_law 951 = .ok (.iadd, 1)) ∧ (decode cL_law 952 = .ok (.iaload, 1)) ∧ (decode cL_law 953 = .ok (.aload_n 0, 1)) ∧ (decode cL_law 954 = .ok (.iload_n 3, 1)) ∧ (decode cL_law 955 = .ok (.iconst 2, 1)) := by decide +kernel
theorem dL_law_950 : decode cL_law 950 = .ok (.iconst 1, 1) := dL_law_k105.1
theorem dL_law_951 : decode cL_law 951 = .ok (.iadd, 1) := dL_law_k105.2.1
theorem dL_law_952 : decode cL_law 952 = .ok (.iaload, 1) := dL_law_k105.2.2.1
theorem dL_law_953 : decode cL_law 953 = .ok (.aload_n 0, 1) := dL_law_k105.2.2.2.1
theorem dL_law_954 : decode cL_law 954 = .ok (.iload_n 3, 1) := dL_law_k105.2.2.2.2.1
theorem dL_law_955 : decode cL_law 955 = .ok (.iconst 2, 1) := dL_law_k105.2.2.2.2.2
set_option maxRecDepth 100000 in
theorem dL_law_k106 : (decode cL_law 956 = .ok (.iadd, 1)) ∧ (decode cL_law 957 = .ok (.iaload, 1)) ∧ (decode cL_law 958 = .ok (.invokevirtual 125, 3)) ∧ (decode cL_law 961 = .ok (.pop, 1)) ∧ (decode cL_law 962 = .ok (.goto 224, 3)) ∧ (decode cL_law 965 = .ok (.aload_n 1, 1)) := by decide +kernel
theorem dL_law_956 : decode cL_law 956 = .ok (.iadd, 1) := dL_law_k106.1
theorem dL_law_957 : decode cL_law 957 = .ok (.iaload, 1) := dL_law_k106.2.1
theorem dL_law_958 : decode cL_law 958 = .ok (.invokevirtual 125, 3) := dL_law_k106.2.2.1
theorem dL_law_961 : decode cL_law 961 = .ok (.pop, 1) := dL_law_k106.2.2.2.1
theorem dL_law_962 : decode cL_law 962 = .ok (.goto 224, 3) := dL_law_k106.2.2.2.2.1
theorem dL_law_965 : decode cL_law 965 = .ok (.aload_n 1, 1) := dL_law_k106.2.2.2.2.2
set_option maxRecDepth 100000 in
theorem dL_law_k107 : (decode cL_law 966 = .ok (.invokevirtual 126, 3)) ∧ (decode cL_law 969 = .ok (.pop, 1)) ∧ (decode cL_law 970 = .ok (.aload_n 2, 1)) ∧ (decode cL_law 971 = .ok (.invokevirtual 129, 3)) ∧ (decode cL_law 974 = .ok (.pop, 1)) ∧ (decode cL_law 975 = .ok (.goto 211, 3)) := by decide +kernel
theorem dL_law_966 : decode cL_law 966 = .ok (.invokevirtual 126, 3) := dL_law_k107.1
theorem dL_law_969 : decode cL_law 969 = .ok (.pop, 1) := dL_law_k107.2.1
theorem dL_law_970 : decode cL_law 970 = .ok (.aload_n 2, 1) := dL_law_k107.2.2.1
theorem dL_law_971 : decode cL_law 971 = .ok (.invokevirtual 129, 3) := dL_law_k107.2.2.2.1
theorem dL_law_974 : decode cL_law 974 = .ok (.pop, 1) := dL_law_k107.2.2.2.2.1
theorem dL_law_975 : decode cL_law 975 = .ok (.goto 211, 3) := dL_law_k107.2.2.2.2.2
set_option maxRecDepth 100000 in
theorem dL_law_k108 : (decode cL_law 978 = .ok (.aload_n 1, 1)) ∧ (decode cL_law 979 = .ok (.aload_n 0, 1)) ∧ (decode cL_law 980 = .ok (.iload_n 3, 1)) ∧ (decode cL_law 981 = .ok (.iconst 1, 1)) ∧ (decode cL_law 982 = .ok (.iadd, 1)) ∧ (decode cL_law 983 = .ok (.iaload, 1)) := by decide +kernel
theorem dL_law_978 : decode cL_law 978 = .ok (.aload_n 1, 1) := dL_law_k108.1
theorem dL_law_979 : decode cL_law 979 = .ok (.aload_n 0, 1) := dL_law_k108.2.1
theorem dL_law_980 : decode cL_law 980 = .ok (.iload_n 3, 1) := dL_law_k108.2.2.1
theorem dL_law_981 : decode cL_law 981 = .ok (.iconst 1, 1) := dL_law_k108.2.2.2.1
theorem dL_law_982 : decode cL_law 982 = .ok (.iadd, 1) := dL_law_k108.2.2.2.2.1
theorem dL_law_983 : decode cL_law 983 = .ok (.iaload, 1) := dL_law_k108.2.2.2.2.2
set_option maxRecDepth 100000 in
theorem dL_law_k109 : (decode cL_law 984 = .ok (.aload_n 0, 1)) ∧ (decode cL_law 985 = .ok (.iload_n 3, 1)) ∧ (decode cL_law 986 = .ok (.iconst 2, 1)) ∧ (decode cL_law 987 = .ok (.iadd, 1)) ∧ (decode cL_law 988 = .ok (.iaload, 1)) ∧ (decode cL_law 989 = .ok (.invokevirtual 130, 3)) := by decide +kernel
theorem dL_law_984 : decode cL_law 984 = .ok (.aload_n 0, 1) := dL_law_k109.1
theorem dL_law_985 : decode cL_law 985 = .ok (.iload_n 3, 1) := dL_law_k109.2.1
theorem dL_law_986 : decode cL_law 986 = .ok (.iconst 2, 1) := dL_law_k109.2.2.1
theorem dL_law_987 : decode cL_law 987 = .ok (.iadd, 1) := dL_law_k109.2.2.2.1
theorem dL_law_988 : decode cL_law 988 = .ok (.iaload, 1) := dL_law_k109.2.2.2.2.1
theorem dL_law_989 : decode cL_law 989 = .ok (.invokevirtual 130, 3) := dL_law_k109.2.2.2.2.2
set_option maxRecDepth 100000 in
theorem dL_law_k110 : (decode cL_law 992 = .ok (.pop, 1)) ∧ (decode cL_law 993 = .ok (.aload_n 2, 1)) ∧ (decode cL_law 994 = .ok (.aload_n 0, 1)) ∧ (decode cL_law 995 = .ok (.iload_n 3, 1)) ∧ (decode cL_law 996 = .ok (.iconst 1, 1)) ∧ (decode cL_law 997 = .ok (.iadd, 1)) := by decide +kernel
theorem dL_law_992 : decode cL_law 992 = .ok (.pop, 1) := dL_law_k110.1
theorem dL_law_993 : decode cL_law 993 = .ok (.aload_n 2, 1) := dL_law_k110.2.1
theorem dL_law_994 : decode cL_law 994 = .ok (.aload_n 0, 1) := dL_law_k110.2.2.1
theorem dL_law_995 : decode cL_law 995 = .ok (.iload_n 3, 1) := dL_law_k110.2.2.2.1
theorem dL_law_996 : decode cL_law 996 = .ok (.iconst 1, 1) := dL_law_k110.2.2.2.2.1
theorem dL_law_997 : decode cL_law 997 = .ok (.iadd, 1) := dL_law_k110.2.2.2.2.2
set_option maxRecDepth 100000 in
theorem dL_law_k111 : (decode cL_law 998 = .ok (.iaload, 1)) ∧ (decode cL_law 999 = .ok (.aload_n 0, 1)) ∧ (decode cL_law 1000 = .ok (.iload_n 3, 1)) ∧ (decode cL_law 1001 = .ok (.iconst 2, 1)) ∧ (decode cL_law 1002 = .ok (.iadd, 1)) ∧ (decode cL_law 1003 = .ok (.iaload, 1)) := by decide +kernel
theorem dL_law_998 : decode cL_law 998 = .ok (.iaload, 1) := dL_law_k111.1
theorem dL_law_999 : decode cL_law 999 = .ok (.aload_n 0, 1) := dL_law_k111.2.1
theorem dL_law_1000 : decode cL_law 1000 = .ok (.iload_n 3, 1) := dL_law_k111.2.2.1
theorem dL_law_1001 : decode cL_law 1001 = .ok (.iconst 2, 1) := dL_law_k111.2.2.2.1
theorem dL_law_1002 : decode cL_law 1002 = .ok (.iadd, 1) := dL_law_k111.2.2.2.2.1
theorem dL_law_1003 : decode cL_law 1003 = .ok (.iaload, 1) := dL_law_k111.2.2.2.2.2
set_option maxRecDepth 100000 in
theorem dL_law_k112 : (decode cL_law 1004 = .ok (.invokevirtual 133, 3)) ∧ (decode cL_law 1007 = .ok (.pop, 1)) ∧ (decode cL_law 1008 = .ok (.goto 178, 3)) ∧ (decode cL_law 1011 = .ok (.aload_n 1, 1)) ∧ (decode cL_law 1012 = .ok (.aload_n 0, 1)) ∧ (decode cL_law 1013 = .ok (.iload_n 3, 1)) := by decide +kernel
theorem dL_law_1004 : decode cL_law 1004 = .ok (.invokevirtual 133, 3) := dL_law_k112.1
theorem dL_law_1007 : decode cL_law 1007 = .ok (.pop, 1) := dL_law_k112.2.1
theorem dL_law_1008 : decode cL_law 1008 = .ok (.goto 178, 3) := dL_law_k112.2.2.1
theorem dL_law_1011 : decode cL_law 1011 = .ok (.aload_n 1, 1) := dL_law_k112.2.2.2.1
theorem dL_law_1012 : decode cL_law 1012 = .ok (.aload_n 0, 1) := dL_law_k112.2.2.2.2.1
theorem dL_law_1013 : decode cL_law 1013 = .ok (.iload_n 3, 1) := dL_law_k112.2.2.2.2.2
set_option maxRecDepth 100000 in
theorem dL_law_k113 : (decode cL_law 1014 = .ok (.iconst 1, 1)) ∧ (decode cL_law 1015 = .ok (.iadd, 1)) ∧ (decode cL_law 1016 = .ok (.iaload, 1)) ∧ (decode cL_law 1017 = .ok (.aload_n 0, 1)) ∧ (decode cL_law 1018 = .ok (.iload_n 3, 1)) ∧ (decode cL_law 1019 = .ok (.iconst 2, 1)) := by decide +kernel
theorem dL_law_1014 : decode cL_law 1014 = .ok (.iconst 1, 1) := dL_law_k113.1
theorem dL_law_1015 : decode cL_law 1015 = .ok (.iadd, 1) := dL_law_k113.2.1
theorem dL_law_1016 : decode cL_law 1016 = .ok (.iaload, 1) := dL_law_k113.2.2.1
theorem dL_law_1017 : decode cL_law 1017 = .ok (.aload_n 0, 1) := dL_law_k113.2.2.2.1
theorem dL_law_1018 : decode cL_law 1018 = .ok (.iload_n 3, 1) := dL_law_k113.2.2.2.2.1
theorem dL_law_1019 : decode cL_law 1019 = .ok (.iconst 2, 1) := dL_law_k113.2.2.2.2.2
set_option maxRecDepth 100000 in
theorem dL_law_k114 : (decode cL_law 1020 = .ok (.iadd, 1)) ∧ (decode cL_law 1021 = .ok (.iaload, 1)) ∧ (decode cL_law 1022 = .ok (.aload_n 0, 1)) ∧ (decode cL_law 1023 = .ok (.iload_n 3, 1)) ∧ (decode cL_law 1024 = .ok (.iconst 3, 1)) ∧ (decode cL_law 1025 = .ok (.iadd, 1)) := by decide +kernel
theorem dL_law_1020 : decode cL_law 1020 = .ok (.iadd, 1) := dL_law_k114.1
theorem dL_law_1021 : decode cL_law 1021 = .ok (.iaload, 1) := dL_law_k114.2.1
theorem dL_law_1022 : decode cL_law 1022 = .ok (.aload_n 0, 1) := dL_law_k114.2.2.1
theorem dL_law_1023 : decode cL_law 1023 = .ok (.iload_n 3, 1) := dL_law_k114.2.2.2.1
theorem dL_law_1024 : decode cL_law 1024 = .ok (.iconst 3, 1) := dL_law_k114.2.2.2.2.1
theorem dL_law_1025 : decode cL_law 1025 = .ok (.iadd, 1) := dL_law_k114.2.2.2.2.2
set_option maxRecDepth 100000 in
theorem dL_law_k115 : (decode cL_law 1026 = .ok (.iaload, 1)) ∧ (decode cL_law 1027 = .ok (.aload_n 0, 1)) ∧ (decode cL_law 1028 = .ok (.iload_n 3, 1)) ∧ (decode cL_law 1029 = .ok (.iconst 4, 1)) ∧ (decode cL_law 1030 = .ok (.iadd, 1)) ∧ (decode cL_law 1031 = .ok (.iaload, 1)) := by decide +kernel
theorem dL_law_1026 : decode cL_law 1026 = .ok (.iaload, 1) := dL_law_k115.1
theorem dL_law_1027 : decode cL_law 1027 = .ok (.aload_n 0, 1) := dL_law_k115.2.1
theorem dL_law_1028 : decode cL_law 1028 = .ok (.iload_n 3, 1) := dL_law_k115.2.2.1
theorem dL_law_1029 : decode cL_law 1029 = .ok (.iconst 4, 1) := dL_law_k115.2.2.2.1
theorem dL_law_1030 : decode cL_law 1030 = .ok (.iadd, 1) := dL_law_k115.2.2.2.2.1
theorem dL_law_1031 : decode cL_law 1031 = .ok (.iaload, 1) := dL_law_k115.2.2.2.2.2
set_option maxRecDepth 100000 in
theorem dL_law_k116 : (decode cL_law 1032 = .ok (.aload_n 0, 1)) ∧ (decode cL_law 1033 = .ok (.iload_n 3, 1)) ∧ (decode cL_law 1034 = .ok (.iconst 5, 1)) ∧ (decode cL_law 1035 = .ok (.iadd, 1)) ∧ (decode cL_law 1036 = .ok (.iaload, 1)) ∧ (decode cL_law 1037 = .ok (.invokevirtual 134, 3)) := by decide +kernel
theorem dL_law_1032 : decode cL_law 1032 = .ok (.aload_n 0, 1) := dL_law_k116.1
theorem dL_law_1033 : decode cL_law 1033 = .ok (.iload_n 3, 1) := dL_law_k116.2.1
theorem dL_law_1034 : decode cL_law 1034 = .ok (.iconst 5, 1) := dL_law_k116.2.2.1
theorem dL_law_1035 : decode cL_law 1035 = .ok (.iadd, 1) := dL_law_k116.2.2.2.1
theorem dL_law_1036 : decode cL_law 1036 = .ok (.iaload, 1) := dL_law_k116.2.2.2.2.1
theorem dL_law_1037 : decode cL_law 1037 = .ok (.invokevirtual 134, 3) := dL_law_k116.2.2.2.2.2
set_option maxRecDepth 100000 in
theorem dL_law_k117 : (decode cL_law 1040 = .ok (.pop2, 1)) ∧ (decode cL_law 1041 = .ok (.aload_n 2, 1)) ∧ (decode cL_law 1042 = .ok (.aload_n 0, 1)) ∧ (decode cL_law 1043 = .ok (.iload_n 3, 1)) ∧ (decode cL_law 1044 = .ok (.iconst 1, 1)) ∧ (decode cL_law 1045 = .ok (.iadd, 1)) := by decide +kernel
theorem dL_law_1040 : decode cL_law 1040 = .ok (.pop2, 1) := dL_law_k117.1
theorem dL_law_1041 : decode cL_law 1041 = .ok (.aload_n 2, 1) := dL_law_k117.2.1
theorem dL_law_1042 : decode cL_law 1042 = .ok (.aload_n 0, 1) := dL_law_k117.2.2.1
theorem dL_law_1043 : decode cL_law 1043 = .ok (.iload_n 3, 1) := dL_law_k117.2.2.2.1
theorem dL_law_1044 : decode cL_law 1044 = .ok (.iconst 1, 1) := dL_law_k117.2.2.2.2.1
theorem dL_law_1045 : decode cL_law 1045 = .ok (.iadd, 1) := dL_law_k117.2.2.2.2.2
set_option maxRecDepth 100000 in
theorem dL_law_k118 : (decode cL_law 1046 = .ok (.iaload, 1)) ∧ (decode cL_law 1047 = .ok (.aload_n 0, 1)) ∧ (decode cL_law 1048 = .ok (.iload_n 3, 1)) ∧ (decode cL_law 1049 = .ok (.iconst 2, 1)) ∧ (decode cL_law 1050 = .ok (.iadd, 1)) ∧ (decode cL_law 1051 = .ok (.iaload, 1)) := by decide +kernel
theorem dL_law_1046 : decode cL_law 1046 = .ok (.iaload, 1) := dL_law_k118.1
theorem dL_law_1047 : decode cL_law 1047 = .ok (.aload_n 0, 1) := dL_law_k118.2.1
theorem dL_law_1048 : decode cL_law 1048 = .ok (.iload_n 3, 1) := dL_law_k118.2.2.1
theorem dL_law_1049 : decode cL_law 1049 = .ok (.iconst 2, 1) := dL_law_k118.2.2.2.1
theorem dL_law_1050 : decode cL_law 1050 = .ok (.iadd, 1) := dL_law_k118.2.2.2.2.1
theorem dL_law_1051 : decode cL_law 1051 = .ok (.iaload, 1) := dL_law_k118.2.2.2.2.2
set_option maxRecDepth 100000 in
theorem dL_law_k119 : (decode cL_law 1052 = .ok (.aload_n 0, 1)) ∧ (decode cL_law 1053 = .ok (.iload_n 3, 1)) ∧ (decode cL_law 1054 = .ok (.iconst 3, 1)) ∧ (decode cL_law 1055 = .ok (.iadd, 1)) ∧ (decode cL_law 1056 = .ok (.iaload, 1)) ∧ (decode cL_law 1057 = .ok (.aload_n 0, 1)) := by decide +kernel
theorem dL_law_1052 : decode cL_law 1052 = .ok (.aload_n 0, 1) := dL_law_k119.1
theorem dL_law_1053 : decode cL_law 1053 = .ok (.iload_n 3, 1) := dL_law_k119.2.1
theorem dL_law_1054 : decode cL_law 1054 = .ok (.iconst 3, 1) := dL_law_k119.2.2.1
theorem dL_law_1055 : decode cL_law 1055 = .ok (.iadd, 1) := dL_law_k119.2.2.2.1
theorem dL_law_1056 : decode cL_law 1056 = .ok (.iaload, 1) := dL_law_k119.2.2.2.2.1
theorem dL_law_1057 : decode cL_law 1057 = .ok (.aload_n 0, 1) := dL_law_k119.2.2.2.2.2
set_option maxRecDepth 100000 in
theorem dL_law_k120 : (decode cL_law 1058 = .ok (.iload_n 3, 1)) ∧ (decode cL_law 1059 = .ok (.iconst 4, 1)) ∧ (decode cL_law 1060 = .ok (.iadd, 1)) ∧ (decode cL_law 1061 = .ok (.iaload, 1)) ∧ (decode cL_law 1062 = .ok (.aload_n 0, 1)) ∧ (decode cL_law 1063 = .ok (.iload_n 3, 1)) := by decide +kernel
theorem dL_law_1058 : decode cL_law 1058 = .ok (.iload_n 3, 1) := dL_law_k120.1
theorem dL_law_1059 : decode cL_law 1059 = .ok (.iconst 4, 1) := dL_law_k120.2.1
theorem dL_law_1060 : decode cL_law 1060 = .ok (.iadd, 1) := dL_law_k120.2.2.1
theorem dL_law_1061 : decode cL_law 1061 = .ok (.iaload, 1) := dL_law_k120.2.2.2.1
theorem dL_law_1062 : decode cL_law 1062 = .ok (.aload_n 0, 1) := dL_law_k120.2.2.2.2.1
theorem dL_law_1063 : decode cL_law 1063 = .ok (.iload_n 3, 1) := dL_law_k120.2.2.2.2.2
set_option maxRecDepth 100000 in
theorem dL_law_k121 : (decode cL_law 1064 = .ok (.iconst 5, 1)) ∧ (decode cL_law 1065 = .ok (.iadd, 1)) ∧ (decode cL_law 1066 = .ok (.iaload, 1)) ∧ (decode cL_law 1067 = .ok (.invokevirtual 138, 3)) ∧ (decode cL_law 1070 = .ok (.pop2, 1)) ∧ (decode cL_law 1071 = .ok (.goto 115, 3)) := by decide +kernel
theorem dL_law_1064 : decode cL_law 1064 = .ok (.iconst 5, 1) := dL_law_k121.1
theorem dL_law_1065 : decode cL_law 1065 = .ok (.iadd, 1) := dL_law_k121.2.1
theorem dL_law_1066 : decode cL_law 1066 = .ok (.iaload, 1) := dL_law_k121.2.2.1
theorem dL_law_1067 : decode cL_law 1067 = .ok (.invokevirtual 138, 3) := dL_law_k121.2.2.2.1
theorem dL_law_1070 : decode cL_law 1070 = .ok (.pop2, 1) := dL_law_k121.2.2.2.2.1
theorem dL_law_1071 : decode cL_law 1071 = .ok (.goto 115, 3) := dL_law_k121.2.2.2.2.2
set_option maxRecDepth 100000 in
theorem dL_law_k122 : (decode cL_law 1074 = .ok (.aload_n 1, 1)) ∧ (decode cL_law 1075 = .ok (.aload_n 0, 1)) ∧ (decode cL_law 1076 = .ok (.iload_n 3, 1)) ∧ (decode cL_law 1077 = .ok (.iconst 1, 1)) ∧ (decode cL_law 1078 = .ok (.iadd, 1)) ∧ (decode cL_law 1079 = .ok (.iaload, 1)) := by decide +kernel
theorem dL_law_1074 : decode cL_law 1074 = .ok (.aload_n 1, 1) := dL_law_k122.1
theorem dL_law_1075 : decode cL_law 1075 = .ok (.aload_n 0, 1) := dL_law_k122.2.1
theorem dL_law_1076 : decode cL_law 1076 = .ok (.iload_n 3, 1) := dL_law_k122.2.2.1
theorem dL_law_1077 : decode cL_law 1077 = .ok (.iconst 1, 1) := dL_law_k122.2.2.2.1
theorem dL_law_1078 : decode cL_law 1078 = .ok (.iadd, 1) := dL_law_k122.2.2.2.2.1
theorem dL_law_1079 : decode cL_law 1079 = .ok (.iaload, 1) := dL_law_k122.2.2.2.2.2
set_option maxRecDepth 100000 in
theorem dL_law_k123 : (decode cL_law 1080 = .ok (.aload_n 0, 1)) ∧ (decode cL_law 1081 = .ok (.iload_n 3, 1)) ∧ (decode cL_law 1082 = .ok (.iconst 2, 1)) ∧ (decode cL_law 1083 = .ok (.iadd, 1)) ∧ (decode cL_law 1084 = .ok (.iaload, 1)) ∧ (decode cL_law 1085 = .ok (.aload_n 0, 1)) := by decide +kernel
theorem dL_law_1080 : decode cL_law 1080 = .ok (.aload_n 0, 1) := dL_law_k123.1
theorem dL_law_1081 : decode cL_law 1081 = .ok (.iload_n 3, 1) := dL_law_k123.2.1
theorem dL_law_1082 : decode cL_law 1082 = .ok (.iconst 2, 1) := dL_law_k123.2.2.1
theorem dL_law_1083 : decode cL_law 1083 = .ok (.iadd, 1) := dL_law_k123.2.2.2.1
theorem dL_law_1084 : decode cL_law 1084 = .ok (.iaload, 1) := dL_law_k123.2.2.2.2.1
theorem dL_law_1085 : decode cL_law 1085 = .ok (.aload_n 0, 1) := dL_law_k123.2.2.2.2.2
set_option maxRecDepth 100000 in
theorem dL_law_k124 : (decode cL_law 1086 = .ok (.iload_n 3, 1)) ∧ (decode cL_law 1087 = .ok (.iconst 3, 1)) ∧ (decode cL_law 1088 = .ok (.iadd, 1)) ∧ (decode cL_law 1089 = .ok (.iaload, 1)) ∧ (decode cL_law 1090 = .ok (.invokevirtual 139, 3)) ∧ (decode cL_law 1093 = .ok (.pop, 1)) := by decide +kernel
theorem dL_law_1086 : decode cL_law 1086 = .ok (.iload_n 3, 1) := dL_law_k124.1
theorem dL_law_1087 : decode cL_law 1087 = .ok (.iconst 3, 1) := dL_law_k124.2.1
theorem dL_law_1088 : decode cL_law 1088 = .ok (.iadd, 1) := dL_law_k124.2.2.1
theorem dL_law_1089 : decode cL_law 1089 = .ok (.iaload, 1) := dL_law_k124.2.2.2.1
theorem dL_law_1090 : decode cL_law 1090 = .ok (.invokevirtual 139, 3) := dL_law_k124.2.2.2.2.1
theorem dL_law_1093 : decode cL_law 1093 = .ok (.pop, 1) := dL_law_k124.2.2.2.2.2
set_option maxRecDepth 100000 in
theorem dL_law_k125 : (decode cL_law 1094 = .ok (.aload_n 2, 1)) ∧ (decode cL_law 1095 = .ok (.aload_n 0, 1)) ∧ (decode cL_law 1096 = .ok (.iload_n 3, 1)) ∧ (decode cL_law 1097 = .ok (.iconst 1, 1)) ∧ (decode cL_law 1098 = .ok (.iadd, 1)) ∧ (decode cL_law 1099 = .ok (.iaload, 1)) := by decide +kernel
theorem dL_law_1094 : decode cL_law 1094 = .ok (.aload_n 2, 1) := dL_law_k125.1
theorem dL_law_1095 : decode cL_law 1095 = .ok (.aload_n 0, 1) := dL_law_k125.2.1
theorem dL_law_1096 : decode cL_law 1096 = .ok (.iload_n 3, 1) := dL_law_k125.2.2.1
theorem dL_law_1097 : decode cL_law 1097 = .ok (.iconst 1, 1) := dL_law_k125.2.2.2.1
theorem dL_law_1098 : decode cL_law 1098 = .ok (.iadd, 1) := dL_law_k125.2.2.2.2.1
theorem dL_law_1099 : decode cL_law 1099 = .ok (.iaload, 1) := dL_law_k125.2.2.2.2.2
set_option maxRecDepth 100000 in
theorem dL_law_k126 : (decode cL_law 1100 = .ok (.aload_n 0, 1)) ∧ (decode cL_law 1101 = .ok (.iload_n 3, 1)) ∧ (decode cL_law 1102 = .ok (.iconst 2, 1)) ∧ (decode cL_law 1103 = .ok (.iadd, 1)) ∧ (decode cL_law 1104 = .ok (.iaload, 1)) ∧ (decode cL_law 1105 = .ok (.aload_n 0, 1)) := by decide +kernel
theorem dL_law_1100 : decode cL_law 1100 = .ok (.aload_n 0, 1) := dL_law_k126.1
theorem dL_law_1101 : decode cL_law 1101 = .ok (.iload_n 3, 1) := dL_law_k126.2.1
theorem dL_law_1102 : decode cL_law 1102 = .ok (.iconst 2, 1) := dL_law_k126.2.2.1
theorem dL_law_1103 : decode cL_law 1103 = .ok (.iadd, 1) := dL_law_k126.2.2.2.1
theorem dL_law_1104 : decode cL_law 1104 = .ok (.iaload, 1) := dL_law_k126.2.2.2.2.1
theorem dL_law_1105 : decode cL_law 1105 = .ok (.aload_n 0, 1) := dL_law_k126.2.2.2.2.2
set_option maxRecDepth 100000 in
theorem dL_law_k127 : (decode cL_law 1106 = .ok (.iload_n 3, 1)) ∧ (decode cL_law 1107 = .ok (.iconst 3, 1)) ∧ (decode cL_law 1108 = .ok (.iadd, 1)) ∧ (decode cL_law 1109 = .ok (.iaload, 1)) ∧ (decode cL_law 1110 = .ok (.invokevirtual 142, 3)) ∧ (decode cL_law 1113 = .ok (.pop, 1)) := by decide +kernel
theorem dL_law_1106 : decode cL_law 1106 = .ok (.iload_n 3, 1) := dL_law_k127.1
theorem dL_law_1107 : decode cL_law 1107 = .ok (.iconst 3, 1) := dL_law_k127.2.1
theorem dL_law_1108 : decode cL_law 1108 = .ok (.iadd, 1) := dL_law_k127.2.2.1
theorem dL_law_1109 : decode cL_law 1109 = .ok (.iaload, 1) := dL_law_k127.2.2.2.1
theorem dL_law_1110 : decode cL_law 1110 = .ok (.invokevirtual 142, 3) := dL_law_k127.2.2.2.2.1
theorem dL_law_1113 : decode cL_law 1113 = .ok (.pop, 1) := dL_law_k127.2.2.2.2.2
set_option maxRecDepth 100000 in
theorem dL_law_k128 : (decode cL_law 1114 = .ok (.goto 72, 3)) ∧ (decode cL_law 1117 = .ok (.aload_n 1, 1)) ∧ (decode cL_law 1118 = .ok (.aload_n 0, 1)) ∧ (decode cL_law 1119 = .ok (.iload_n 3, 1)) ∧ (decode cL_law 1120 = .ok (.iconst 1, 1)) ∧ (decode cL_law 1121 = .ok (.iadd, 1)) := by decide +kernel
theorem dL_law_1114 : decode cL_law 1114 = .ok (.goto 72, 3) := dL_law_k128.1
theorem dL_law_1117 : decode cL_law 1117 = .ok (.aload_n 1, 1) := dL_law_k128.2.1
theorem dL_law_1118 : decode cL_law 1118 = .ok (.aload_n 0, 1) := dL_law_k128.2.2.1
theorem dL_law_1119 : decode cL_law 1119 = .ok (.iload_n 3, 1) := dL_law_k128.2.2.2.1
theorem dL_law_1120 : decode cL_law 1120 = .ok (.iconst 1, 1) := dL_law_k128.2.2.2.2.1
theorem dL_law_1121 : decode cL_law 1121 = .ok (.iadd, 1) := dL_law_k128.2.2.2.2.2
set_option maxRecDepth 100000 in
theorem dL_law_k129 : (decode cL_law 1122 = .ok (.iaload, 1)) ∧ (decode cL_law 1123 = .ok (.invokevirtual 143, 3)) ∧ (decode cL_law 1126 = .ok (.pop, 1)) ∧ (decode cL_law 1127 = .ok (.aload_n 2, 1)) ∧ (decode cL_law 1128 = .ok (.aload_n 0, 1)) ∧ (decode cL_law 1129 = .ok (.iload_n 3, 1)) := by decide +kernel
theorem dL_law_1122 : decode cL_law 1122 = .ok (.iaload, 1) := dL_law_k129.1
theorem dL_law_1123 : decode cL_law 1123 = .ok (.invokevirtual 143, 3) := dL_law_k129.2.1
theorem dL_law_1126 : decode cL_law 1126 = .ok (.pop, 1) := dL_law_k129.2.2.1
theorem dL_law_1127 : decode cL_law 1127 = .ok (.aload_n 2, 1) := dL_law_k129.2.2.2.1
theorem dL_law_1128 : decode cL_law 1128 = .ok (.aload_n 0, 1) := dL_law_k129.2.2.2.2.1
theorem dL_law_1129 : decode cL_law 1129 = .ok (.iload_n 3, 1) := dL_law_k129.2.2.2.2.2
set_option maxRecDepth 100000 in
theorem dL_law_k130 : (decode cL_law 1130 = .ok (.iconst 1, 1)) ∧ (decode cL_law 1131 = .ok (.iadd, 1)) ∧ (decode cL_law 1132 = .ok (.iaload, 1)) ∧ (decode cL_law 1133 = .ok (.invokevirtual 146, 3)) ∧ (decode cL_law 1136 = .ok (.pop, 1)) ∧ (decode cL_law 1137 = .ok (.goto 49, 3)) := by decide +kernel
theorem dL_law_1130 : decode cL_law 1130 = .ok (.iconst 1, 1) := dL_law_k130.1
theorem dL_law_1131 : decode cL_law 1131 = .ok (.iadd, 1) := dL_law_k130.2.1
theorem dL_law_1132 : decode cL_law 1132 = .ok (.iaload, 1) := dL_law_k130.2.2.1
theorem dL_law_1133 : decode cL_law 1133 = .ok (.invokevirtual 146, 3) := dL_law_k130.2.2.2.1
theorem dL_law_1136 : decode cL_law 1136 = .ok (.pop, 1) := dL_law_k130.2.2.2.2.1
theorem dL_law_1137 : decode cL_law 1137 = .ok (.goto 49, 3) := dL_law_k130.2.2.2.2.2
set_option maxRecDepth 100000 in
theorem dL_law_k131 : (decode cL_law 1140 = .ok (.aload_n 1, 1)) ∧ (decode cL_law 1141 = .ok (.aload_n 0, 1)) ∧ (decode cL_law 1142 = .ok (.iload_n 3, 1)) ∧ (decode cL_law 1143 = .ok (.iconst 1, 1)) ∧ (decode cL_law 1144 = .ok (.iadd, 1)) ∧ (decode cL_law 1145 = .ok (.iaload, 1)) := by decide +kernel
theorem dL_law_1140 : decode cL_law 1140 = .ok (.aload_n 1, 1) := dL_law_k131.1
theorem dL_law_1141 : decode cL_law 1141 = .ok (.aload_n 0, 1) := dL_law_k131.2.1
theorem dL_law_1142 : decode cL_law 1142 = .ok (.iload_n 3, 1) := dL_law_k131.2.2.1
theorem dL_law_1143 : decode cL_law 1143 = .ok (.iconst 1, 1) := dL_law_k131.2.2.2.1
theorem dL_law_1144 : decode cL_law 1144 = .ok (.iadd, 1) := dL_law_k131.2.2.2.2.1
theorem dL_law_1145 : decode cL_law 1145 = .ok (.iaload, 1) := dL_law_k131.2.2.2.2.2
set_option maxRecDepth 100000 in
theorem dL_law_k132 : (decode cL_law 1146 = .ok (.invokevirtual 147, 3)) ∧ (decode cL_law 1149 = .ok (.pop, 1)) ∧ (decode cL_law 1150 = .ok (.aload_n 2, 1)) ∧ (decode cL_law 1151 = .ok (.aload_n 0, 1)) ∧ (decode cL_law 1152 = .ok (.iload_n 3, 1)) ∧ (decode cL_law 1153 = .ok (.iconst 1, 1)) := by decide +kernel
theorem dL_law_1146 : decode cL_law 1146 = .ok (.invokevirtual 147, 3) := dL_law_k132.1
theorem dL_law_1149 : decode cL_law 1149 = .ok (.pop, 1) := dL_law_k132.2.1
theorem dL_law_1150 : decode cL_law 1150 = .ok (.aload_n 2, 1) := dL_law_k132.2.2.1
theorem dL_law_1151 : decode cL_law 1151 = .ok (.aload_n 0, 1) := dL_law_k132.2.2.2.1
theorem dL_law_1152 : decode cL_law 1152 = .ok (.iload_n 3, 1) := dL_law_k132.2.2.2.2.1
theorem dL_law_1153 : decode cL_law 1153 = .ok (.iconst 1, 1) := dL_law_k132.2.2.2.2.2
set_option maxRecDepth 100000 in
theorem dL_law_k133 : (decode cL_law 1154 = .ok (.iadd, 1)) ∧ (decode cL_law 1155 = .ok (.iaload, 1)) ∧ (decode cL_law 1156 = .ok (.invokevirtual 150, 3)) ∧ (decode cL_law 1159 = .ok (.pop, 1)) ∧ (decode cL_law 1160 = .ok (.goto 26, 3)) ∧ (decode cL_law 1163 = .ok (.aload_n 1, 1)) := by decide +kernel
theorem dL_law_1154 : decode cL_law 1154 = .ok (.iadd, 1) := dL_law_k133.1
theorem dL_law_1155 : decode cL_law 1155 = .ok (.iaload, 1) := dL_law_k133.2.1
theorem dL_law_1156 : decode cL_law 1156 = .ok (.invokevirtual 150, 3) := dL_law_k133.2.2.1
theorem dL_law_1159 : decode cL_law 1159 = .ok (.pop, 1) := dL_law_k133.2.2.2.1
theorem dL_law_1160 : decode cL_law 1160 = .ok (.goto 26, 3) := dL_law_k133.2.2.2.2.1
theorem dL_law_1163 : decode cL_law 1163 = .ok (.aload_n 1, 1) := dL_law_k133.2.2.2.2.2
set_option maxRecDepth 100000 in
theorem dL_law_k134 : (decode cL_law 1164 = .ok (.aload_n 0, 1)) ∧ (decode cL_law 1165 = .ok (.iload_n 3, 1)) ∧ (decode cL_law 1166 = .ok (.iconst 1, 1)) ∧ (decode cL_law 1167 = .ok (.iadd, 1)) ∧ (decode cL_law 1168 = .ok (.iaload, 1)) ∧ (decode cL_law 1169 = .ok (.invokevirtual 151, 3)) := by decide +kernel
theorem dL_law_1164 : decode cL_law 1164 = .ok (.aload_n 0, 1) := dL_law_k134.1
theorem dL_law_1165 : decode cL_law 1165 = .ok (.iload_n 3, 1) := dL_law_k134.2.1
theorem dL_law_1166 : decode cL_law 1166 = .ok (.iconst 1, 1) := dL_law_k134.2.2.1
theorem dL_law_1167 : decode cL_law 1167 = .ok (.iadd, 1) := dL_law_k134.2.2.2.1
theorem dL_law_1168 : decode cL_law 1168 = .ok (.iaload, 1) := dL_law_k134.2.2.2.2.1
theorem dL_law_1169 : decode cL_law 1169 = .ok (.invokevirtual 151, 3) := dL_law_k134.2.2.2.2.2
set_option maxRecDepth 100000 in
theorem dL_law_k135 : (decode cL_law 1172 = .ok (.pop, 1)) ∧ (decode cL_law 1173 = .ok (.aload_n 2, 1)) ∧ (decode cL_law 1174 = .ok (.aload_n 0, 1)) ∧ (decode cL_law 1175 = .ok (.iload_n 3, 1)) ∧ (decode cL_law 1176 = .ok (.iconst 1, 1)) ∧ (decode cL_law 1177 = .ok (.iadd, 1)) := by decide +kernel
theorem dL_law_1172 : decode cL_law 1172 = .ok (.pop, 1) := dL_law_k135.1
theorem dL_law_1173 : decode cL_law 1173 = .ok (.aload_n 2, 1) := dL_law_k135.2.1
theorem dL_law_1174 : decode cL_law 1174 = .ok (.aload_n 0, 1) := dL_law_k135.2.2.1
theorem dL_law_1175 : decode cL_law 1175 = .ok (.iload_n 3, 1) := dL_law_k135.2.2.2.1
theorem dL_law_1176 : decode cL_law 1176 = .ok (.iconst 1, 1) := dL_law_k135.2.2.2.2.1
theorem dL_law_1177 : decode cL_law 1177 = .ok (.iadd, 1) := dL_law_k135.2.2.2.2.2
set_option maxRecDepth 100000 in
theorem dL_law_k136 : (decode cL_law 1178 = .ok (.iaload, 1)) ∧ (decode cL_law 1179 = .ok (.invokevirtual 154, 3)) ∧ (decode cL_law 1182 = .ok (.pop, 1)) ∧ (decode cL_law 1183 = .ok (.goto 3, 3)) ∧ (decode cL_law 1186 = .ok (.iinc 3 6, 3)) ∧ (decode cL_law 1189 = .ok (.goto (-1171), 3)) := by decide +kernel
theorem dL_law_1178 : decode cL_law 1178 = .ok (.iaload, 1) := dL_law_k136.1
theorem dL_law_1179 : decode cL_law 1179 = .ok (.invokevirtual 154, 3) := dL_law_k136.2.1
theorem dL_law_1182 : decode cL_law 1182 = .ok (.pop, 1) := dL_law_k136.2.2.1
theorem dL_law_1183 : decode cL_law 1183 = .ok (.goto 3, 3) := dL_law_k136.2.2.2.1
theorem dL_law_1186 : decode cL_law 1186 = .ok (.iinc 3 6, 3) := dL_law_k136.2.2.2.2.1
theorem dL_law_1189 : decode cL_law 1189 = .ok (.goto (-1171), 3) := dL_law_k136.2.2.2.2.2
set_option maxRecDepth 100000 in
theorem dL_law_k137 : (decode cL_law 1192 = .ok (.iconst 1, 1)) ∧ (decode cL_law 1193 = .ok (.ireturn, 1)) := by decide +kernel
theorem dL_law_1192 : decode cL_law 1192 = .ok (.iconst 1, 1) := dL_law_k137.1
theorem dL_law_1193 : decode cL_law 1193 = .ok (.ireturn, 1) := dL_law_k137.2
